noncomputable def hp0 : AH := (0, (0, List.replicate 7 (List.replicate 32 none)))
noncomputable def cal0 : CAL := evG FM 7 100000 12
def Lw0 : LO := [some (.inr (.inr (.inr 1))), none, none, none, none, none, none]
def Lw : LO := [some (.inr (.inr (.inr 1))), some (.inr (.inr (.inl 0))), some (.inr (.inr (.inl 173))), some (.inr (.inr (.inl 198))), some (.inl (0, 0)), none, none]
noncomputable def headR : Option (LO × (List AV × AH)) := evT cal0 none 23 ft_L_law 100 0 Lw0 [] hp0
noncomputable def headOK : Bool := match headR with
  | some (L, (S, h)) => decide (L = Lw) && (decide (S = []) && (Nat.ble h.1 1000 && Nat.ble h.2.1 100000))
  | none => false
theorem head_ok : headOK = true := by decide +kernel
noncomputable def hS : AH := match headR with
  | some (_, (_, h)) => h
  | none => hp0
theorem head_eq : headR = some (Lw, ([], hS)) ∧ hS.1 ≤ 1000 ∧ hS.2.1 ≤ 100000 := by
  have h := head_ok
  unfold headOK at h
  unfold hS
  split at h
  · rename_i L S hh hr
    simp only [Bool.and_eq_true, decide_eq_true_eq] at h
    obtain ⟨rfl, rfl, h1, h2⟩ := h
    rw [hr]
    exact ⟨rfl, Nat.le_of_ble_eq_true h1, Nat.le_of_ble_eq_true h2⟩
  · cases h
def tgL : List Nat := [224, 297, 322, 335, 348, 416, 453, 490, 527, 564, 601, 626, 663, 700, 749, 798, 811, 836, 849, 862, 887, 924, 949, 986, 1023, 1036, 1049, 1062, 1111, 1136, 1161, 1174, 1199, 1224, 1261, 1310, 1335, 1360, 1373, 1398, 1423, 1448, 1473]
def tg (k : Nat) : Nat := tgL.getD k 0
def fb (q : AI × (AI × AI)) : Nat → AI := fun j => match j with
  | 1 => q.1
  | 2 => q.2.1
  | 3 => q.2.2
  | _ => iTop
noncomputable def chkG (cal : CAL) (pc : Nat) (L : LO) (S : List AV) (f : Nat → AI) (h : AH) : Bool := match evF cal (some f) (some .boolean) ft_L_law tb_L_law 1000 pc L S h with
  | some (some (.inl a), h') => decide (a = (1, 1)) && (Nat.ble h'.1 600000 && Nat.ble h'.2.1 7302000)
  | _ => false
noncomputable def chk (k : Nat) (f : Nat → AI) (h : AH) : Bool := chkG cal0 (tg k) Lw [] f h
noncomputable def runsB (rs : List (Nat × (AI × (AI × AI)))) : Bool := match headR with
  | some (_, (_, h)) => rs.all (fun r => chk r.1 (fb r.2) h)
  | none => false
theorem runs_get {rs : List (Nat × (AI × (AI × AI)))} (h : runsB rs = true) {r : Nat × (AI × (AI × AI))} (hr : r ∈ rs) : chk r.1 (fb r.2) hS = true := by
  unfold runsB at h
  rw [head_eq.1] at h
  exact List.all_eq_true.mp h r hr
section LAW
variable {p : Program} {l : Launch} {e : Env} {s : State} {m : MethodId} {below : List Frame} {meth : Method} {c : Code} {b : Nat}
variable {G : va_G} {cy : Nat → ClassId}
theorem PM_tok {mr : MR} (h : PM 7 = some mr) : mr.1 = yX10_init ∧ mr.2.1 = cX10_init ∧ mr.2.2.1 = 6 ∧ mr.2.2.2.1 = none := by
  have h2 : PM 7 = some mr_X10_init := rfl
  rw [h2] at h
  obtain rfl := Option.some.inj h
  exact ⟨rfl, rfl, rfl, rfl⟩
theorem cal0_ok : ∀ y mr As h r h', PM y = some mr → cal0 y As h = some (r, h') → Ctr l G cy mr 12 As h r h' := fun y mr As h r h' hp hz => evG_sound PM_ok DF_ok FM_ok (fun d As h r h' mr hd hm hz => tok_ctr hd (PM_tok hm) hz) 12 y mr As h r h' hp hz
abbrev CxL (p : Program) (c : Code) (m : MethodId) (s : State) (b : Nat) (meth : Method) (G : va_G) (cy : Nat → ClassId) : Prop := Cx p c m s #[Value.ref b] meth G cy (fun q : Nat => s.heap.size ≤ q) "MerryDuchyLaw" meth.name cL_law 7
abbrev WkL (p : Program) (l : Launch) (e : Env) (s : State) (m : MethodId) (b : Nat) (below : List Frame) (meth : Method) (c : Code) (G : va_G) (cy : Nat → ClassId) (x0 pc : Nat) (L : LO) (S : List AV) (h : AH) : Prop := Wk p l e room_1 s m #[Value.ref b] below meth c (lw_Z below #[Value.ref b] s) G cy (b, []) (fun q : Nat => s.heap.size ≤ q) 7 x0 0 pc L S h
theorem int_one {x : Int32} (h : (1 : Int) ≤ x.toInt ∧ x.toInt ≤ 1) : x = 1 := Int32.toInt_inj.mp (by rw [show (1 : Int32).toInt = 1 from rfl]; omega)
theorem law_runG (C : CxL p c m s b meth G cy) (hr : meth.sig.returnType = ret) (hlocks : meth.locks = false) {cal : CAL} (hcal : ∀ y mr As h r h', PM y = some mr → cal y As h = some (r, h') → Ctr l G cy mr 12 As h r h') {x0 : Nat} (hx0 : x0 ≤ 1) {pc : Nat} {L : LO} {S : List AV} {f : Nat → AI} {h : AH} (hsc : okSc s (b, []) (fun q : Nat => s.heap.size ≤ q) (some f)) (hz : chkG cal pc L S f h = true) : WkL p l e s m b below meth c G cy x0 pc L S h := by
  unfold chkG at hz
  split at hz
  · rename_i a h' he
    simp only [Bool.and_eq_true, decide_eq_true_eq] at hz
    obtain ⟨rfl, h1, h2⟩ := hz
    have h1 := Nat.le_of_ble_eq_true h1
    have h2 := Nat.le_of_ble_eq_true h2
    have he2 := evF_ok (P := PM) (dfs := DF) fk_L_law rfl he
    refine evB_sound C PM_ok hcal hsc DF_ok (ot_L_law meth.name) (by decide) (by decide) ⟨by show h'.1 + 1 - x0 ≤ 600002; omega, by show h'.2.1 - 0 ≤ 7302232; omega⟩ ?_ he2 (by omega) (Nat.zero_le _)
    intro pc L S hrt ws ls st H locs hs
    rcases rets_ok hrt with ⟨a, q, hp, rfl, ha, _⟩ | ⟨q, _, _, h, _⟩
    · obtain ⟨hd, _⟩ := ot_L_law meth.name pc _ _ _ _ _ hp
      obtain ⟨v, st1, rfl, gv, g2⟩ := hs.2.2.1.cons
      obtain rfl := g2.nil
      obtain ⟨x, rfl, hx⟩ := gv.int
      simp only [Option.some.injEq, Sum.inl.injEq] at ha
      subst ha
      obtain rfl := int_one hx
      refine va_forget (fun q hq => hs.2.2.2.2.2.2.2 q hq) ?_
      refine W.widen (k := 600002) (n := 7302232) (by omega) (by omega) ?_
      exact lw_ret C.1 C.2.1 hr hlocks hd
    · cases h
  · cases hz
theorem law_run (C : CxL p c m s b meth G cy) (hr : meth.sig.returnType = ret) (hlocks : meth.locks = false) {k : Nat} {f : Nat → AI} (hsc : okSc s (b, []) (fun q : Nat => s.heap.size ≤ q) (some f)) (hz : chk k f hS = true) : WkL p l e s m b below meth c G cy 1 (tg k) Lw [] hS := law_runG C hr hlocks cal0_ok (Nat.le_refl _) hsc hz
theorem law_head (C : CxL p c m s b meth G cy) (k : WkL p l e s m b below meth c G cy 1 23 Lw [] hS) : WkL p l e s m b below meth c G cy 1 0 Lw0 [] hp0 := by
  obtain ⟨h1, h2, h3⟩ := head_eq
  exact evT_sound C PM_ok cal0_ok (sc := none) (fun f hf => by cases hf) DF_ok (ot_L_law meth.name) (rt := some .boolean) fk_L_law (by decide) (by decide) ⟨by show hS.1 + 1 - 1 ≤ 600002; omega, by show hS.2.1 - 0 ≤ 7302232; omega⟩ k h1 (Nat.le_add_left _ _) (Nat.zero_le _)
theorem hp0_none (i : Nat) (cc : AC) : hget hp0 i ≠ some cc := by
  intro h
  unfold hget hp0 pg at h
  simp only [lg_eq, List.getElem?_replicate] at h
  by_cases h1 : i / 32 < 7
  · simp only [if_pos h1, List.getElem?_replicate] at h
    rw [if_pos (Nat.mod_lt _ (by decide))] at h
    cases h
  · simp only [if_neg h1] at h
    cases h
theorem tb_sw : ∀ k : Nat, k < 42 → (#[184, 257, 282, 295, 308, 376, 413, 450, 487, 524, 561, 586, 623, 660, 709, 758, 771, 796, 809, 822, 847, 884, 909, 946, 983, 996, 1009, 1022, 1071, 1096, 1121, 1134, 1159, 1184, 1221, 1270, 1295, 1320, 1333, 1358, 1383, 1408] : Array Int)[k]? = some (((tg k : Nat) : Int) - 40) := by decide +kernel
/-- from the loop's head, with six ints, to the place of the call -/
theorem law_go (C : CxL p c m s b meth G cy) {xs : Nat → Int32} (hX : va_X b 6 xs s s.heap) (hbl : b < s.heap.size) (k : ∀ j, j < 43 → WkL p l e s m b below meth c G cy 1 (tg j) Lw [] hS) : WkL p l e s m b below meth c G cy 1 23 Lw [] hS := by
  have hsc : okSc s (b, []) (fun q : Nat => s.heap.size ≤ q) (some (fun _ => iTop)) := fun f hf => by
    obtain rfl := Option.some.inj hf
    exact ⟨xs, hX, hbl, Nat.not_le.mpr hbl, fun j _ => iTop_ok _⟩
  refine s_iload (i := 4) (a := (0, 0)) rfl (fun H locs ls st x hx kk => lv_iload C.1 C.2.1 dd_L_law_23 hx kk) ?_
  refine s_aload (i := 0) (a := .inr 1) rfl (fun H locs ls st x hx kk => lv_aload_n C.1 C.2.1 dd_L_law_25 rfl hx kk) (fun H locs ls st hx kk => lv_aload_nN C.1 C.2.1 dd_L_law_25 rfl hx kk) ?_
  refine s_slen C hsc rfl dd_L_law_26 ?_
  refine s_push (v := 6) (a := (6, 6)) (fun H locs ls st kk => lv_bipush C.1 C.2.1 dd_L_law_27 (by decide) kk) ⟨by decide, by decide⟩ ?_
  refine s_int2 (f := fun x y => x - y) (r := isb (6, 6) (6, 6)) (fun H locs ls st x y _ _ kk => lv_isub C.1 C.2.1 dd_L_law_29 kk) (fun x y hx hy => isb_ok hx hy) ?_
  refine s_icmp (t := 1479) (pc2 := 33) (r := false) C dd_L_law_30 (by decide) (by decide) (Or.inr ⟨rfl, rfl⟩) ?_
  refine s_aload (i := 0) (a := .inr 1) rfl (fun H locs ls st x hx kk => lv_aload_n C.1 C.2.1 dd_L_law_33 rfl hx kk) (fun H locs ls st hx kk => lv_aload_nN C.1 C.2.1 dd_L_law_33 rfl hx kk) ?_
  refine s_iload (i := 4) (a := (0, 0)) rfl (fun H locs ls st x hx kk => lv_iload C.1 C.2.1 dd_L_law_34 hx kk) ?_
  intro ws ls st H locs hs
  obtain ⟨v1, st0, rfl, g0, g00⟩ := hs.2.2.1.cons
  obtain ⟨x, rfl, hx⟩ := g0.int
  obtain ⟨w, st1, rfl, g1, g2⟩ := g00.cons
  obtain rfl := g2.nil
  rcases g1.ext with ⟨_, h1⟩ | ⟨rfl, _⟩
  · cases h1
  · refine va_sld C.1 C.2.1 hX hbl (Nat.not_le.mpr hbl) hs.2.2.2.2.2 (vin_ok (i := 0) hx (by decide)) dd_L_law_36 ?_
    refine lv_bipush (v := 63) C.1 C.2.1 dd_L_law_37 (by decide) ?_
    refine lv_iand C.1 C.2.1 dd_L_law_39 ?_
    obtain ⟨j, hj, hjj⟩ := pk_andE (xs x.toNatClampNeg) (m := 63) 6 (by decide)
    rw [hjj]
    have hti : (nI j).toInt = (j : Int) := nI_toInt (by omega)
    by_cases h42 : j < 42
    · refine lv_tableIn (tgt := tg j) C.1 C.2.1 dd_L_law_40 (by rw [hti]; omega) (by rw [hti]; omega) (by rw [hti, show ((j : Int) - 0).toNat = j by omega]; exact tb_sw j h42) (by omega) ?_
      exact k j (by omega) ws ls [] H locs ⟨hs.1, hs.2.1, trivial, hs.2.2.2⟩
    · refine lv_tableOut (tgt := tg 42) C.1 C.2.1 dd_L_law_40 (by rw [hti]; omega) (by decide) ?_
      exact k 42 (by decide) ws ls [] H locs ⟨hs.1, hs.2.1, trivial, hs.2.2.2⟩
/-- a script that is too short for a call -/
theorem law_short (C : CxL p c m s b meth G cy) (hr : meth.sig.returnType = ret) (hlocks : meth.locks = false) {L : Nat} {xs : Nat → Int32} (hX : va_X b L xs s s.heap) (hbl : b < s.heap.size) (hL : L < 6) : WkL p l e s m b below meth c G cy 1 23 Lw [] hS := by
  refine s_iload (i := 4) (a := (0, 0)) rfl (fun H locs ls st x hx kk => lv_iload C.1 C.2.1 dd_L_law_23 hx kk) ?_
  refine s_aload (i := 0) (a := .inr 1) rfl (fun H locs ls st x hx kk => lv_aload_n C.1 C.2.1 dd_L_law_25 rfl hx kk) (fun H locs ls st hx kk => lv_aload_nN C.1 C.2.1 dd_L_law_25 rfl hx kk) ?_
  intro ws ls st H locs hs
  obtain ⟨w, st0, rfl, g1, g00⟩ := hs.2.2.1.cons
  obtain ⟨v1, st1, rfl, g0, g2⟩ := g00.cons
  obtain ⟨x, rfl, hx⟩ := g0.int
  obtain rfl := g2.nil
  rcases g1.ext with ⟨_, h1⟩ | ⟨rfl, _⟩
  · cases h1
  · refine va_slen C.1 C.2.1 hX hbl (Nat.not_le.mpr hbl) hs.2.2.2.2.2 dd_L_law_26 ?_
    refine lv_bipush (v := 6) C.1 C.2.1 dd_L_law_27 (by decide) ?_
    refine lv_isub C.1 C.2.1 dd_L_law_29 ?_
    have hlt : Int32.ofNat L - 6 < x := by
      rw [Int32.lt_iff_toInt_lt, Int32.toInt_sub, Int32.toInt_ofNat_of_lt (by omega), show (6 : Int32).toInt = 6 from rfl, bm_id (by omega) (by omega)]
      have := hx.1
      simp only at this
      omega
    refine lv_icmp_gt (tgt := 1479) C.1 C.2.1 dd_L_law_30 (by decide) (fun _ => ?_) (fun h => absurd hlt h)
    refine lv_iconst (v := 1) C.1 C.2.1 dd_L_law_1479 (by decide) ?_
    refine va_forget (fun q hq => hs.2.2.2.2.2.2.2 q hq) ?_
    obtain ⟨_, h2, h3⟩ := head_eq
    refine W.widen (k := 600002) (n := 7302232) (by omega) (by omega) ?_
    exact lw_ret C.1 C.2.1 hr hlocks dd_L_law_1480
end LAW
def covF : Int → List AI → Bool
  | lo, [] => decide (2147483647 < lo)
  | lo, i :: r => decide (i.1 ≤ lo) && covF (i.2 + 1) r
theorem cov_get : ∀ {I : List AI} {lo z : Int}, covF lo I = true → lo ≤ z → z ≤ 2147483647 → ∃ i ∈ I, i.1 ≤ z ∧ z ≤ i.2
  | [], lo, z, h, h1, h2 => by
    simp only [covF, decide_eq_true_eq] at h
    omega
  | i :: r, lo, z, h, h1, h2 => by
    simp only [covF, Bool.and_eq_true, decide_eq_true_eq] at h
    by_cases hz : z ≤ i.2
    · exact ⟨i, List.mem_cons_self, by omega, hz⟩
    · obtain ⟨j, hj, h3⟩ := cov_get h.2 (by omega) h2
      exact ⟨j, List.mem_cons_of_mem _ hj, h3⟩
theorem cov_ok {I : List AI} (h : covF (-2147483648) I = true) (x : Int32) : ∃ i ∈ I, i.1 ≤ x.toInt ∧ x.toInt ≤ i.2 := cov_get h (i32_lo x) (i32_hi x)
def pr3 (k : Nat) (I J K : List AI) : List (Nat × (AI × (AI × AI))) := I.flatMap fun i => J.flatMap fun j => K.map fun q => (k, (i, (j, q)))
theorem pr3_mem {k : Nat} {I J K : List AI} {i j q : AI} (hi : i ∈ I) (hj : j ∈ J) (hq : q ∈ K) : (k, (i, (j, q))) ∈ pr3 k I J K := List.mem_flatMap.mpr ⟨i, hi, List.mem_flatMap.mpr ⟨j, hj, List.mem_map.mpr ⟨q, hq, rfl⟩⟩⟩
theorem sc_of {s : State} {b : Nat} {xs : Nat → Int32} (hX : va_X b 6 xs s s.heap) (hbl : b < s.heap.size) {i j q : AI} (hi : i.1 ≤ (xs 1).toInt ∧ (xs 1).toInt ≤ i.2) (hj : j.1 ≤ (xs 2).toInt ∧ (xs 2).toInt ≤ j.2) (hq : q.1 ≤ (xs 3).toInt ∧ (xs 3).toInt ≤ q.2) : okSc s (b, []) (fun q : Nat => s.heap.size ≤ q) (some (fb (i, (j, q)))) := by
  intro f hf
  obtain rfl := Option.some.inj hf
  refine ⟨xs, hX, hbl, Nat.not_le.mpr hbl, fun t _ => ?_⟩
  rcases t with _ | _ | _ | _ | t
  · exact iTop_ok _
  · exact hi
  · exact hj
  · exact hq
  · exact iTop_ok _
