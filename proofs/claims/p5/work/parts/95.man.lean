/-! man on a new duchy: the class throws, the law's own man catches -/
def NSEn : String := "java/util/NoSuchElementException"
def NMS : List String := ["java/lang/RuntimeException", "java/lang/Exception"]
def ATW : List Cond := vx_at0 "MerryDuchy" 144 "java/util/NoSuchElementException" ["java/lang/RuntimeException", "java/lang/Exception"]
def BW : List Cond := ATW.filter (fun w => !goodWord w)
def isDC : Cond → Bool
  | .declares _ => true
  | .castable _ _ => true
  | _ => false
theorem BW_dc : BW.all isDC = true := by decide +kernel
theorem BW_in : ∀ w ∈ BW, w ∈ lw_tbl := by decide +kernel
theorem AT_in : ∀ w ∈ ATW.filter goodWord, w ∈ lw_tbl := by decide +kernel
theorem AT_gt {w : Cond} (h : w ∈ ATW.filter goodWord) : w ∈ gtbl := List.mem_filter.mpr ⟨AT_in w h, (List.mem_filter.mp h).2⟩
theorem AT_ot : (Cond.classLink "MerryDuchy" 142 "java/util/NoSuchElementException" :: Cond.initialized "java/util/NoSuchElementException" :: ATW).all vx_ot = true := by decide +kernel
theorem BW_cast : Cond.castable "java/util/NoSuchElementException" "java/util/NoSuchElementException" ∈ BW := by decide +kernel
def NXD (U : State) : Prop := ∀ w ∈ BW, va_Nw w U
theorem dc_ot {w : Cond} (h : isDC w = true) : w.onTables = true := by
  cases w <;> simp_all [isDC, Cond.onTables]
theorem NXD.same {s U : State} (hv : s.vm = U.vm) (h : NXD s) : NXD U := fun w hw => va_Nw.same (dc_ot (List.all_eq_true.mp BW_dc w hw)) hv (h w hw)
theorem NXD.warm {s U : State} (hW : s.WarmedH U.vm) (h : NXD s) : NXD U := by
  intro w hw
  have h1 := List.all_eq_true.mp BW_dc w hw
  have h2 := h w hw
  cases w <;> simp only [isDC, Bool.false_eq_true] at h1
  · exact va_Nw.warmD hW h2
  · exact va_Nw.warmC hW h2
theorem NXD.at {s : State} (h : NXD s) {args : Array Value} (hg : ∀ w ∈ gtbl, w.before args s = true) : ∀ w ∈ ATW, w.before args s = true := by
  intro w hw
  cases hgw : goodWord w with
  | true => exact hg w (AT_gt (List.mem_filter.mpr ⟨hw, hgw⟩))
  | false =>
    have hb : w ∈ BW := List.mem_filter.mpr ⟨hw, by rw [hgw]; rfl⟩
    exact va_Nw.use (dc_ot (List.all_eq_true.mp BW_dc w hb)) (h w hb)
def PjN (G : va_G) (cy : Nat → ClassId) (bb : Nat → Nat) (ws : va_W) (sz : Nat) (vs : List Value) : Array Value → State → Prop := fun a U => Pj G cy bb ws sz vs a U ∧ NXD U
theorem PjN.blind {G : va_G} {cy : Nat → ClassId} {bb : Nat → Nat} {ws : va_W} {sz : Nat} {vs : List Value} : FrameBlind (PjN G cy bb ws sz vs) := fun a U g mk q => ⟨Pj.blind a U g mk q.1, NXD.same (s := U) (U := U.calling g mk a) rfl q.2⟩
/-- what a throw leaves -/
def XMj (G : va_G) (cy : Nat → ClassId) (ws : va_W) (sz : Nat) (M : JM) : String → State → State → Prop := fun E st t => E = "java/util/NoSuchElementException" ∧ (∃ ws1 : va_W, va_P G vwCl ws1 t.heap ∧ va_D (va_A ws sz) ws1 ∧ jH shp cy ws1 M ∧ sub_ ws ws1) ∧ va_F (va_A ws sz) st t
def MNp (M : JM) : JR := jRi (fun v M' => M = M' ∧ -2147483648 ≤ v ∧ v ≤ 2147483647)
def jr_L_man : MR := (yL_man, (cL_man, (5, ((some .int), (4, (99, jb_L_man))))))
noncomputable def PQ : Nat → Option MR := fun y => if y = 1002 then some jr_L_man else PJ y
theorem pq_man : PQ 1002 = some jr_L_man := if_pos rfl
theorem PJ_1001 : PJ 1001 = none := rfl
section MAN
variable {l : Launch} {G : va_G} {cy : Nat → ClassId}
theorem man_met (hl : l.stackTraces = false) (hw : jMw) (hTX : jTX l G cy) {X : Int} (hX : 0 ≤ X ∧ X ≤ 100000000) {M : JM} (hH : HI X M) {a0 a1 : Int} (ha0 : (-2147483648) ≤ a0 ∧ a0 ≤ 2147483647) (ha1 : (-2147483648) ≤ a1 ∧ a1 ≤ 2147483647) (bb : Nat → Nat) (vs : List Value) (ws : va_W) (sz : Nat) (hgs : jQ bb ws [.inr (.inr (.inl 0)), .inl a0, .inl a1] vs) (hgh : jH shp cy ws M) :
    vx_Met l yX11_man (Cond.code yX11_man cX11_man 4 (some .int) :: gtbl) (rmD 25 1 6) (PjN G cy bb ws sz vs) (Qj shp G cy bb ws sz (MNp M)) (XMj G cy ws sz M) 1 6 (va_A ws sz) := by
  refine vx_ofW (cc := cX11_man) (maxL := 4) (ret := some .int) (by decide +kernel) rfl ?_
  intro p e s m args below meth c s₁ B hml htab hv
  obtain ⟨⟨rfl, hsz, hPw, hK, hD0, hE, hJ⟩, hN⟩ := hv
  have hts := atoms_spec (ws := Cond.code yX11_man cX11_man 4 (some .int) :: gtbl) B.pre
  subst hsz
  have hD := hD0.self (sz := s.heap.size)
  have hlocks := B.notSynchronized
  have C : Cx p c m s vs.toArray meth G cy (va_A ws s.heap.size) yX11_man.cls yX11_man.name cX11_man 4 := ⟨B.exec, B.bytes, hml, findClass_of_methodNamed B.named, fun w hw => hts w (List.mem_cons_of_mem _ hw), hK, fun q hq => Or.inr hq, (name_of_methodNamed B.named B.method).1, hE⟩
  rw [lg_entry_eq]
  have hTx := hTX p e (rmD 25 1 6) s m vs.toArray below meth c (vx_MQ below (Qj shp G cy bb ws s.heap.size (MNp M)) (XMj G cy ws s.heap.size M) vs.toArray s 1 6 (va_A ws s.heap.size)) shp bb ws (va_A ws s.heap.size) 4 0 0 yX11_man.cls yX11_man.name cX11_man C hJ (by decide) (by decide) ⟨by decide, by decide⟩
  have thr : ∀ (pc : Nat) (L : JL), decode cX11_man pc = .ok (.new 142, 3) → decode cX11_man (pc + 3) = .ok (.dup, 1) → decode cX11_man (pc + 4) = .ok (.invokespecial 144, 3) → decode cX11_man (pc + 7) = .ok (.athrow, 1) → Jk p l e (rmD 25 1 6) s m vs.toArray below meth c (vx_MQ below (Qj shp G cy bb ws s.heap.size (MNp M)) (XMj G cy ws s.heap.size M) vs.toArray s 1 6 (va_A ws s.heap.size)) shp G cy bb ws (va_A ws s.heap.size) 4 0 0 pc L [] M := by
    intro pc L d0 d3 d4 d7 ws1 ls st H locs hs
    obtain rfl := hs.2.2.1.nil
    have hsize : ls.size = c.maxLocals := by
      obtain ⟨_, lv, h1, _⟩ := hs.2.1
      rw [hml]
      exact h1.1
    obtain ⟨_, _, _, _, _, _, _, _, _, _, hU, hN1⟩ := hE
    refine vx_throw0 (cc := cX11_man) (own := "MerryDuchy") (cls := "java/util/NoSuchElementException") (names := ["java/lang/RuntimeException", "java/lang/Exception"]) (ik := 142) (ic := 144) (A := va_A ws s.heap.size) C.1 C.2.1 hl C.2.2.2.1 (by decide +kernel) (by decide +kernel) (C.2.2.2.2.1 _ q_c_MerryDuchy_142) (C.2.2.2.2.1 _ q_n_NSE) (hN.at C.2.2.2.2.1) (List.all_eq_true.mp AT_ot) hU hN1 hs.2.2.2.2.2.1 hsize d0 d3 d4 d7 (fun x hx => (htab x hx).elim) (by show 2 + 3 < 25; omega) (by show 0 + (13 * (2 + 1) + 42) ≤ 100 * 25; omega) (by show 0 + 1 ≤ 1; omega) (by show 0 + 6 ≤ 6; omega) hlocks ?_ hs.2.2.2.2.2.1.2.2 (by omega) (by omega)
    intro t _ hz2 hk
    have hlt : ∀ (k : Nat) (q : Nat × va_E), ws1[k]? = some q → q.1 < H.size := fun k q hkq => vx_lt hs.2.2.2.1 hkq
    refine ⟨rfl, ⟨ws1, hs.2.2.2.1.kept (fun k q hkq => hk q.1 (hlt k q hkq)), hs.2.2.2.2.1, hs.1, hs.2.2.2.2.2.2⟩, Nat.le_trans hs.2.2.2.2.2.1.1 hz2, fun q h1 h2 => ?_⟩
    rw [hk q (Nat.lt_of_lt_of_le h1 hs.2.2.2.2.2.1.1)]
    exact hs.2.2.2.2.2.1.2.1 q h1 h2
  have hk := man_walk X hX M hH a0 ha0 a1 ha1 (Jk p l e (rmD 25 1 6) s m vs.toArray below meth c (vx_MQ below (Qj shp G cy bb ws s.heap.size (MNp M)) (XMj G cy ws s.heap.size M) vs.toArray s 1 6 (va_A ws s.heap.size)) shp G cy bb ws (va_A ws s.heap.size) 4 0 0) ?_ ?_ ?_ (thr 12 _ dd_X11_man_12 dd_X11_man_15 dd_X11_man_16 dd_X11_man_19) (thr 147 _ dd_X11_man_147 dd_X11_man_150 dd_X11_man_151 dd_X11_man_154)
  · exact hk ws _ [] s.heap [] ⟨hgh, jent_ok (As := [.inr (.inr (.inl 0)), .inl a0, .inl a1]) (mL := 4) hgs (Nat.le_of_ble_eq_true rfl), trivial, hPw, hD, va_S.rf, sub_.rf ws⟩
  · intro mr2 pc ins len x y' z L S M2 h1 h2 h3
    rw [pn_man] at h1
    obtain rfl := Option.some.inj h1
    obtain ⟨hd, hl2⟩ := jt_X11_man yX11_man.name pc ins len x y' z h2
    exact js_sound C hw hTx ⟨by decide, by decide, by decide, by decide⟩ (sc := none) (fun n f hf => by cases hf) hd hl2 h3
  · intro mr2 pc ins q L S M2 r h1 h2 h3 h4
    rw [pn_man] at h1
    obtain rfl := Option.some.inj h1
    obtain ⟨hd, -⟩ := jt_X11_man yX11_man.name pc ins 1 q.1 q.2.1 q.2.2 h2
    have h3 : jrt (some .int) ins S = some r := h3
    intro ws1 ls st H locs hs
    unfold jrt at h3
    split at h3
    · rename_i v9 _
      obtain ⟨w, st1, rfl, g1, g2⟩ := hs.2.2.1.cons
      obtain rfl := g2.nil
      obtain ⟨x, rfl, hx⟩ := g1.int
      obtain rfl := Option.some.inj h3
      refine vx_ret ?_
      refine W.widen (k := 1) (n := 6) (Nat.zero_le _) (Nat.zero_le _) ?_
      exact W.zret (ty := .int) C.1 C.2.1 B.returns rfl (fun t hth hW => ⟨⟨_, ws1, some (.inl v9), M2, rfl, by rw [hth]; exact hs.2.2.2.1, hs.2.2.2.2.1, hs.1, hs.2.2.2.2.2.2, hx, h4⟩, hs.2.2.2.2.2.1.F hth⟩) hs.2.2.2.2.2.1.2.2 hd
    · simp at h3
    · simp at h3
    · cases h3
  · intro mr2 pc ins i x y' z L S M2 h1 h2 h3 mr3 As' r post' b1 b2 b3 b4 b5 b6 b7
    rw [pn_man] at h1
    obtain rfl := Option.some.inj h1
    obtain ⟨hd, hl2⟩ := jt_X11_man yX11_man.name pc ins 3 x y' z h2
    have hl5 : x < 5 := by rcases h3 with ⟨h | h, _⟩ | ⟨h, _⟩ <;> omega
    have hj : ∃ mr4, PJ y' = some mr4 ∧ lnk yX11_man.cls i x mr4.1 mr4.2.2.2.2.1 mr4.2.2.2.2.2.1 := by
      rcases h3 with ⟨_, rfl⟩ | ⟨_, rfl⟩
      · exact hl2.2.2.2.2.2 hl5
      · exact hl2.2.2.2.2.2 hl5
    obtain ⟨mr4, hp4, hlk⟩ := hj
    have hy : y' ≠ 1001 := fun h => by rw [h, PJ_1001] at hp4; cases hp4
    have b1 : PJ y' = some mr3 := by
      unfold PN at b1
      rw [if_neg hy] at b1
      exact b1
    rw [b1] at hp4
    obtain rfl := Option.some.inj hp4
    obtain ⟨hcode3, hmL3, -, -⟩ := PJ_ok y' mr3 b1
    have hct := jok_sound (l := l) (G := G) (cy := cy) hw hTX PJ_ok 10 y' mr3 As' M2 post' b1 b5 b6
    refine k_call (i := i) (d := 10 + 10) C hJ ?_ hlk b2 hcode3 hmL3 b4 hct b3 (by decide) (by decide) ⟨by decide, by decide⟩ b7
    rcases h3 with ⟨h, rfl⟩ | ⟨h, rfl⟩
    · exact Or.inl ⟨h, hd⟩
    · exact Or.inr ⟨h, hd⟩
/-- a call that returns or throws -/
theorem vx_callJ {p : Program} {e : Env} {R : Room} {s : State} {m : MethodId} {args : Array Value} {below : List Frame} {meth : Method} {c : Code} {Q : State → Prop} {bb : Nat → Nat} {pc mc ms sz : Nat} {ls : Array Slot} {rest st0 : List Value} {a : Array Value} {A0 : Nat → Prop} {H0 H : Heap} {locs : List Loc} {cells slots : Nat} {ws : va_W} {post : JR} {M : JM} (hr : vx_Run p l e R s m args below meth c H locs cells slots mc ms (F0 m pc ls st0) rest (Qj shp G cy bb ws sz post a) (XMj G cy ws sz M) (va_A ws sz)) (hS : va_S A0 H0 H locs) (hA : ∀ q, va_A ws sz q → A0 q)
    (kk : ∀ (v : Option Value) (ws1 : va_W) (r : Option JV) (M' : JM) (H1 : Heap) (locs1 : List Loc), va_P G vwCl ws1 H1 → va_D A0 ws1 → jH shp cy ws1 M' → sub_ ws ws1 → jO bb ws1 r v → post r M' → va_S A0 H0 H1 locs1 → W p l e R s m args below meth c H1 locs1 (cells + mc) (slots + ms) Q (F0 m (pc + 3) ls (v.toList ++ rest)))
    (kx : ∀ (ce : Cell) (q9 : Addr) (ws1 : va_W) (H1 : Heap) (locs1 : List Loc), va_P G vwCl ws1 H1 → va_D A0 ws1 → jH shp cy ws1 M → sub_ ws ws1 → va_S A0 H0 H1 locs1 → H1[q9]? = some ce → ce.vm = .none → s.vm.findClass "java/util/NoSuchElementException" = some ce.cls → vx_W p l e R s m args below meth c H1 locs1 (cells + mc) (slots + ms) Q (F0 m pc ls rest) q9) : W p l e R s m args below meth c H locs cells slots Q (F0 m pc ls st0) := by
  intro T hT X
  rcases hr T hT X with ⟨v0, st₀, t, T', L, h0, X', hL, e1, e2, ⟨⟨v, ws1, r, M', hv, hP, hD, hG, hsub, hO, hp⟩, hF⟩, st⟩ | ⟨q, st₀, t, T', L, E, ce, h0, X', hL, e1, e2, ⟨rfl, ⟨ws1, hP, hD, hG, hsub⟩, hF⟩, hce, hcv, hcl, st⟩
  · cases hv
    obtain ⟨k1, k2, k3⟩ := vx_keep h0 e1 hS (fun q _ h => hA q h) hA hL hF
    obtain ⟨t2, a1, b1⟩ := kk v0 ws1 r M' T'.heap (locs ++ L) (by rw [e1]; exact hP) (hD.weaken (fun _ _ _ h => hA _ h)) hG hsub hO hp k3 T' rfl X'
    exact ⟨t2, st t2 a1, b1⟩
  · obtain ⟨k1, k2, k3⟩ := vx_keep h0 e1 hS (fun q _ h => hA q h) hA hL hF
    obtain ⟨t2, a1, b1⟩ := kx ce q ws1 T'.heap (locs ++ L) (by rw [e1]; exact hP) (hD.weaken (fun _ _ _ h => hA _ h)) hG hsub k3 (by rw [e1]; exact hce) hcv hcl T' rfl X'
    exact ⟨t2, st.trans a1, b1⟩
/-- a call that can't throw -/
theorem vx_callR {p : Program} {e : Env} {R : Room} {s : State} {m : MethodId} {args : Array Value} {below : List Frame} {meth : Method} {c : Code} {Q : State → Prop} {bb : Nat → Nat} {pc mc ms sz : Nat} {ls : Array Slot} {rest st0 : List Value} {a : Array Value} {A0 : Nat → Prop} {H0 H : Heap} {locs : List Loc} {cells slots : Nat} {ws : va_W} {post : JR} (hr : vx_Run p l e R s m args below meth c H locs cells slots mc ms (F0 m pc ls st0) rest (Qj shp G cy bb ws sz post a) (fun _ _ _ => False) (va_A ws sz)) (hS : va_S A0 H0 H locs) (hA : ∀ q, va_A ws sz q → A0 q)
    (kk : ∀ (v : Option Value) (ws1 : va_W) (r : Option JV) (M' : JM) (H1 : Heap) (locs1 : List Loc), va_P G vwCl ws1 H1 → va_D A0 ws1 → jH shp cy ws1 M' → sub_ ws ws1 → jO bb ws1 r v → post r M' → va_S A0 H0 H1 locs1 → W p l e R s m args below meth c H1 locs1 (cells + mc) (slots + ms) Q (F0 m (pc + 3) ls (v.toList ++ rest))) : W p l e R s m args below meth c H locs cells slots Q (F0 m pc ls st0) := by
  intro T hT X
  rcases hr T hT X with ⟨v0, st₀, t, T', L, h0, X', hL, e1, e2, ⟨⟨v, ws1, r, M', hv, hP, hD, hG, hsub, hO, hp⟩, hF⟩, st⟩ | ⟨q, st₀, t, T', L, E, ce, h0, X', hL, e1, e2, hq, _⟩
  · cases hv
    obtain ⟨k1, k2, k3⟩ := vx_keep h0 e1 hS (fun q _ h => hA q h) hA hL hF
    obtain ⟨t2, a1, b1⟩ := kk v0 ws1 r M' T'.heap (locs ++ L) (by rw [e1]; exact hP) (hD.weaken (fun _ _ _ h => hA _ h)) hG hsub hO hp k3 T' rfl X'
    exact ⟨t2, st t2 a1, b1⟩
  · exact hq.elim
/-- a catch: what the last part says of it -/
def VXC (l : Launch) : Prop := ∀ {p : Program} {e : Env} {R : Room} {s : State} {m : MethodId} {args : Array Value} {below : List Frame} {meth : Method} {c : Code} {H : Heap} {locs : List Loc} {cells slots : Nat} {Q : State → Prop} {pc : Nat} {ls : Array Slot} {rest : List Value} {own name : String} {E : String} {ce : Cell} {q : Addr} (_ : s.vm.findClass own = some m.cls) (x : ExceptionTableEntry) (_ : c.exceptionTable.toList = [x])
    (_ : covers x pc = true) (_ : x.catchType ≠ 0)
    (_ : (Cond.classLink own x.catchType name).before args s = true) (_ : (Cond.castable E name).before args s = true) (_ : H[q]? = some ce) (_ : ce.vm = .none) (_ : s.vm.findClass E = some ce.cls)
    (_ : W p l e R s m args below meth c H locs cells slots Q (F0 m x.handlerPc ls [.ref q])), vx_W p l e R s m args below meth c H locs cells slots Q (F0 m pc ls rest) q
def LMp (X : Int) (M : JM) : JR := fun r M' => ∃ v, r = some (.inl v) ∧ 0 ≤ v ∧ v ≤ 1 ∧ HI X M' ∧ (∀ c i, M'.1 c i = M.1 c i) ∧ ∀ c i, c ≠ 198 → M'.2 c i = M.2 c i
theorem HI.out {X : Int} {M : JM} (h : HI X M) (w : Int64) : HI X (M.1, jup M.2 198 (0 : Int).toNat w) := ⟨h.1, fun c i hc => by
  have hn : c ≠ 198 := fun e => by rw [e] at hc; cases hc
  show LB (jup M.2 198 (0 : Int).toNat w c i).toInt
  rw [jup_cell M.2 _ _ _ hn]
  exact h.2.1 c i hc, fun i hi => by
  show jup M.2 198 (0 : Int).toNat w 3 i = _
  rw [jup_cell M.2 _ _ _ (by decide)]
  exact h.2.2 i hi⟩
theorem lman_met (hc : VXC l) (hl : l.stackTraces = false) (hw : jMw) (hTX : jTX l G cy) {X : Int} (hX : 0 ≤ X ∧ X ≤ 100000000) {M : JM} (hH : HI X M) {a0 a1 : Int} (ha0 : (-2147483648) ≤ a0 ∧ a0 ≤ 2147483647) (ha1 : (-2147483648) ≤ a1 ∧ a1 ≤ 2147483647) (bb : Nat → Nat) (vs : List Value) (ws : va_W) (sz : Nat) (hgs : jQ bb ws [.inr (.inr (.inl 0)), .inl a0, .inl a1, .inr (.inr (.inl 198))] vs) (hgh : jH shp cy ws M) :
    vx_Met l yL_man (Cond.codeWith yL_man cL_man 5 (some .int) [(0, 10, 13, 13)] :: gtbl) (rmD 26 1 6) (PjN G cy bb ws sz vs) (Qj shp G cy bb ws sz (LMp X M)) (fun _ _ _ => False) 1 6 (va_A ws sz) := by
  refine vx_ofWH (cc := cL_man) (maxL := 5) (ret := some .int) (hh := [(0, 10, 13, 13)]) (by decide +kernel) rfl ?_
  intro p e s m args below meth c s₁ B hml hv
  obtain ⟨⟨rfl, hsz, hPw, hK, hD0, hE, hJ⟩, hN⟩ := hv
  have hts := atoms_spec (ws := Cond.codeWith yL_man cL_man 5 (some .int) [(0, 10, 13, 13)] :: gtbl) B.pre
  subst hsz
  have hD := hD0.self (sz := s.heap.size)
  have hlocks := B.notSynchronized
  have htb := vx_table (x := yL_man) B (hts _ List.mem_cons_self)
  have C : Cx p c m s vs.toArray meth G cy (va_A ws s.heap.size) yL_man.cls "man" cL_man 5 := ⟨B.exec, B.bytes, hml, findClass_of_methodNamed B.named, fun w hw => hts w (List.mem_cons_of_mem _ hw), hK, fun q hq => Or.inr hq, (name_of_methodNamed B.named B.method).1, hE⟩
  rw [lg_entry_eq]
  obtain ⟨FM, hFM⟩ : ∃ FM : Nat → Nat → JP, FM = fun kc ks => Jk p l e (rmD 26 1 6) s m vs.toArray below meth c (vx_MQ below (Qj shp G cy bb ws s.heap.size (LMp X M)) (fun _ _ _ => False) vs.toArray s 1 6 (va_A ws s.heap.size)) shp G cy bb ws (va_A ws s.heap.size) 5 kc ks := ⟨_, rfl⟩
  have c1 : ∀ kc ks, kc ≤ 1 → ks ≤ 6 → jstC shp PQ none 1002 (FM kc ks) := by
    intro kc ks hkc hks mr2 pc ins len x y' z L S M2 h1 h2 h3
    subst hFM
    rw [pq_man] at h1
    obtain rfl := Option.some.inj h1
    obtain ⟨hd, hl2⟩ := jt_L_man "man" pc ins len x y' z h2
    have hTx := hTX p e (rmD 26 1 6) s m vs.toArray below meth c (vx_MQ below (Qj shp G cy bb ws s.heap.size (LMp X M)) (fun _ _ _ => False) vs.toArray s 1 6 (va_A ws s.heap.size)) shp bb ws (va_A ws s.heap.size) 5 kc ks yL_man.cls "man" cL_man C hJ (by decide) (by decide) ⟨hkc, hks⟩
    exact js_sound C hw hTx ⟨by decide, by decide, hkc, hks⟩ (sc := none) (fun n f hf => by cases hf) hd hl2 h3
  -- behind the call: 0 and the answer laid into the out
  have after : ∀ (L : JL) (v : Int) (M2 : JM), M = M2 → FM 1 6 8 L [.inl v, .inl 0, .inr (.inr (.inl 198))] M2 := by
    intro L v M2 hM2
    subst hM2
    have c1' := c1 1 6 (by decide) (by decide)
    have hm := pq_man
    refine jx_i2l c1' hm rfl (fun w _ => ?_)
    refine jx_last c1' hm rfl sh_198 ⟨by decide, by decide⟩ ?_
    refine jx_goto c1' hm 17 rfl rfl ?_
    refine jy_ic c1' hm rfl (by decide) ?_
    subst hFM
    intro ws1 ls st H locs hs
    obtain ⟨w1, st1, rfl, g1, g2⟩ := hs.2.2.1.cons
    obtain rfl := g2.nil
    obtain ⟨x, rfl, hx⟩ := g1.int
    refine vx_ret ?_
    exact W.zret (ty := .int) C.1 C.2.1 B.returns rfl (fun t hth hW => ⟨⟨_, ws1, some (.inl 0), _, rfl, by rw [hth]; exact hs.2.2.2.1, hs.2.2.2.2.1, hs.1, hs.2.2.2.2.2.2, hx, ⟨0, rfl, by decide, by decide, hH.out w, fun _ _ => rfl, fun _ _ hc => jup_cell M.2 _ _ _ hc⟩⟩, hs.2.2.2.2.2.1.F hth⟩) hs.2.2.2.2.2.1.2.2 dd_L_man_18
  have key : FM 0 0 0 [some (.inr (.inr (.inl 0))), some (.inl a0), some (.inl a1), some (.inr (.inr (.inl 198))), none] [] M := by
    have c1' := c1 0 0 (by decide) (by decide)
    have hm := pq_man
    refine jx_load c1' hm rfl rfl rfl rfl ?_
    refine jy_ic c1' hm rfl (by decide) ?_
    refine jx_load c1' hm rfl rfl rfl rfl ?_
    refine jx_load c1' hm rfl rfl rfl rfl ?_
    refine jx_load c1' hm rfl rfl rfl rfl ?_
    subst hFM
    intro ws1 ls st H locs hs
    obtain ⟨w5, r5, rfl, g5, q5⟩ := hs.2.2.1.cons
    obtain ⟨w4, r4, rfl, g4, q4⟩ := q5.cons
    obtain ⟨w3, r3, rfl, g3, q3⟩ := q4.cons
    obtain ⟨q0, e0, rfl, he⟩ := g3.ref
    obtain ⟨vv, rfl, _⟩ := j_at hs.1 he sh_0
    have hcl : vwCl[11]? = some (yX11_man.cls, TX11, 18) := rfl
    have hrv := va_recv C.2.2.2.2.2.1.1 hs.2.2.2.1 hcl he
    have hsz : ls.size = 5 := by
      obtain ⟨_, lv, h1, _⟩ := hs.2.1
      exact h1.1
    have hAA : ∀ q, va_A ws1 H.size q → va_A ws s.heap.size q := by
      intro q hq
      rcases hq with ⟨k', e', hk'⟩ | hq
      · exact hs.2.2.2.2.1.2 k' _ hk'
      · exact Or.inr (Nat.le_trans hs.2.2.2.2.2.1.1 hq)
    have hM := man_met (G := G) (cy := cy) (l := l) hl hw hTX hX hH ha0 ha1 bb [.ref q0, w4, w5] ws1 H.size ⟨g3, g4, g5, trivial⟩ hs.1
    have hpre : ∀ U : State, U.heap = H → s.WarmedH U.vm → PjN G cy bb ws1 H.size [.ref q0, w4, w5] ([.ref q0, w4, w5] : List Value).toArray U := fun U hU hW => ⟨⟨rfl, by rw [hU], by rw [hU]; exact hs.2.2.2.1, C.2.2.2.2.2.1.warm hW, hs.2.2.2.2.1.weaken (fun _ _ _ _ => trivial), C.2.2.2.2.2.2.2.2.to hW hU hs.2.2.2.2.2.1 hAA, hJ.to hW hU hs.2.2.2.2.2.1 hAA⟩, hN.warm hW⟩
    have hsum := q3.sum
    have hlr : 2 * (F0 m 5 ls (w5 :: w4 :: Value.ref q0 :: r3)).monitorRoom + (r3.map fun v => v.category).sum ≤ 8 := by
      have : (F0 m 5 ls (w5 :: w4 :: Value.ref q0 :: r3)).monitorRoom = 0 := rfl
      rw [this]
      simp only [List.length_cons, List.length_nil] at hsum
      omega
    have hfix : CallFix p m c cL_man 5 s vs.toArray gtbl "MerryDuchyLaw" := ⟨C.1, C.2.1, C.2.2.1, C.2.2.2.1, C.2.2.2.2.1⟩
    refine vx_callJ (vx_runV (C := yX11_man.cls) (As := [w4, w5]) (rest := r3) (b := q0) hfix hM (cwV 2 C.2.2.2.2.1 (gd_app (gd_4 q_m_MerryDuchyLaw_7 q_v_X11_man q_e_X11_man q_n_MerryDuchy) (gd_tbl q_k_X11_man)) rfl rfl rfl ⟨rfl, by decide +kernel, by decide +kernel, by decide +kernel⟩ ⟨by show 25 + 1 ≤ 26; omega, by show 8 + (4 + 11) + 100 * 25 ≤ 100 * 26; omega⟩) ⟨PjN.blind, hrv, hpre⟩ rfl rfl hsz rfl hlr dd_L_man_5 ⟨by show 0 + 1 ≤ 1; omega, by show 0 + 6 ≤ 6; omega⟩) hs.2.2.2.2.2.1 hAA ?_ ?_
    · intro v ws2 r M' H2 locs2 hP2 hD2 hG2 hsub2 hO hp hS2
      obtain ⟨v1, rfl, hMM, _⟩ := hp
      cases v with
      | none => exact hO.elim
      | some v => exact after _ v1 M' hMM ws2 ls (v :: r3) H2 locs2 ⟨hG2, hs.2.1.mono hsub2, ⟨hO, q3.mono hsub2⟩, hP2, hD2, hS2, hs.2.2.2.2.2.2.tr hsub2⟩
    · intro ce q9 ws2 H2 locs2 hP2 hD2 hG2 hsub2 hS2 hc1 hc2 hc3
      refine hc (own := "MerryDuchyLaw") (name := "java/util/NoSuchElementException") (E := "java/util/NoSuchElementException") (ce := ce) C.2.2.2.1 ⟨0, 10, 13, 13⟩ (by rw [htb]; rfl) (by decide) (by decide) (C.2.2.2.2.1 _ q_c_MerryDuchyLaw_13) (va_Nw.use rfl (hN _ BW_cast)) hc1 hc2 hc3 ?_
      obtain ⟨_, lv, hlv, _⟩ := hs.2.1
      refine lv_astore (lv := lv) C.1 C.2.1 dd_L_man_13 hlv (by decide) rfl (fun ls' hl' => ?_)
      refine lv_iconst (v := 1) C.1 C.2.1 dd_L_man_15 (by decide) ?_
      refine vx_ret ?_
      exact W.zret (ty := .int) C.1 C.2.1 B.returns rfl (fun t hth hW => ⟨⟨some (.int 1), ws2, some (.inl 1), M, rfl, by rw [hth]; exact hP2, hD2, hG2, hs.2.2.2.2.2.2.tr hsub2, rfl, ⟨1, rfl, by decide, by decide, hH, fun _ _ => rfl, fun _ _ _ => rfl⟩⟩, hS2.F hth⟩) hS2.2.2 dd_L_man_16
  subst hFM
  exact key ws _ [] s.heap [] ⟨hgh, jent_ok (As := [.inr (.inr (.inl 0)), .inl a0, .inl a1, .inr (.inr (.inl 198))]) (mL := 5) hgs (Nat.le_of_ble_eq_true rfl), trivial, hPw, hD, va_S.rf, sub_.rf ws⟩
end MAN
