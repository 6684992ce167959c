theorem k_jlen132 {l : Launch} {a v : Nat} {f : Nat → Int32} : CJ l y_jlen c_jlen 1 (some .int) 1 132 a v f [.ref a] (fun r => r = some (.int 132)) := k_jlen
/-- what Tokens() has read behind so many letters: how many words, the letters of the word at hand -/
def tkN : Nat → Nat × Int64
  | 0 => (0, 0)
  | Nat.succ i => if (KBY.getD i 0 &&& 255 : Int32) = 32 then ((tkN i).1 + 1, 0) else ((tkN i).1, ((tkN i).2 <<< ((8 : Int32).toInt64 &&& 63)) ||| (KBY.getD i 0 &&& 255 : Int32).toInt64)
def tkB (i : Nat) : Bool := !decide ((KBY.getD i 0 &&& 255 : Int32) = 32) || decide ((tkN i).2 = KWS.getD (tkN i).1 0)
theorem tkB_ok : (List.range 132).all tkB = true := by decide +kernel
theorem tk_word {i : Nat} (h : i < 132) (h32 : (KBY.getD i 0 &&& 255 : Int32) = 32) : (tkN i).2 = KWS.getD (tkN i).1 0 := by
  have h1 := List.all_eq_true.mp tkB_ok i (List.mem_range.mpr h)
  unfold tkB at h1
  rw [decide_eq_true h32] at h1
  exact of_decide_eq_true h1
theorem tk_all : (tkN 132).1 = 24 := by decide +kernel
theorem tk_sp {i : Nat} (h32 : (KBY.getD i 0 &&& 255 : Int32) = 32) : tkN (i + 1) = ((tkN i).1 + 1, 0) := if_pos h32
theorem tk_lt {i : Nat} (h32 : ¬ (KBY.getD i 0 &&& 255 : Int32) = 32) : tkN (i + 1) = ((tkN i).1, ((tkN i).2 <<< ((8 : Int32).toInt64 &&& 63)) ||| (KBY.getD i 0 &&& 255 : Int32).toInt64) := if_neg h32
def kRow (cy : Nat → ClassId) (ws : va_W) (k n : Nat) : Prop := ∀ (q : Nat) (g : Nat → Int64), ws[k]? = some (q, .inl (cy 2, (24, .inr (.inl g)))) → ∀ t, t < n → g t = KWS.getD t 0
theorem ktS_at : ∀ t : Nat, t < 24 → pg ktS t = some (.inr (.inl (some (KWS.getD t 0)))) := by
  intro t ht
  unfold pg
  have e1 : t / 32 = 0 := by omega
  have e2 : t % 32 = t := by omega
  rw [e1, e2, lg_eq]
  show lg (KWS.map (fun k => (.inr (.inl (some k)) : AV))) t = _
  have hl : t < KWS.length := ht
  rw [lg_eq, List.getElem?_map, List.getElem?_eq_getElem hl, List.getD_eq_getElem?_getD, List.getElem?_eq_getElem hl]
  rfl
section TOK
variable {p : Program} {l : Launch} {e : Env} {s : State} {m : MethodId} {below : List Frame} {meth : Method} {c : Code} {Q : State → Prop}
variable {G : va_G} {cy : Nat → ClassId} {b : BB} {A : Nat → Prop} {args : Array Value}
/-- what the loop of Tokens() keeps: the abstract cells as they are -/
theorem tok_loop {d : Nat} (hd : 8 ≤ d) (C : Cx p c m s args meth G cy A "MerryDuchy$Tokens" "<init>" cX10_init 6) {a v : Nat} {f : Nat → Int32} (hR : vk_R "MerryDuchy$Tokens" 19 KTX a s) (hff : f = fun j => KBY.getD j 0) (hX : STX 132 a v f A s) {hf : AH} {i k : Nat} {fs : List AV} (hi : hget hf i = some (.inl (10, fs))) (hfs : fs[1]? = some (.inr (.inr (.inl k)))) (hk : hget hf k = some (.inr (2, (24, zs 24 (.inr (.inl none))))))
    {mc ms : Nat} (hend : ∀ (ws : va_W) (H : Heap) (locs : List Loc) (ls : Array Slot), gH cy b.1 ws hf → sub_ b.2 ws → va_P G vwCl ws H → va_D A ws → va_S A s.heap H locs → kRow cy ws k 24 → W p l e (rmD (d + 1) mc ms) s m args below meth c H locs mc ms Q (F0 m 90 ls [])) :
    ∀ (n i0 n0 : Nat), i0 + n = 132 → n0 ≤ 24 → ∀ (x : Int64), tkN i0 = (n0, x) → ∀ (q : Nat) (e0 : va_E) (ws : va_W) (H : Heap) (locs : List Loc) (ls : Array Slot), kRow cy ws k n0 → ws[i]? = some (q, e0) → gH cy b.1 ws hf → sub_ b.2 ws → va_P G vwCl ws H → va_D A ws → va_S A s.heap H locs → lv_has ls 6 [(0, .ref q), (1, .long x), (3, .int (nI n0)), (4, .int (nI i0))] → W p l e (rmD (d + 1) mc ms) s m args below meth c H locs mc ms Q (F0 m 28 ls []) := by
  intro n
  induction n with
  | zero =>
    intro i0 n0 hin hn0 x hT q e0 ws H locs ls hkr hq hG hsub hP hD hS hl
    refine lv_iload C.1 C.2.1 dk_28 (lv_at hl 3 rfl) ?_
    refine va_ldcS C.1 C.2.1 C.2.2.2.1 hR dk_30 ?_
    refine jv (n := 0) (vs := []) (rest := [.int (nI i0)]) C.1 C.2.1 C.2.2.1 C.2.2.2.1 C.2.2.2.2.1 hX C.2.2.2.2.2.2.1 k_jlen132 rfl qu_21 qv_jlen qe_jlen qn_java_lang_String qk_jlen (by decide +kernel) rfl (by decide) hl.1 (Nat.le_of_ble_eq_true rfl) (by show 1 + 1 ≤ d + 1; omega) (by show 100 * 1 + 100 ≤ 100 * (d + 1); omega) ⟨Nat.le_refl _, Nat.le_refl _⟩ hS dk_32 (fun r H1 locs1 hr hz hk1 hS1 => ?_)
    subst hr
    have hP1 : va_P G vwCl ws H1 := hP.kept (fun k x hx => hk1 x.1 ((hP k x hx).lt))
    refine lv_icmp_ge (tgt := 90) C.1 C.2.1 dk_35 (by decide) (fun _ => ?_) (fun h => absurd (by rw [show (132 : Int32) = nI 132 from rfl]; exact nI_le (by omega) (by omega)) h)
    have h24 : n0 = 24 := by
      have e1 : i0 = 132 := by omega
      have e2 := tk_all
      rw [← e1, hT] at e2
      exact e2
    exact hend ws H1 locs1 ls hG hsub hP1 hD hS1 (h24 ▸ hkr)
  | succ n ih =>
    intro i0 n0 hin hn0 x hT q e0 ws H locs ls hkr hq hG hsub hP hD hS hl
    refine lv_iload C.1 C.2.1 dk_28 (lv_at hl 3 rfl) ?_
    refine va_ldcS C.1 C.2.1 C.2.2.2.1 hR dk_30 ?_
    refine jv (n := 0) (vs := []) (rest := [.int (nI i0)]) C.1 C.2.1 C.2.2.1 C.2.2.2.1 C.2.2.2.2.1 hX C.2.2.2.2.2.2.1 k_jlen132 rfl qu_21 qv_jlen qe_jlen qn_java_lang_String qk_jlen (by decide +kernel) rfl (by decide) hl.1 (Nat.le_of_ble_eq_true rfl) (by show 1 + 1 ≤ d + 1; omega) (by show 100 * 1 + 100 ≤ 100 * (d + 1); omega) ⟨Nat.le_refl _, Nat.le_refl _⟩ hS dk_32 (fun r H1 locs1 hr hz hk1 hS1 => ?_)
    subst hr
    have hP1 : va_P G vwCl ws H1 := hP.kept (fun k x hx => hk1 x.1 ((hP k x hx).lt))
    refine lv_icmp_ge (tgt := 90) C.1 C.2.1 dk_35 (by decide) (fun h => absurd h (by rw [show (132 : Int32) = nI 132 from rfl]; exact nI_ge (by omega) (by omega))) (fun _ => ?_)
    refine lv_iload_n C.1 C.2.1 dk_38 rfl (lv_at hl 2 rfl) ?_
    refine lv_bipush (v := 24) C.1 C.2.1 dk_39 (by decide) ?_
    refine lv_icmp_ge (tgt := 90) C.1 C.2.1 dk_41 (by decide) (fun hge => hend ws H1 locs1 ls hG hsub hP1 hD hS1 (by have h24 : n0 = 24 := (by rcases Nat.lt_or_ge n0 24 with h | h; exact absurd hge (by rw [show (24 : Int32) = nI 24 from rfl]; exact nI_ge h (by omega)); omega); exact h24 ▸ hkr)) (fun hlt => ?_)
    have hn1 : n0 < 24 := by
      rcases Nat.lt_or_ge n0 24 with h | h
      · exact h
      · exact absurd (by rw [show (24 : Int32) = nI 24 from rfl]; exact nI_le h (by omega)) hlt
    refine va_ldcS C.1 C.2.1 C.2.2.2.1 hR dk_44 ?_
    refine lv_iload C.1 C.2.1 dk_46 (lv_at hl 3 rfl) ?_
    refine jv (n := 1) (vs := [.int (nI i0)]) (rest := []) C.1 C.2.1 C.2.2.1 C.2.2.2.1 C.2.2.2.2.1 hX C.2.2.2.2.2.2.1 (k_jcha (tl := 132) (nI i0) (by decide) (nI_pos (by omega)) (show nI i0 < nI 132 from nI_lt (by omega) (by omega))) rfl qu_27 qv_jcha qe_jcha qn_java_lang_String qk_jcha (by decide +kernel) rfl (by decide) hl.1 (by decide) (by show 3 + 1 ≤ d + 1; omega) (by show 100 * 3 + 100 ≤ 100 * (d + 1); omega) ⟨Nat.le_refl _, Nat.le_refl _⟩ hS1 dk_48 (fun r H2 locs2 hr hz2 hk2 hS2 => ?_)
    obtain ⟨y, hy⟩ : ∃ y : Int32, f (nI i0).toNatClampNeg &&& 255 = y := ⟨_, rfl⟩
    rw [hy] at hr
    subst hr
    have hyb : (KBY.getD i0 0 &&& 255 : Int32) = y := by
      rw [← hy, hff, nI_clamp (by omega)]
    have hP2 : va_P G vwCl ws H2 := hP1.kept (fun k x hx => hk2 x.1 ((hP1 k x hx).lt))
    refine lv_istore (lv' := [(5, .int y), (0, .ref q), (1, .long x), (3, .int (nI n0)), (4, .int (nI i0))]) C.1 C.2.1 dk_51 hl (by decide) rfl (fun ls hl => ?_)
    refine lv_iload C.1 C.2.1 dk_53 (lv_at hl 0 rfl) ?_
    refine lv_bipush (v := 32) C.1 C.2.1 dk_55 (by decide) ?_
    refine lv_icmp_ne (tgt := 75) C.1 C.2.1 dk_57 (by decide) (fun hne => ?_) (fun heq => ?_)
    · refine lv_lload_n C.1 C.2.1 dk_75 rfl (lv_at hl 2 rfl) ?_
      refine lv_bipush (v := 8) C.1 C.2.1 dk_76 (by decide) ?_
      refine lv_lshl C.1 C.2.1 dk_78 rfl ?_
      refine lv_iload C.1 C.2.1 dk_79 (lv_at hl 0 rfl) ?_
      refine lv_i2l C.1 C.2.1 dk_81 rfl ?_
      refine lv_lor C.1 C.2.1 dk_82 ?_
      refine lv_topl (fun x2 hx2 => ?_)
      refine lv_lstore_n (lv' := [(1, .long x2), (5, .int y), (0, .ref q), (3, .int (nI n0)), (4, .int (nI i0))]) C.1 C.2.1 dk_83 rfl hl (by decide) rfl (fun ls hl => ?_)
      refine lv_iinc (v := nI (i0 + 1)) (lv' := [(4, .int (nI (i0 + 1))), (1, .long x2), (5, .int y), (0, .ref q), (3, .int (nI n0))]) C.1 C.2.1 dk_84 hl (k := 4) rfl (nI_1 i0) (by decide) rfl (fun ls hl => ?_)
      refine lv_goto (tgt := 28) C.1 C.2.1 dk_87 (by decide) ?_
      exact ih (i0 + 1) n0 (by omega) hn0 x2 (by rw [tk_lt (by rw [hyb]; exact hne), hT, hx2, hyb]) q e0 ws H2 locs2 ls hkr hq hG hsub hP2 hD hS2 (lv_sub hl [3, 1, 4, 0] rfl)
    · refine lv_aload_n C.1 C.2.1 dk_60 rfl (lv_at hl 1 rfl) ?_
      obtain ⟨vs, hq', hlen, hvs⟩ := at_obj hG hq hi
      obtain ⟨v1, hv1, gv1⟩ := hvs 1 _ hfs
      obtain ⟨qk, ek, rfl, hek⟩ := gv1.ref
      refine va_get (D := G) (C := RX10) (T := TX10) (N := 14) C.1 C.2.1 C.2.2.2.2.1 inC10 C.2.2.2.1 C.2.2.2.2.2.1.1 hP2 i hq' rfl 1 (by decide) (C.2.2.2.2.1 _ qt_15) (fun _ h9 => h9) hv1 dk_61 ?_
      refine lv_iload_n C.1 C.2.1 dk_64 rfl (lv_at hl 3 rfl) ?_
      refine lv_lload_n C.1 C.2.1 dk_65 rfl (lv_at hl 2 rfl) ?_
      obtain ⟨pp, hek', hA⟩ := at_arr hG hek hk
      obtain ⟨_, ⟨h1, _⟩ | ⟨_, g, hg, hgg⟩ | ⟨h1, _⟩⟩ := hA
      · omega
      · have hg : pp = .inr (.inl g) := hg
        subst hg
        refine va_last (D := G) C.1 C.2.1 C.2.2.2.2.2.1.1 hP2 hD hS2 k 2 hek' rfl (vp_in_nI hn1 (by omega)) dk_66 (fun H3 locs3 hP3 hD3 hS3 => ?_)
        refine lv_iinc (v := nI (n0 + 1)) (lv' := [(3, .int (nI (n0 + 1))), (5, .int y), (0, .ref q), (1, .long x), (4, .int (nI i0))]) C.1 C.2.1 dk_67 hl (k := 3) rfl (nI_1 n0) (by decide) rfl (fun ls hl => ?_)
        refine lv_lconst (v := 0) C.1 C.2.1 dk_70 (by decide) ?_
        refine lv_lstore_n (lv' := [(1, .long 0), (3, .int (nI (n0 + 1))), (5, .int y), (0, .ref q), (4, .int (nI i0))]) C.1 C.2.1 dk_71 rfl hl (by decide) rfl (fun ls hl => ?_)
        refine lv_goto (tgt := 84) C.1 C.2.1 dk_72 (by decide) ?_
        refine lv_iinc (v := nI (i0 + 1)) (lv' := [(4, .int (nI (i0 + 1))), (1, .long 0), (3, .int (nI (n0 + 1))), (5, .int y), (0, .ref q)]) C.1 C.2.1 dk_84 hl (k := 4) rfl (nI_1 i0) (by decide) rfl (fun ls hl => ?_)
        refine lv_goto (tgt := 28) C.1 C.2.1 dk_87 (by decide) ?_
        have hsw := sub_.set (e' := .inl (cy 2, (24, .inr (.inl (vp_updL g (nI n0).toNatClampNeg x))))) hek'
        have hG3 : gH cy b.1 (ws.set k (qk, .inl (cy 2, (24, .inr (.inl (vp_updL g (nI n0).toNatClampNeg x)))))) hf := by
          refine ⟨by rw [List.length_set]; exact hG.1, fun j cc hj => ?_⟩
          have hlt := (List.getElem?_eq_some_iff.mp hek').1
          by_cases hjk : j = k
          · subst hjk
            rw [hk] at hj
            obtain rfl := Option.some.inj hj
            have hgA : gA b.1 (ws.set j (qk, .inl (cy 2, (24, .inr (.inl (vp_updL g (nI n0).toNatClampNeg x)))))) 2 24 (zs 24 (.inr (.inl none))) (24, .inr (.inl (vp_updL g (nI n0).toNatClampNeg x))) := by
              refine ⟨rfl, Or.inr (Or.inl ⟨rfl, _, rfl, fun t z ht hz => ?_⟩)⟩
              rw [pg_zs ht] at hz
              obtain rfl := Option.some.inj hz
              exact fun k hk => by cases hk
            exact ⟨qk, .inl (cy 2, (24, .inr (.inl (vp_updL g (nI n0).toNatClampNeg x)))), by rw [List.getElem?_set_self hlt], rfl, hgA⟩
          · obtain ⟨q', e', h1, h2⟩ := hG.2 j cc hj
            exact ⟨q', e', by rw [List.getElem?_set_ne (Ne.symm hjk)]; exact h1, h2.mono hsw⟩
        obtain ⟨e3, he3⟩ := hsw i q _ hq'
        have h32 : (KBY.getD i0 0 &&& 255 : Int32) = 32 := by
          rw [hyb]
          first | exact heq | exact Decidable.not_not.mp heq
        have hkr3 : kRow cy (ws.set k (qk, .inl (cy 2, (24, .inr (.inl (vp_updL g (nI n0).toNatClampNeg x)))))) k (n0 + 1) := by
          intro q' g' he t9 ht9
          rw [List.getElem?_set_self (List.getElem?_eq_some_iff.mp hek').1] at he
          simp only [Option.some.injEq, Prod.mk.injEq, Sum.inl.injEq, Sum.inr.injEq, true_and] at he
          have hg9 := he.2
          subst hg9
          unfold vp_updL
          rw [nI_clamp (by omega)]
          by_cases c9 : t9 = n0
          · rw [if_pos c9, c9]
            have hw := tk_word (i := i0) (by omega) h32
            rw [hT] at hw
            exact hw
          · rw [if_neg c9]
            exact hkr qk g hek' t9 (by omega)
        exact ih (i0 + 1) (n0 + 1) (by omega) (by omega) 0 (by rw [tk_sp h32, hT]) q e3 _ H3 locs3 ls hkr3 he3 hG3 (hsub.tr hsw) hP3 hD3 hS3 (lv_sub hl [4, 1, 2, 0] rfl)
      · omega
theorem free_get {h : AH} (hf : isFree h = true) : pg h.2.2 h.1 = some none := by
  unfold isFree at hf
  split at hf
  · assumption
  · cases hf
theorem hget_new {h : AH} {i n : Nat} {x : AC} {c : AC} (hf : isFree h = true) (hi : hget h i = some c) : hget (hnew h x n) i = some c := by
  have h1 := free_get hf
  have hne : i ≠ h.1 := by
    intro e
    subst e
    unfold hget at hi
    rw [h1] at hi
    cases hi
  unfold hget hnew at *
  simp only [pg_ps, if_neg hne]
  exact hi
theorem hget_own {h : AH} {n : Nat} {x : AC} (hf : isFree h = true) : hget (hnew h x n) h.1 = some x := by
  have h1 := free_get hf
  unfold hget hnew
  simp [pg_ps, h1]
theorem hget_self {h : AH} {i : Nat} {x c : AC} (hi : hget h i = some c) : hget (hset h i x) i = some x := by
  unfold hget hset at *
  simp only [pg_ps, if_true]
  cases hp : pg h.2.2 i with
  | none => rw [hp] at hi; cases hi
  | some o => rfl
theorem hget_other {h : AH} {i j : Nat} {x : AC} (hne : j ≠ i) : hget (hset h i x) j = hget h j := by
  unfold hget hset
  simp only [pg_ps, if_neg hne]
theorem gH_weak {cy : Nat → ClassId} {b : Nat} {ws : va_W} {h : AH} {X Y : AC} {n : Nat} (hf : isFree h = true) (hg : gH cy b ws (hnew h X n)) (hxy : ∀ e, gC cy b ws X e → gC cy b ws Y e) : gH cy b ws (hnew h Y n) := by
  refine ⟨hg.1, fun j c hj => ?_⟩
  have hj' : hget (hset h h.1 Y) j = some c := hj
  rcases hget_hset hj' with ⟨rfl, rfl⟩ | ⟨hne, hd⟩
  · obtain ⟨q, e, h1, h2⟩ := hg.2 h.1 X (hget_own hf)
    exact ⟨q, e, h1, hxy e h2⟩
  · exact hg.2 j c (hget_new hf hd)
theorem long_weak {cy : Nat → ClassId} {b : Nat} {ws : va_W} {n : Nat} {ch : List (List AV)} {e : va_E} (h : gC cy b ws (.inr (2, (n, ch))) e) : gC cy b ws (.inr (2, (n, zs n (.inr (.inl none))))) e := by
  obtain ⟨pp, rfl, hA⟩ := h.arr
  obtain ⟨_, ⟨h1, _⟩ | ⟨_, g, hg, hgg⟩ | ⟨h1, _⟩⟩ := hA
  · omega
  · refine ⟨rfl, rfl, Or.inr (Or.inl ⟨rfl, g, hg, fun t z ht hz => ?_⟩)⟩
    have hz : pg (zs n (.inr (.inl none))) t = some z := hz
    rw [pg_zs ht] at hz
    obtain rfl := Option.some.inj hz
    exact fun k hk => by cases hk
  · omega
theorem long_know {cy : Nat → ClassId} {b : Nat} {ws : va_W} {ch : List (List AV)} {e : va_E} (h : gC cy b ws (.inr (2, (24, ch))) e) (hk : ∀ g : Nat → Int64, e = .inl (cy 2, (24, .inr (.inl g))) → ∀ t, t < 24 → g t = KWS.getD t 0) : gC cy b ws (.inr (2, (24, ktS))) e := by
  obtain ⟨pp, rfl, hA⟩ := h.arr
  obtain ⟨_, ⟨h1, _⟩ | ⟨_, g, hg, hgg⟩ | ⟨h1, _⟩⟩ := hA
  · omega
  · have hg : pp = .inr (.inl g) := hg
    subst hg
    refine ⟨rfl, rfl, Or.inr (Or.inl ⟨rfl, g, rfl, fun t z ht hz => ?_⟩)⟩
    have hz : pg ktS t = some z := hz
    rw [ktS_at t ht] at hz
    obtain rfl := Option.some.inj hz
    exact fun k9 hk9 => by rw [hk g rfl t ht]; exact Option.some.inj hk9
  · omega
theorem gH_know {cy : Nat → ClassId} {b : Nat} {ws : va_W} {h2 : AH} {X U V c0 : AC} {i n : Nat} (hf : isFree h2 = true) (hne : h2.1 ≠ i) (hi : hget (hnew h2 U n) i = some c0) (hg : gH cy b ws (hset (hnew h2 U n) i X)) (hv : ∀ q e, ws[h2.1]? = some (q, e) → gC cy b ws U e → gC cy b ws V e) : gH cy b ws (hset (hnew h2 V n) i X) := by
  refine ⟨hg.1, fun j c hj => ?_⟩
  rcases hget_hset hj with ⟨rfl, rfl⟩ | ⟨hji, hd⟩
  · exact hg.2 j c (hget_self hi)
  · have hd' : hget (hset h2 h2.1 V) j = some c := hd
    rcases hget_hset hd' with ⟨rfl, rfl⟩ | ⟨hj2, hd2⟩
    · obtain ⟨q, e, h1, h3⟩ := hg.2 h2.1 U (by rw [hget_other hne]; exact hget_own hf)
      exact ⟨q, e, h1, hv q e h1 h3⟩
    · exact hg.2 j c (by rw [hget_other hji]; exact hget_new hf hd2)
/-- Tokens() -/
theorem tok_ctr {d : Nat} (hd : 8 ≤ d) {As : List AV} {h : AH} {r : Option AV} {h' : AH} {mr : MR} (hm : mr.1 = yX10_init ∧ mr.2.1 = cX10_init ∧ mr.2.2.1 = 6 ∧ mr.2.2.2.1 = none) (hz : tokS As h = some (r, h')) : Ctr l G cy mr (d + 1) As h r h' := by
  obtain ⟨hm1, hm2, hm3, hm4⟩ := hm
  unfold tokS at hz
  split at hz
  · rename_i i
    split at hz
    · rename_i c fs hg
      cases hb : (Nat.beq c 10 && (Nat.beq fs.length 14 && isFree h)) with
      | false => rw [hb] at hz; cases hz
      | true =>
        simp only [hb, cond_true, hnewK_eq, lsK_eq, hsetK_eq] at hz
        simp only [Bool.and_eq_true] at hb
        obtain rfl := Nat.eq_of_beq_eq_true hb.1
        have hlen := Nat.eq_of_beq_eq_true hb.2.1
        have hfree := hb.2.2
        generalize e1 : hnew h (.inr (0, (940, zs 940 (.inl (0, 0))))) 940 = h1 at hz
        generalize e2 : hset h1 i (.inl (10, fs.set 0 (.inr (.inr (.inl h.1))))) = h2 at hz
        cases hb2 : isFree h2 with
        | false => rw [hb2] at hz; cases hz
        | true =>
          simp only [hb2, cond_true, Option.some.injEq, Prod.mk.injEq] at hz
          obtain ⟨rfl, hh'⟩ := hz
          generalize e3 : hnew h2 (.inr (2, (24, ktS))) 24 = h3 at hh'
          obtain ⟨h3w, e3w⟩ : ∃ x, hnew h2 (.inr (2, (24, zs 24 (.inr (.inl none))))) 24 = x := ⟨_, rfl⟩
          obtain ⟨hw', ehw⟩ : ∃ x, hset h3w i (.inl (10, (fs.set 0 (.inr (.inr (.inl h.1)))).set 1 (.inr (.inr (.inl h2.1))))) = x := ⟨_, rfl⟩
          have a3w : h3w.1 = h2.1 + 1 ∧ h3w.2.1 = h2.2.1 + 24 := by rw [← e3w]; exact ⟨rfl, rfl⟩
          have a4w : hw'.1 = h3w.1 ∧ hw'.2.1 = h3w.2.1 := by rw [← ehw]; exact ⟨rfl, rfl⟩
          have a1 : h1.1 = h.1 + 1 ∧ h1.2.1 = h.2.1 + 940 := by rw [← e1]; exact ⟨rfl, rfl⟩
          have a2 : h2.1 = h1.1 ∧ h2.2.1 = h1.2.1 := by rw [← e2]; exact ⟨rfl, rfl⟩
          have a3 : h3.1 = h2.1 + 1 ∧ h3.2.1 = h2.2.1 + 24 := by rw [← e3]; exact ⟨rfl, rfl⟩
          have a4 : h'.1 = h3.1 ∧ h'.2.1 = h3.2.1 := by rw [← hh']; exact ⟨rfl, rfl⟩
          have g1 : hget h1 i = some (.inl (10, fs)) := by rw [← e1]; exact hget_new hfree hg
          have g2 : hget h2 i = some (.inl (10, fs.set 0 (.inr (.inr (.inl h.1))))) := by rw [← e2]; exact hget_self g1
          have g3 : hget h3w i = some (.inl (10, fs.set 0 (.inr (.inr (.inl h.1))))) := by rw [← e3w]; exact hget_new hb2 g2
          have g4 : hget hw' i = some (.inl (10, (fs.set 0 (.inr (.inr (.inl h.1)))).set 1 (.inr (.inr (.inl h2.1))))) := by rw [← ehw]; exact hget_self g3
          have gk : hget h3w h2.1 = some (.inr (2, (24, zs 24 (.inr (.inl none))))) := by rw [← e3w]; exact hget_own hb2
          have hne : h2.1 ≠ i := by
            intro e
            have := free_get hb2
            unfold hget at g2
            rw [← e, this] at g2
            cases g2
          have gk' : hget hw' h2.1 = some (.inr (2, (24, zs 24 (.inr (.inl none))))) := by rw [← ehw, hget_other hne]; exact gk
          have hfs1 : ((fs.set 0 (.inr (.inr (.inl h.1)))).set 1 (.inr (.inr (.inl h2.1))))[1]? = some (.inr (.inr (.inl h2.1))) := by rw [List.getElem?_set_self (by simp; omega)]
          refine ⟨by omega, by omega, fun b vs ws sz hgs hgh => ?_⟩
          rw [hm1, hm2, hm3, hm4]
          refine Met.ofW (cc := cX10_init) (maxL := 6) (ret := none) (by decide +kernel) rfl ?_
          intro p e s m args below meth c s₁ B hml hv
          obtain ⟨rfl, hsz, hPw, hK, hD0, hE⟩ := hv
          have hts := atoms_spec (ws := Cond.code yX10_init cX10_init 6 none :: gtbl) B.pre
          subst hsz
          have hD := hD0.self (sz := s.heap.size)
          have hlocks := B.notSynchronized
          have C : Cx p c m s vs.toArray meth G cy (va_A ws s.heap.size) "MerryDuchy$Tokens" "<init>" cX10_init 6 := ⟨B.exec, B.bytes, hml, findClass_of_methodNamed B.named, fun w hw => hts w (List.mem_cons_of_mem _ hw), hK, fun q hq => Or.inr hq, (name_of_methodNamed B.named B.method).1, hE⟩
          rw [lg_entry_eq]
          have h0 : ldL ([Sum.inr (Sum.inr (Sum.inl i))].map some ++ List.replicate (6 - 1) none) 0 = some (Sum.inr (Sum.inr (Sum.inl i))) := rfl
          have key : Wk p l e (rmD (d + 1) (h'.1 - h.1) (h'.2.1 - h.2.1)) s m vs.toArray below meth c (MQ below (Qg G cy b ws s.heap.size none h') vs.toArray s (h'.1 - h.1) (h'.2.1 - h.2.1) (va_A ws s.heap.size)) G cy (b, ws) (va_A ws s.heap.size) 6 (h.1 + 1) h.2.1 0 ([Sum.inr (Sum.inr (Sum.inl i))].map some ++ List.replicate (6 - 1) none) [] h := by
            refine s_aload h0 (fun H locs ls st x hx kk => lv_aload_n C.1 C.2.1 dk_0 rfl hx kk) (fun H locs ls st hx kk => lv_aload_nN C.1 C.2.1 dk_0 rfl hx kk) ?_
            refine s_obj C dk_1 qu_3 gw_obj (by decide) ⟨by show 1 ≤ d + 1; omega, by show 100 ≤ 100 * (d + 1); omega⟩ ?_
            refine s_aload h0 (fun H locs ls st x hx kk => lv_aload_n C.1 C.2.1 dk_4 rfl hx kk) (fun H locs ls st hx kk => lv_aload_nN C.1 C.2.1 dk_4 rfl hx kk) ?_
            refine s_push (v := 940) (a := (((940 : Nat) : Int), ((940 : Nat) : Int))) (fun H locs ls st kk => lv_sipush C.1 C.2.1 dk_5 (by decide) kk) ⟨by decide, by decide⟩ ?_
            refine s_newa C (t := .byte) dk_8 qa_byte rfl (by decide) (Nat.le_refl _) (Nat.le_refl _) ⟨by show h.1 + 1 + 1 - (h.1 + 1) ≤ h'.1 - h.1; omega, by show h.2.1 + 940 - h.2.1 ≤ h'.2.1 - h.2.1; omega⟩ ?_
            rw [e1]
            refine s_put C (x := 10) (y := 0) (z := 3) dk_10 ⟨RX10, TX10, 14, tyX10 0, rfl, by decide, qt_9, tyX10_ok 0 (by decide), Or.inr (Or.inr (Or.inr ⟨rfl, Or.inr ⟨_, rfl⟩⟩)), Or.inr ⟨rfl, rfl, rfl⟩⟩ g1 rfl (by omega) ?_
            rw [e2]
            refine s_aload h0 (fun H locs ls st x hx kk => lv_aload_n C.1 C.2.1 dk_13 rfl hx kk) (fun H locs ls st hx kk => lv_aload_nN C.1 C.2.1 dk_13 rfl hx kk) ?_
            refine s_push (v := 24) (a := (((24 : Nat) : Int), ((24 : Nat) : Int))) (fun H locs ls st kk => lv_bipush C.1 C.2.1 dk_14 (by decide) kk) ⟨by decide, by decide⟩ ?_
            refine s_newa C (t := .long) dk_16 qa_long rfl (by decide) (by omega) (by omega) ⟨by show h2.1 + 1 + 1 - (h.1 + 1) ≤ h'.1 - h.1; omega, by show h2.2.1 + 24 - h.2.1 ≤ h'.2.1 - h.2.1; omega⟩ ?_
            have step : Wk p l e (rmD (d + 1) (h'.1 - h.1) (h'.2.1 - h.2.1)) s m vs.toArray below meth c (MQ below (Qg G cy b ws s.heap.size none h') vs.toArray s (h'.1 - h.1) (h'.2.1 - h.2.1) (va_A ws s.heap.size)) G cy (b, ws) (va_A ws s.heap.size) 6 (h.1 + 1) h.2.1 18 ([Sum.inr (Sum.inr (Sum.inl i))].map some ++ List.replicate (6 - 1) none) [.inr (.inr (.inl h2.1)), .inr (.inr (.inl i))] h3w := by
              refine s_put C (x := 10) (y := 1) (z := 3) dk_18 ⟨RX10, TX10, 14, tyX10 1, rfl, by decide, qt_15, tyX10_ok 1 (by decide), Or.inr (Or.inr (Or.inr ⟨rfl, Or.inr ⟨_, rfl⟩⟩)), Or.inr ⟨rfl, rfl, rfl⟩⟩ g3 rfl (by simp; omega) ?_
              rw [ehw]
              intro ws1 ls st H locs hs
              refine W.widen (k := h'.1 - h.1) (n := h'.2.1 - h.2.1) (by omega) (by omega) ?_
              obtain rfl := hs.2.2.1.nil
              obtain ⟨w0, hw0, gw0⟩ := hs.2.1.get h0
              obtain ⟨q, e0, rfl, hq⟩ := gw0.ref
              have hl : lv_has ls 6 [(0, .ref q)] := by
                obtain ⟨_, lv, h1', _⟩ := hs.2.1
                refine ⟨h1'.1, h1'.2.1, fun z hz => ?_⟩
                obtain rfl := List.mem_singleton.mp hz
                exact hw0
              obtain ⟨a, v, f, x1, x2, x3, x4, x5, x6, x7, _⟩ := hE
              refine lv_lconst (v := 0) C.1 C.2.1 dk_21 (by decide) ?_
              refine lv_lstore_n (lv' := [(1, .long 0), (0, .ref q)]) C.1 C.2.1 dk_22 rfl hl (by decide) rfl (fun ls hl => ?_)
              refine lv_iconst (v := 0) C.1 C.2.1 dk_23 (by decide) ?_
              refine lv_istore_n (lv' := [(3, .int 0), (1, .long 0), (0, .ref q)]) C.1 C.2.1 dk_24 rfl hl (by decide) rfl (fun ls hl => ?_)
              refine lv_iconst (v := 0) C.1 C.2.1 dk_25 (by decide) ?_
              refine lv_istore (lv' := [(4, .int 0), (3, .int 0), (1, .long 0), (0, .ref q)]) C.1 C.2.1 dk_26 hl (by decide) rfl (fun ls hl => ?_)
              refine tok_loop (b := (b, ws)) hd C x1.2 x1.1 ⟨x2, x3, x4, x5, x6, x7⟩ g4 hfs1 gk' (fun ws2 H2 locs2 ls2 y1 y2 y3 y4 y5 y6 => ?_) 132 0 0 rfl (by decide) 0 rfl q e0 ws1 H locs ls (fun _ _ _ t9 ht9 => absurd ht9 (Nat.not_lt_zero _)) hq hs.1 hs.2.1.from hs.2.2.2.1 hs.2.2.2.2.1 hs.2.2.2.2.2 (lv_sub hl [3, 2, 1, 0] rfl)
              have y1 : gH cy b ws2 h' := by
                rw [← hh', ← e3]
                rw [← ehw, ← e3w] at y1
                exact gH_know hb2 hne (by rw [e3w]; exact g3) y1 (fun q9 e9 hq9 hg9 => long_know hg9 (fun g9 hg8 => y6 q9 g9 (hg8 ▸ hq9)))
              exact W.vret C.1 C.2.1 B.returns (fun t ht hW => ⟨⟨none, ws2, rfl, by rw [ht]; exact y3, y4, y1, y2, trivial⟩, y5.F ht⟩) y5.2.2 dk_90
            intro ws1 ls st H locs hs
            have hs1 : gH cy b ws1 h3w := by
              rw [← e3w]
              exact gH_weak hb2 hs.1 (fun _ hx => long_weak hx)
            have h5 := step ws1 ls st H locs ⟨hs1, hs.2⟩
            rw [a3w.1, a3w.2] at h5
            exact h5
          have hw1 := key ws _ [] s.heap [] ⟨hgh, gL_entry hgs rfl rfl (by decide), trivial, hPw, hD, va_S.rf⟩
          rw [Nat.sub_self, Nat.sub_self] at hw1
          exact hw1
    · cases hz
  · cases hz
end TOK
