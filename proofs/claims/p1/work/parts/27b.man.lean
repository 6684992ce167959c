/-! man on a new duchy: the class throws, the law's own man catches -/
def NSEn : String := "java/util/NoSuchElementException"
def NMS : List String := ["java/lang/RuntimeException", "java/lang/Exception"]
def ATW : List Cond := vx_at0 "MerryDuchy" 144 "java/util/NoSuchElementException" ["java/lang/RuntimeException", "java/lang/Exception"]
def BW : List Cond := ATW.filter (fun w => !goodWord w)
def isDC : Cond → Bool
  | .declares _ => true
  | .castable _ _ => true
  | _ => false
theorem BW_dc : BW.all isDC = true := by decide +kernel
theorem BW_in : ∀ w ∈ BW, w ∈ lw_tbl := by decide +kernel
theorem AT_in : ∀ w ∈ ATW.filter goodWord, w ∈ lw_tbl := by decide +kernel
theorem AT_gt {w : Cond} (h : w ∈ ATW.filter goodWord) : w ∈ gtbl := List.mem_filter.mpr ⟨AT_in w h, (List.mem_filter.mp h).2⟩
theorem AT_ot : (Cond.classLink "MerryDuchy" 142 "java/util/NoSuchElementException" :: Cond.initialized "java/util/NoSuchElementException" :: ATW).all vx_ot = true := by decide +kernel
theorem BW_cast : Cond.castable "java/util/NoSuchElementException" "java/util/NoSuchElementException" ∈ BW := by decide +kernel
def NXD (U : State) : Prop := ∀ w ∈ BW, va_Nw w U
theorem dc_ot {w : Cond} (h : isDC w = true) : w.onTables = true := by
  cases w <;> simp_all [isDC, Cond.onTables]
theorem NXD.same {s U : State} (hv : s.vm = U.vm) (h : NXD s) : NXD U := fun w hw => va_Nw.same (dc_ot (List.all_eq_true.mp BW_dc w hw)) hv (h w hw)
theorem NXD.warm {s U : State} (hW : s.WarmedH U.vm) (h : NXD s) : NXD U := by
  intro w hw
  have h1 := List.all_eq_true.mp BW_dc w hw
  have h2 := h w hw
  cases w <;> simp only [isDC, Bool.false_eq_true] at h1
  · exact va_Nw.warmD hW h2
  · exact va_Nw.warmC hW h2
theorem NXD.at {s : State} (h : NXD s) {args : Array Value} (hg : ∀ w ∈ gtbl, w.before args s = true) : ∀ w ∈ ATW, w.before args s = true := by
  intro w hw
  cases hgw : goodWord w with
  | true => exact hg w (AT_gt (List.mem_filter.mpr ⟨hw, hgw⟩))
  | false =>
    have hb : w ∈ BW := List.mem_filter.mpr ⟨hw, by rw [hgw]; rfl⟩
    exact va_Nw.use (dc_ot (List.all_eq_true.mp BW_dc w hb)) (h w hb)
def PgN (G : va_G) (cy : Nat → ClassId) (ws : va_W) (sz : Nat) (vs : List Value) : Array Value → State → Prop := fun a U => Pg G cy ws sz vs a U ∧ NXD U
theorem PgN.blind {G : va_G} {cy : Nat → ClassId} {ws : va_W} {sz : Nat} {vs : List Value} : FrameBlind (PgN G cy ws sz vs) := fun a U g mk q => ⟨Pg.blind a U g mk q.1, NXD.same (s := U) (U := U.calling g mk a) rfl q.2⟩
/-- what a throw leaves -/
def XM (G : va_G) (cy : Nat → ClassId) (b : Nat) (ws : va_W) (sz : Nat) (h' : AH) : String → State → State → Prop := fun E st t => E = "java/util/NoSuchElementException" ∧ (∃ ws1 : va_W, va_P G vwCl ws1 t.heap ∧ va_D (va_A ws sz) ws1 ∧ gH cy b ws1 h' ∧ sub_ ws ws1) ∧ va_F (va_A ws sz) st t
section MAN
variable {l : Launch} {G : va_G} {cy : Nat → ClassId}
theorem man_met (hl : l.stackTraces = false) {h h2 : AH} {L2 : LO} {x : Nat} {a b2 : AI} (hz : evT cal0 none 12 ft_X11_man 100 0 [some (.inr (.inr (.inl x))), some (.inl a), some (.inl b2), none] [] h = some (L2, ([], h2))) (b : Nat) (vs : List Value) (ws : va_W) (sz : Nat) (hgs : gS b ws [.inr (.inr (.inl x)), .inl a, .inl b2] vs) (hgh : gH cy b ws h) :
    vx_Met l yX11_man (Cond.code yX11_man cX11_man 4 (some .int) :: gtbl) (rmD 13 (h2.1 - h.1 + 1) (h2.2.1 - h.2.1 + 6)) (PgN G cy ws sz vs) (fun _ _ _ _ => False) (XM G cy b ws sz h2) (h2.1 - h.1 + 1) (h2.2.1 - h.2.1 + 6) (va_A ws sz) := by
  obtain ⟨hm1, hm2⟩ := evT_mono hz
  refine vx_ofW (cc := cX11_man) (maxL := 4) (ret := some .int) (by decide +kernel) rfl ?_
  intro p e s m args below meth c s₁ B hml htab hv
  obtain ⟨⟨rfl, hsz, hPw, hK, hD0, hE⟩, hN⟩ := hv
  have hts := atoms_spec (ws := Cond.code yX11_man cX11_man 4 (some .int) :: gtbl) B.pre
  subst hsz
  have hD := hD0.self (sz := s.heap.size)
  have hlocks := B.notSynchronized
  have C : Cx p c m s vs.toArray meth G cy (va_A ws s.heap.size) yX11_man.cls yX11_man.name cX11_man 4 := ⟨B.exec, B.bytes, hml, findClass_of_methodNamed B.named, fun w hw => hts w (List.mem_cons_of_mem _ hw), hK, fun q hq => Or.inr hq, (name_of_methodNamed B.named B.method).1, hE⟩
  rw [lg_entry_eq]
  have k : Wk p l e (rmD 13 (h2.1 - h.1 + 1) (h2.2.1 - h.2.1 + 6)) s m vs.toArray below meth c (vx_MQ below (fun _ _ _ _ => False) (XM G cy b ws s.heap.size h2) vs.toArray s (h2.1 - h.1 + 1) (h2.2.1 - h.2.1 + 6) (va_A ws s.heap.size)) G cy (b, ws) (va_A ws s.heap.size) 4 (h.1 + 1) h.2.1 12 L2 [] h2 := by
    intro ws1 ls st H locs hs
    obtain rfl := hs.2.2.1.nil
    have hsize : ls.size = c.maxLocals := by
      obtain ⟨_, lv, h1, _⟩ := hs.2.1
      rw [hml]
      exact h1.1
    obtain ⟨_, _, _, _, _, _, _, _, _, _, hU, hN1⟩ := hE
    refine vx_throw0 (cc := cX11_man) (own := "MerryDuchy") (cls := "java/util/NoSuchElementException") (names := ["java/lang/RuntimeException", "java/lang/Exception"]) (ik := 142) (ic := 144) (A := va_A ws s.heap.size) C.1 C.2.1 hl C.2.2.2.1 (by decide +kernel) (by decide +kernel) (C.2.2.2.2.1 _ q_c_MerryDuchy_142) (C.2.2.2.2.1 _ q_n_NSE) (hN.at C.2.2.2.2.1) (List.all_eq_true.mp AT_ot) hU hN1 hs.2.2.2.2.2 hsize dd_X11_man_12 dd_X11_man_15 dd_X11_man_16 dd_X11_man_19 (fun x hx => (htab x hx).elim) (by show 2 + 3 < 13; omega) (by show 0 + (13 * (2 + 1) + 42) ≤ 100 * 13; omega) (by show h2.1 + 1 - (h.1 + 1) + 1 ≤ h2.1 - h.1 + 1; omega) (Nat.le_refl _) hlocks ?_ hs.2.2.2.2.2.2.2 (by omega) (Nat.le_refl _)
    intro t _ hz2 hk
    have hlt : ∀ (k : Nat) (q : Nat × va_E), ws1[k]? = some q → q.1 < H.size := fun k q hkq => vx_lt hs.2.2.2.1 hkq
    refine ⟨rfl, ⟨ws1, hs.2.2.2.1.kept (fun k q hkq => hk q.1 (hlt k q hkq)), hs.2.2.2.2.1, hs.1, hs.2.1.from⟩, Nat.le_trans hs.2.2.2.2.2.1 hz2, fun q h1 h2 => ?_⟩
    rw [hk q (Nat.lt_of_lt_of_le h1 hs.2.2.2.2.2.1)]
    exact hs.2.2.2.2.2.2.1 q h1 h2
  have hw0 := evT_sound (R := rmD 13 (h2.1 - h.1 + 1) (h2.2.1 - h.2.1 + 6)) C PM_ok cal0_ok (sc := none) (fun f hf => by cases hf) DF_ok (rt := some .int) ot_X11_man fk_X11_man (by show 12 + 1 ≤ 13; omega) (by show 100 * 12 + 100 ≤ 100 * 13; omega) ⟨by show h2.1 + 1 - (h.1 + 1) ≤ h2.1 - h.1 + 1; omega, by show h2.2.1 - h.2.1 ≤ h2.2.1 - h.2.1 + 6; omega⟩ k hz (Nat.le_refl _) (Nat.le_refl _)
  have hw1 := hw0 ws _ [] s.heap [] ⟨hgh, gL_entry (na := 3) (mL := 4) hgs rfl rfl (by decide), trivial, hPw, hD, va_S.rf⟩
  rw [Nat.sub_self, Nat.sub_self] at hw1
  exact hw1
/-- a call that can't return -/
theorem vx_callT {p : Program} {e : Env} {R : Room} {s : State} {m : MethodId} {args : Array Value} {below : List Frame} {meth : Method} {c : Code} {Q : State → Prop} {b : Nat} {pc mc ms sz : Nat} {ls : Array Slot} {rest st0 : List Value} {A0 : Nat → Prop} {H0 H : Heap} {locs : List Loc} {cells slots : Nat} {ws : va_W} {h' : AH} (hr : vx_Run p l e R s m args below meth c H locs cells slots mc ms (F0 m pc ls st0) rest (fun _ _ _ => False) (XM G cy b ws sz h') (va_A ws sz)) (hS : va_S A0 H0 H locs) (hA : ∀ q, va_A ws sz q → A0 q)
    (kx : ∀ (ce : Cell) (q9 : Addr) (ws1 : va_W) (H1 : Heap) (locs1 : List Loc), va_P G vwCl ws1 H1 → va_D A0 ws1 → gH cy b ws1 h' → sub_ ws ws1 → va_S A0 H0 H1 locs1 → H1[q9]? = some ce → ce.vm = .none → s.vm.findClass "java/util/NoSuchElementException" = some ce.cls → vx_W p l e R s m args below meth c H1 locs1 (cells + mc) (slots + ms) Q (F0 m pc ls rest) q9) : W p l e R s m args below meth c H locs cells slots Q (F0 m pc ls st0) := by
  intro T hT X
  rcases hr T hT X with ⟨v, st₀, t, T', L, h0, X', hL, e1, e2, hq, st⟩ | ⟨q, st₀, t, T', L, E, ce, h0, X', hL, e1, e2, ⟨rfl, ⟨ws1, hP, hD, hG, hsub⟩, hF⟩, hce, hcv, hcl, st⟩
  · exact hq.elim
  · obtain ⟨k1, k2, k3⟩ := vx_keep h0 e1 hS (fun q _ h => hA q h) hA hL hF
    obtain ⟨t2, a1, b1⟩ := kx ce q ws1 T'.heap (locs ++ L) (by rw [e1]; exact hP) (hD.weaken (fun _ _ _ h => hA _ h)) hG hsub k3 (by rw [e1]; exact hce) hcv hcl T' rfl X'
    exact ⟨t2, st.trans a1, b1⟩
/-- a call that can't throw -/
theorem vx_callg {p : Program} {e : Env} {R : Room} {s : State} {m : MethodId} {args : Array Value} {below : List Frame} {meth : Method} {c : Code} {Q : State → Prop} {b : Nat} {pc mc ms sz : Nat} {ls : Array Slot} {rest st0 : List Value} {a : Array Value} {A0 : Nat → Prop} {H0 H : Heap} {locs : List Loc} {cells slots : Nat} {ws : va_W} {r : Option AV} {h' : AH} (hr : vx_Run p l e R s m args below meth c H locs cells slots mc ms (F0 m pc ls st0) rest (Qg G cy b ws sz r h' a) (fun _ _ _ => False) (va_A ws sz)) (hS : va_S A0 H0 H locs) (hA : ∀ q, va_A ws sz q → A0 q)
    (kk : ∀ (v : Option Value) (ws1 : va_W) (H1 : Heap) (locs1 : List Loc), va_P G vwCl ws1 H1 → va_D A0 ws1 → gH cy b ws1 h' → sub_ ws ws1 → gO b ws1 r v → va_S A0 H0 H1 locs1 → W p l e R s m args below meth c H1 locs1 (cells + mc) (slots + ms) Q (F0 m (pc + 3) ls (v.toList ++ rest))) : W p l e R s m args below meth c H locs cells slots Q (F0 m pc ls st0) := by
  intro T hT X
  rcases hr T hT X with ⟨v0, st₀, t, T', L, h0, X', hL, e1, e2, ⟨⟨v, ws1, hv, hP, hD, hG, hsub, hO⟩, hF⟩, st⟩ | ⟨q, st₀, t, T', L, E, ce, h0, X', hL, e1, e2, hq, _⟩
  · cases hv
    obtain ⟨k1, k2, k3⟩ := vx_keep h0 e1 hS (fun q _ h => hA q h) hA hL hF
    obtain ⟨t2, a1, b1⟩ := kk v0 ws1 T'.heap (locs ++ L) (by rw [e1]; exact hP) (hD.weaken (fun _ _ _ h => hA _ h)) hG hsub hO k3 T' rfl X'
    exact ⟨t2, st t2 a1, b1⟩
  · exact hq.elim
theorem lman_met (hl : l.stackTraces = false) {h h2 : AH} {L2 : LO} {x o : Nat} {a b2 : AI} (hox : isO h 11 (.inr (.inr (.inl x))) = true) (hz : evT cal0 none 12 ft_X11_man 100 0 [some (.inr (.inr (.inl x))), some (.inl a), some (.inl b2), none] [] h = some (L2, ([], h2))) (b : Nat) (vs : List Value) (ws : va_W) (sz : Nat) (hgs : gS b ws [.inr (.inr (.inl x)), .inl a, .inl b2, .inr (.inr (.inl o))] vs) (hgh : gH cy b ws h) :
    vx_Met l yL_man (Cond.codeWith yL_man cL_man 5 (some .int) [(0, 10, 13, 13)] :: gtbl) (rmD 14 (h2.1 - h.1 + 1) (h2.2.1 - h.2.1 + 6)) (PgN G cy ws sz vs) (Qg G cy b ws sz (some (.inl (1, 1))) h2) (fun _ _ _ => False) (h2.1 - h.1 + 1) (h2.2.1 - h.2.1 + 6) (va_A ws sz) := by
  obtain ⟨hm1, hm2⟩ := evT_mono hz
  refine vx_ofWH (cc := cL_man) (maxL := 5) (ret := some .int) (hh := [(0, 10, 13, 13)]) (by decide +kernel) rfl ?_
  intro p e s m args below meth c s₁ B hml hv
  obtain ⟨⟨rfl, hsz, hPw, hK, hD0, hE⟩, hN⟩ := hv
  have hts := atoms_spec (ws := Cond.codeWith yL_man cL_man 5 (some .int) [(0, 10, 13, 13)] :: gtbl) B.pre
  subst hsz
  have hD := hD0.self (sz := s.heap.size)
  have hlocks := B.notSynchronized
  have htb := vx_table (x := yL_man) B (hts _ List.mem_cons_self)
  have C : Cx p c m s vs.toArray meth G cy (va_A ws s.heap.size) "MerryDuchyLaw" "man" cL_man 5 := ⟨B.exec, B.bytes, hml, findClass_of_methodNamed B.named, fun w hw => hts w (List.mem_cons_of_mem _ hw), hK, fun q hq => Or.inr hq, (name_of_methodNamed B.named B.method).1, hE⟩
  rw [lg_entry_eq]
  have key : Wk p l e (rmD 14 (h2.1 - h.1 + 1) (h2.2.1 - h.2.1 + 6)) s m vs.toArray below meth c (vx_MQ below (Qg G cy b ws s.heap.size (some (.inl (1, 1))) h2) (fun _ _ _ => False) vs.toArray s (h2.1 - h.1 + 1) (h2.2.1 - h.2.1 + 6) (va_A ws s.heap.size)) G cy (b, ws) (va_A ws s.heap.size) 5 (h.1 + 1) h.2.1 0 [some (.inr (.inr (.inl x))), some (.inl a), some (.inl b2), some (.inr (.inr (.inl o))), none] [] h := by
    refine s_aload (i := 3) (a := .inl o) rfl (fun H locs ls st x hx kk => lv_aload_n C.1 C.2.1 dd_L_man_0 rfl hx kk) (fun H locs ls st hx kk => lv_aload_nN C.1 C.2.1 dd_L_man_0 rfl hx kk) ?_
    refine s_push (v := 0) (a := (0, 0)) (fun H locs ls st kk => lv_iconst C.1 C.2.1 dd_L_man_1 (by decide) kk) ⟨by decide, by decide⟩ ?_
    refine s_aload (i := 0) (a := .inl x) rfl (fun H locs ls st x hx kk => lv_aload_n C.1 C.2.1 dd_L_man_2 rfl hx kk) (fun H locs ls st hx kk => lv_aload_nN C.1 C.2.1 dd_L_man_2 rfl hx kk) ?_
    refine s_iload (i := 1) (a := a) rfl (fun H locs ls st x hx kk => lv_iload_n C.1 C.2.1 dd_L_man_3 rfl hx kk) ?_
    refine s_iload (i := 2) (a := b2) rfl (fun H locs ls st x hx kk => lv_iload_n C.1 C.2.1 dd_L_man_4 rfl hx kk) ?_
    intro ws1 ls st H locs hs
    obtain ⟨w5, r5, rfl, g5, q5⟩ := hs.2.2.1.cons
    obtain ⟨w4, r4, rfl, g4, q4⟩ := q5.cons
    obtain ⟨w3, r3, rfl, g3, q3⟩ := q4.cons
    obtain ⟨q0, e0, rfl, he⟩ := g3.ref
    obtain ⟨ia, fs, hia0, hia⟩ := isO_ok hox
    have hia1 : x = ia := by simpa using hia0
    subst hia1
    obtain ⟨vv, he', _⟩ := at_obj hs.1 he hia
    have hcl : vwCl[11]? = some (yX11_man.cls, TX11, 18) := rfl
    have hrv := va_recv C.2.2.2.2.2.1.1 hs.2.2.2.1 hcl he'
    have hsz : ls.size = 5 := by
      obtain ⟨_, lv, h1, _⟩ := hs.2.1
      exact h1.1
    have hAA : ∀ q, va_A ws1 H.size q → va_A ws s.heap.size q := by
      intro q hq
      rcases hq with ⟨k', e', hk'⟩ | hq
      · exact hs.2.2.2.2.1.2 k' _ hk'
      · exact Or.inr (Nat.le_trans hs.2.2.2.2.2.1 hq)
    have hM := man_met (G := G) (cy := cy) (l := l) hl hz b [.ref q0, w4, w5] ws1 H.size ⟨g3, g4, g5, trivial⟩ hs.1
    have hpre : ∀ U : State, U.heap = H → s.WarmedH U.vm → PgN G cy ws1 H.size [.ref q0, w4, w5] ([.ref q0, w4, w5] : List Value).toArray U := fun U hU hW => ⟨⟨rfl, by rw [hU], by rw [hU]; exact hs.2.2.2.1, C.2.2.2.2.2.1.warm hW, hs.2.2.2.2.1.weaken (fun _ _ _ _ => trivial), C.2.2.2.2.2.2.2.2.to hW hU hs.2.2.2.2.2 hAA⟩, hN.warm hW⟩
    have hsum := q3.sum
    have hlr : 2 * (F0 m 5 ls (w5 :: w4 :: Value.ref q0 :: r3)).monitorRoom + (r3.map fun v => v.category).sum ≤ 8 := by
      have : (F0 m 5 ls (w5 :: w4 :: Value.ref q0 :: r3)).monitorRoom = 0 := rfl
      rw [this]
      simp only [List.length_cons, List.length_nil] at hsum
      omega
    have hfix : CallFix p m c cL_man 5 s vs.toArray gtbl "MerryDuchyLaw" := ⟨C.1, C.2.1, C.2.2.1, C.2.2.2.1, C.2.2.2.2.1⟩
    refine vx_callT (vx_runV (C := yX11_man.cls) (As := [w4, w5]) (rest := r3) (b := q0) hfix hM (cwV 2 C.2.2.2.2.1 (gd_app (gd_4 q_m_MerryDuchyLaw_7 q_v_X11_man q_e_X11_man nb_X11_man.2.1) (gd_tbl q_k_X11_man)) rfl rfl rfl ⟨rfl, nb_X11_man.1.1, nb_X11_man.1.2, nb_X11_man.2.2⟩ ⟨by show 13 + 1 ≤ 14; omega, by show 8 + (4 + 11) + 100 * 13 ≤ 100 * 14; omega⟩) ⟨PgN.blind, hrv, hpre⟩ rfl rfl hsz rfl hlr dd_L_man_5 ⟨by show h.1 + 1 - (h.1 + 1) + (h2.1 - h.1 + 1) ≤ h2.1 - h.1 + 1; omega, by show h.2.1 - h.2.1 + (h2.2.1 - h.2.1 + 6) ≤ h2.2.1 - h.2.1 + 6; omega⟩) hs.2.2.2.2.2 hAA ?_
    intro ce q9 ws2 H2 locs2 hP2 hD2 hG2 hsub2 hS2 hc1 hc2 hc3
    refine vx_catch (own := "MerryDuchyLaw") (name := "java/util/NoSuchElementException") (E := "java/util/NoSuchElementException") (ce := ce) C.2.2.2.1 [] ⟨0, 10, 13, 13⟩ [] (by rw [htb]; rfl) (fun z hz => by cases hz) (by decide) (by decide) (C.2.2.2.2.1 _ q_c_MerryDuchyLaw_13) (va_Nw.use rfl (hN _ BW_cast)) hc1 hc2 hc3 ?_
    obtain ⟨_, lv, hlv, _⟩ := hs.2.1
    refine lv_astore (lv := lv) C.1 C.2.1 dd_L_man_13 hlv (by decide) rfl (fun ls' hl' => ?_)
    refine lv_iconst (v := 1) C.1 C.2.1 dd_L_man_15 (by decide) ?_
    refine vx_ret ?_
    refine W.widen (k := h2.1 - h.1 + 1) (n := h2.2.1 - h.2.1 + 6) (by omega) (by omega) ?_
    exact W.zret (ty := .int) C.1 C.2.1 B.returns rfl (fun t hth hW => ⟨⟨some (.int 1), ws2, rfl, by rw [hth]; exact hP2, hD2, hG2, hs.2.1.from.tr hsub2, ⟨by decide, by decide⟩⟩, hS2.F hth⟩) hS2.2.2 dd_L_man_16
  have hw1 := key ws _ [] s.heap [] ⟨hgh, gL_entry (na := 4) (mL := 5) hgs rfl rfl (by decide), trivial, hPw, hD, va_S.rf⟩
  rw [Nat.sub_self, Nat.sub_self] at hw1
  exact hw1
variable {p : Program} {e : Env} {s : State} {m : MethodId} {below : List Frame} {meth : Method} {c : Code} {b : Nat}
def hup (h : AH) : AH := (h.1, (h.2.1 + 6, h.2.2))
theorem gH.up {ws : va_W} {h : AH} (hg : gH cy b ws h) : gH cy b ws (hup h) := hg
noncomputable def manC (f : Nat → AI) (h : AH) : Bool := match evT cal0 (some f) 362 ft_L_law 100 348 Lw [] h with
  | some (L1, (S1, h1)) => decide (L1 = Lw) && (decide (S1 = [.inr (.inr (.inl 198)), .inl (f 2), .inl (f 1), .inr (.inr (.inl 0))]) && (isO h1 11 (.inr (.inr (.inl 0))) && (match evT cal0 none 12 ft_X11_man 100 0 [some (.inr (.inr (.inl 0))), some (.inl (f 1)), some (.inl (f 2)), none] [] h1 with
    | some (L2, ([], h2)) => Nat.ble h2.1 1000 && (Nat.ble h2.2.1 100000 && (Nat.ble h1.1 1000 && (Nat.ble h1.2.1 100000 && chkG cal0 365 Lw [.inl (1, 1)] f (hup h2))))
    | _ => false)))
  | none => false
theorem law_man (C : CxL p c m s b meth G cy) (hr : meth.sig.returnType = ret) (hlocks : meth.locks = false) (hl : l.stackTraces = false) (hN : NXD s) {f : Nat → AI} (hsc : okSc s (b, []) (fun q : Nat => s.heap.size ≤ q) (some f)) (hz : manC f hS = true) : WkL p l e s m b below meth c G cy 1 348 Lw [] hS := by
  unfold manC at hz
  split at hz
  · rename_i L1 S1 h1 he1
    simp only [Bool.and_eq_true, decide_eq_true_eq] at hz
    obtain ⟨rfl, rfl, hox, hz⟩ := hz
    split at hz
    · rename_i L2 h2 he2
      simp only [Bool.and_eq_true] at hz
      obtain ⟨b1, b2, b3, b4, hz⟩ := hz
      have b1 := Nat.le_of_ble_eq_true b1
      have b2 := Nat.le_of_ble_eq_true b2
      have b3 := Nat.le_of_ble_eq_true b3
      have b4 := Nat.le_of_ble_eq_true b4
      obtain ⟨hm1, hm2⟩ := evT_mono he2
      have after : WkL p l e s m b below meth c G cy 0 365 Lw [.inl (1, 1)] (hup h2) := law_runG C hr hlocks cal0_ok (Nat.zero_le _) hsc hz
      refine evT_sound C PM_ok cal0_ok hsc DF_ok (ot_L_law meth.name) (rt := some .boolean) fk_L_law (by decide) (by decide) ⟨by show h1.1 + 1 - 1 ≤ 600002; omega, by show h1.2.1 - 0 ≤ 7302232; omega⟩ ?_ he1 (Nat.le_add_left _ _) (Nat.zero_le _)
      intro ws ls st H locs hs
      obtain ⟨w4, r4, rfl, g4, q4⟩ := hs.2.2.1.cons
      obtain ⟨w3, r3, rfl, g3, q3⟩ := q4.cons
      obtain ⟨w2, r2, rfl, g2, q2⟩ := q3.cons
      obtain ⟨w1, r1, rfl, g1, q1⟩ := q2.cons
      obtain rfl := q1.nil
      have hsz : ls.size = 7 := by
        obtain ⟨_, lv, h1, _⟩ := hs.2.1
        exact h1.1
      have hAA : ∀ q, va_A ws H.size q → (fun q : Nat => s.heap.size ≤ q) q := by
        intro q hq
        rcases hq with ⟨k', e', hk'⟩ | hq
        · exact hs.2.2.2.2.1.2 k' _ hk'
        · exact Nat.le_trans hs.2.2.2.2.2.1 hq
      have hM := lman_met (G := G) (cy := cy) (l := l) hl hox he2 b [w1, w2, w3, w4] ws H.size ⟨g1, g2, g3, g4, trivial⟩ hs.1
      have hpre : ∀ U : State, U.heap = H → s.WarmedH U.vm → PgN G cy ws H.size [w1, w2, w3, w4] ([w1, w2, w3, w4] : List Value).toArray U := fun U hU hW => ⟨⟨rfl, by rw [hU], by rw [hU]; exact hs.2.2.2.1, C.2.2.2.2.2.1.warm hW, hs.2.2.2.2.1.weaken (fun _ _ _ _ => trivial), C.2.2.2.2.2.2.2.2.to hW hU hs.2.2.2.2.2 hAA⟩, hN.warm hW⟩
      have hfix : CallFix p m c cL_law 7 s #[Value.ref b] gtbl "MerryDuchyLaw" := ⟨C.1, C.2.1, C.2.2.1, C.2.2.2.1, C.2.2.2.2.1⟩
      refine vx_callg (vx_runSX (As := [w1, w2, w3, w4]) (rest := []) hfix hM (vx_cwSW 4 C.2.2.2.2.1 (gd_app (gd_3 q_m_MerryDuchyLaw_38 q_s_L_man q_n_MerryDuchyLaw) (gd_tbl q_k_L_man)) rfl rfl rfl ⟨by decide, by decide, by decide +kernel⟩ ⟨by show 14 + 1 ≤ 2048; omega, by show 8 + (5 + 11) + 100 * 14 ≤ 84000; omega⟩) ⟨PgN.blind, hpre⟩ rfl rfl hsz rfl (by show 2 * 0 + 0 ≤ 8; omega) dd_L_law_362 ⟨by show h1.1 + 1 - 1 + (h2.1 - h1.1 + 1) ≤ 600002; omega, by show h1.2.1 - 0 + (h2.2.1 - h1.2.1 + 6) ≤ 7302232; omega⟩) hs.2.2.2.2.2 hAA ?_
      intro v ws1 H1 locs1 hP hD hG hsub hO hS1
      cases v with
      | none => exact hO.elim
      | some v =>
        refine W.widen (k := (hup h2).1 + 1 - 0) (n := (hup h2).2.1 - 0) (by show _ ≤ h2.1 + 1 - 0; omega) (by show _ ≤ h2.2.1 + 6 - 0; omega) ?_
        exact after ws1 ls [v] H1 locs1 ⟨hG.up, hs.2.1.mono hsub, ⟨hO, trivial⟩, hP, hD, hS1⟩
    · cases hz
  · cases hz
end MAN
noncomputable def manB : Bool := match headR with
  | some (_, (_, h)) => manC (fb ((-2147483648, -1), ((-2147483648, 2147483647), (-2147483648, 2147483647)))) h && manC (fb ((0, 2147483647), ((-2147483648, 2147483647), (-2147483648, 2147483647)))) h
  | none => false
theorem man_run : manB = true := by decide +kernel
theorem man_get : manC (fb ((-2147483648, -1), ((-2147483648, 2147483647), (-2147483648, 2147483647)))) hS = true ∧ manC (fb ((0, 2147483647), ((-2147483648, 2147483647), (-2147483648, 2147483647)))) hS = true := by
  have h := man_run
  unfold manB at h
  rw [head_eq.1] at h
  exact Bool.and_eq_true_iff.mp h
