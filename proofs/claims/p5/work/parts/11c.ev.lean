section EV
variable {p : Program} {l : Launch} {e : Env} {R : Room} {s : State} {m : MethodId} {args : Array Value} {below : List Frame} {meth : Method} {c : Code} {Q : State → Prop}
variable {G : va_G} {cy : Nat → ClassId} {b : BB} {A : Nat → Prop} {own nm : String} {cc : ByteArray} {nL c0 s0 : Nat}
theorem rets_ok {rt : Option FieldType} {t : TB} {pc : Nat} {S : List AV} {r : Option AV} (h : rets rt t pc S = some r) :
    (∃ (a : AI) (q : Nat × (Nat × Nat)), pg t pc = some (some (.ireturn, (1, q))) ∧ S = [.inl a] ∧ r = some (.inl a) ∧ (rt = some .int ∨ (rt = some .boolean ∧ 0 ≤ a.1 ∧ a.2 ≤ 1))) ∨
    (∃ q : Nat × (Nat × Nat), pg t pc = some (some (.return_, (1, q))) ∧ S = [] ∧ r = none ∧ rt = none) := by
  unfold rets at h
  split at h
  · rename_i len q hp
    cases hl : Nat.beq len 1 with
    | false => rw [hl] at h; cases h
    | true =>
      rw [hl] at h
      obtain rfl := Nat.eq_of_beq_eq_true hl
      simp only [cond_true] at h
      split at h
      · rename_i a
        split at h
        · obtain rfl := Option.some.inj h
          exact Or.inl ⟨a, q, hp, rfl, rfl, Or.inl rfl⟩
        · cases ha : (decide (0 ≤ a.1) && decide (a.2 ≤ 1)) with
          | false => rw [ha] at h; cases h
          | true =>
            rw [ha] at h
            obtain rfl := Option.some.inj h
            simp only [Bool.and_eq_true, decide_eq_true_eq] at ha
            exact Or.inl ⟨a, q, hp, rfl, rfl, Or.inr ⟨rfl, ha.1, ha.2⟩⟩
        · cases h
      · cases h
  · rename_i len q hp
    cases hl : Nat.beq len 1 with
    | false => rw [hl] at h; cases h
    | true =>
      rw [hl] at h
      obtain rfl := Nat.eq_of_beq_eq_true hl
      simp only [cond_true] at h
      split at h
      · obtain rfl := Option.some.inj h
        exact Or.inr ⟨q, hp, rfl, rfl, rfl⟩
      · cases h
  · cases h
theorem evB_mono {P : Nat → Option MR} {cal : CAL} {sc : Option (Nat → AI)} {rt : Option FieldType} {dfs : Nat → Option (List AV)} {t : TB} {r : Option AV} {h' : AH} : ∀ {n pc : Nat} {L : LO} {S : List AV} {h : AH}, evB P cal sc rt dfs t n pc L S h = some (r, h') → h.1 ≤ h'.1 ∧ h.2.1 ≤ h'.2.1
  | 0, _, _, _, _, hz => by cases hz
  | n + 1, pc, L, S, h, hz => by
    unfold evB at hz
    split at hz
    · rename_i pc2 L2 S2 h2 _
      cases hc : (Nat.ble h.1 h2.1 && Nat.ble h.2.1 h2.2.1) with
      | false => rw [hc] at hz; cases hz
      | true =>
        rw [hc] at hz
        simp only [cond_true] at hz
        have ih := evB_mono (n := n) hz
        simp only [Bool.and_eq_true] at hc
        have h1 := Nat.le_of_ble_eq_true hc.1
        have h2' := Nat.le_of_ble_eq_true hc.2
        omega
    · split at hz
      · obtain ⟨rfl, rfl⟩ := Prod.mk.inj (Option.some.inj hz)
        omega
      · cases hz
    · cases hz
theorem evB_sound (C : Cx p c m s args meth G cy A own nm cc nL) {P : Nat → Option MR} (hP : ∀ y mr, P y = some mr → okM P mr) {cal : CAL} {d : Nat} (hcal : ∀ y mr As h r h', P y = some mr → cal y As h = some (r, h') → Ctr l G cy mr d As h r h') {sc : Option (Nat → AI)} (hsc : okSc s b A sc) {rt : Option FieldType} {dfs : Nat → Option (List AV)} (hdf : okDf dfs) {t : TB} (ht : okT P own nm cc t) {r : Option AV} {h' : AH}
    (hRf : d + 1 ≤ R.frames) (hRl : 100 * d + 100 ≤ R.locals) (hRc : h'.1 + 1 - c0 ≤ R.cells ∧ h'.2.1 - s0 ≤ R.slots)
    (hret : ∀ (pc : Nat) (L : LO) (S : List AV), rets rt t pc S = some r → Wk p l e R s m args below meth c Q G cy b A nL c0 s0 pc L S h') :
    ∀ {n pc : Nat} {L : LO} {S : List AV} {h : AH}, evB P cal sc rt dfs t n pc L S h = some (r, h') → c0 ≤ h.1 + 1 → s0 ≤ h.2.1 → Wk p l e R s m args below meth c Q G cy b A nL c0 s0 pc L S h
  | 0, _, _, _, _, hz, _, _ => by cases hz
  | n + 1, pc, L, S, h, hz, hc0, hs0 => by
    unfold evB at hz
    split at hz
    · rename_i pc2 L2 S2 h2 hst
      cases hc : (Nat.ble h.1 h2.1 && Nat.ble h.2.1 h2.2.1) with
      | false => rw [hc] at hz; cases hz
      | true =>
        rw [hc] at hz
        simp only [cond_true] at hz
        simp only [Bool.and_eq_true] at hc
        have h1 := Nat.le_of_ble_eq_true hc.1
        have h2' := Nat.le_of_ble_eq_true hc.2
        have hm := evB_mono hz
        have ih := evB_sound C hP hcal hsc hdf ht hRf hRl hRc hret (n := n) hz (by omega) (by omega)
        exact stp_sound C hP hcal hsc hdf ht hst hRf hRl hc0 hs0 ⟨by omega, by omega⟩ ih
    · split at hz
      · rename_i r2 hr
        obtain ⟨rfl, rfl⟩ := Prod.mk.inj (Option.some.inj hz)
        exact hret pc L S hr
      · cases hz
    · cases hz
theorem la_mem : ∀ {vs : List Value} {k i : Nat} {v : Value}, (∀ x ∈ vs, x.category = 1) → vs[i]? = some v → (k + i, v) ∈ lv_args k vs
  | [], _, _, _, _, h => by simp at h
  | x :: vs, k, 0, v, hc, h => by
    simp only [List.getElem?_cons_zero, Option.some.injEq] at h
    subst h
    unfold lv_args
    exact List.mem_cons_self
  | x :: vs, k, i + 1, v, hc, h => by
    rw [List.getElem?_cons_succ] at h
    unfold lv_args
    have h1 := hc x List.mem_cons_self
    rw [if_neg (by rw [h1]; decide)]
    have := la_mem (k := k + 1) (fun y hy => hc y (List.mem_cons_of_mem _ hy)) h
    rw [show k + (i + 1) = k + 1 + i by omega]
    exact List.mem_cons_of_mem _ this
theorem sl_len : ∀ {vs : List Value}, (∀ x ∈ vs, x.category = 1) → (lg_sl vs).length = vs.length
  | [], _ => rfl
  | x :: vs, h => by
    have ih := sl_len (vs := vs) (fun y hy => h y (List.mem_cons_of_mem _ hy))
    have h1 := h x List.mem_cons_self
    unfold lg_sl at ih ⊢
    rw [List.flatMap_cons, if_neg (by rw [h1]; decide), List.length_append, ih]
    simp
    omega
theorem gS_cat {b : Nat} {ws : va_W} : ∀ {As : List AV} {vs : List Value}, gS b ws As vs → As.any isL = false → ∀ x ∈ vs, x.category = 1
  | [], [], _, _, x, hx => by simp at hx
  | a :: As, v :: vs, h, ha, x, hx => by
    simp only [List.any_cons, Bool.or_eq_false_iff] at ha
    rcases List.mem_cons.mp hx with rfl | hx
    · exact h.1.cat ha.1
    · exact gS_cat h.2 ha.2 x hx
  | [], _ :: _, h, _, _, _ => h.elim
  | _ :: _, [], h, _, _, _ => h.elim
theorem gS_get {b : Nat} {ws : va_W} : ∀ {As : List AV} {vs : List Value} {i : Nat} {a : AV}, gS b ws As vs → As[i]? = some a → ∃ v, vs[i]? = some v ∧ gV b ws a v
  | [], [], i, a, _, hi => by simp at hi
  | x :: As, v :: vs, 0, a, h, hi => by
    simp only [List.getElem?_cons_zero, Option.some.injEq] at hi
    subst hi
    exact ⟨v, rfl, h.1⟩
  | x :: As, v :: vs, i + 1, a, h, hi => by
    rw [List.getElem?_cons_succ] at hi ⊢
    exact gS_get h.2 hi
  | [], _ :: _, _, _, h, _ => h.elim
  | _ :: _, [], _, _, h, _ => h.elim
theorem gL_entry {b : Nat} {ws : va_W} {As : List AV} {vs : List Value} {mL na : Nat} (hg : gS b ws As vs) (ha : As.any isL = false) (hna : As.length = na) (hle : na ≤ mL) : gL (b, ws) ws mL (As.map some ++ List.replicate (mL - na) none) ((lg_sl vs ++ List.replicate (mL - (lg_sl vs).length) Slot.unset).toArray) := by
  have hcat := gS_cat hg ha
  have hlen := sl_len hcat
  have hvl := hg.len
  refine ⟨by simp; omega, _, lv_entry vs (by omega), fun i a hi => ?_, sub_.rf ws⟩
  unfold ldL at hi
  rw [lg_eq] at hi
  have hAs : As[i]? = some a := by
    by_cases hlt : i < As.length
    · rw [List.getElem?_append_left (by simpa using hlt), List.getElem?_map] at hi
      cases hx : As[i]? with
      | none => rw [hx] at hi; cases hi
      | some w => rw [hx] at hi; simpa using hi
    · rw [List.getElem?_append_right (by simpa using Nat.le_of_not_lt hlt), List.getElem?_replicate] at hi
      split at hi
      · rename_i he
        split at he
        · cases he
        · cases he
      · cases hi
  obtain ⟨v, h1, h2⟩ := gS_get hg hAs
  have := la_mem (k := 0) hcat h1
  rw [Nat.zero_add] at this
  exact ⟨v, this, h2, hcat v (List.mem_of_getElem? h1)⟩
/-- a body that the intervals run is a method that keeps its contract -/
theorem ctr_of {P : Nat → Option MR} (hP : ∀ y mr, P y = some mr → okM P mr) {dfs : Nat → Option (List AV)} (hdf : okDf dfs) {cal : CAL} {d F : Nat} (hcal : ∀ y mr As h r h', P y = some mr → cal y As h = some (r, h') → Ctr l G cy mr d As h r h') {y : Nat} {mr : MR} (hmr : P y = some mr) {As : List AV} {h h' : AH} {r : Option AV} (hna : As.length = mr.2.2.2.2.1) (hle : mr.2.2.2.2.1 ≤ mr.2.2.1) (hnl : As.any isL = false)
    (hz : evB P cal none mr.2.2.2.1 dfs mr.2.2.2.2.2.2 F 0 (As.map some ++ List.replicate (mr.2.2.1 - mr.2.2.2.2.1) none) [] h = some (r, h')) : Ctr l G cy mr (d + 1) As h r h' := by
  obtain ⟨hm1, hm2⟩ := evB_mono hz
  obtain ⟨hcode, hmL, hpl, hT⟩ := hP y mr hmr
  refine ⟨hm1, hm2, fun b vs ws sz hgs hgh => ?_⟩
  refine Met.ofW (cc := mr.2.1) (maxL := mr.2.2.1) (ret := mr.2.2.2.1) hpl rfl ?_
  intro p e s m args below meth c s₁ B hml hv
  obtain ⟨rfl, hsz, hPw, hK, hD0, hE⟩ := hv
  have hts := atoms_spec (ws := Cond.code mr.1 mr.2.1 mr.2.2.1 mr.2.2.2.1 :: gtbl) B.pre
  subst hsz
  have hD := hD0.self (sz := s.heap.size)
  have hlocks := B.notSynchronized
  have C : Cx p c m s vs.toArray meth G cy (va_A ws s.heap.size) mr.1.cls mr.1.name mr.2.1 mr.2.2.1 := ⟨B.exec, B.bytes, hml, findClass_of_methodNamed B.named, fun w hw => hts w (List.mem_cons_of_mem _ hw), hK, fun q hq => Or.inr hq, (name_of_methodNamed B.named B.method).1, hE⟩
  rw [lg_entry_eq]
  have hRl : 100 * d + 100 ≤ (rmD (d + 1) (h'.1 - h.1) (h'.2.1 - h.2.1)).locals := by show _ ≤ 100 * (d + 1); omega
  have hw0 := evB_sound (e := e) (R := rmD (d + 1) (h'.1 - h.1) (h'.2.1 - h.2.1)) (below := below) (Q := MQ below (Qg G cy b ws s.heap.size r h') vs.toArray s (h'.1 - h.1) (h'.2.1 - h.2.1) (va_A ws s.heap.size)) (b := (b, ws)) (c0 := h.1 + 1) (s0 := h.2.1) C hP hcal (sc := none) (fun f hf => by cases hf) hdf hT (Nat.le_refl _) hRl ⟨by show h'.1 + 1 - (h.1 + 1) ≤ h'.1 - h.1; omega, Nat.le_refl _⟩ ?_ hz (Nat.le_refl _) (Nat.le_refl _)
  · have hw1 := hw0 ws _ [] s.heap [] ⟨hgh, gL_entry hgs hnl hna hle, trivial, hPw, hD, va_S.rf⟩
    rw [Nat.sub_self, Nat.sub_self] at hw1
    exact hw1
  · intro pc L S hr ws1 ls st H locs hs
    refine W.widen (k := h'.1 - h.1) (n := h'.2.1 - h.2.1) (by omega) (Nat.le_refl _) ?_
    have fin : ∀ (v : Option Value) (t : State), t.heap = H → gO b ws1 r v → sub_ ws ws1 → Qg G cy b ws s.heap.size r h' vs.toArray s (.returned v) t := fun v t hth hO hsub => ⟨⟨v, ws1, rfl, by rw [hth]; exact hs.2.2.2.1, hs.2.2.2.2.1, hs.1, hsub, hO⟩, hs.2.2.2.2.2.F hth⟩
    have hsub : sub_ ws ws1 := hs.2.1.from
    rcases rets_ok hr with ⟨a, q, hp, rfl, rfl, hrt⟩ | ⟨q, hp, rfl, rfl, hrt⟩
    · obtain ⟨hd, _⟩ := hT pc _ _ _ _ _ hp
      obtain ⟨v, st1, rfl, gv, g2⟩ := hs.2.2.1.cons
      obtain rfl := g2.nil
      obtain ⟨x, rfl, hx⟩ := gv.int
      rcases hrt with hrt | ⟨hrt, h0, h1⟩
      · exact W.zret (ty := .int) C.1 C.2.1 (by rw [← hrt]; exact B.returns) rfl (fun t hth hW => fin _ t hth hx hsub) hs.2.2.2.2.2.2.2 hd
      · refine W.zret (ty := .boolean) C.1 C.2.1 (by rw [← hrt]; exact B.returns) ?_ (fun t hth hW => fin _ t hth hx hsub) hs.2.2.2.2.2.2.2 hd
        rcases bool_ok (x := x) (by omega) (by omega) with rfl | rfl <;> rfl
    · obtain ⟨hd, _⟩ := hT pc _ _ _ _ _ hp
      obtain rfl := hs.2.2.1.nil
      exact W.vret C.1 C.2.1 (by rw [← hrt]; exact B.returns) (fun t hth hW => fin _ t hth trivial hsub) hs.2.2.2.2.2.2.2 hd
/-- a call of some depth -/
theorem evD_sound {P : Nat → Option MR} (hP : ∀ y mr, P y = some mr → okM P mr) {dfs : Nat → Option (List AV)} (hdf : okDf dfs) {tok F : Nat} (htok : ∀ (d : Nat) (As : List AV) (h : AH) (r : Option AV) (h' : AH) (mr : MR), 8 ≤ d → P tok = some mr → tokS As h = some (r, h') → Ctr l G cy mr (d + 1) As h r h') :
    ∀ (d y : Nat) (mr : MR) (As : List AV) (h : AH) (r : Option AV) (h' : AH), P y = some mr → evD P dfs tok F d y As h = some (r, h') → Ctr l G cy mr d As h r h'
  | 0, _, _, _, _, _, _, _, hz => by cases hz
  | d + 1, y, mr, As, h, r, h', hmr, hz => by
    unfold evD at hz
    cases hy : Nat.beq y tok with
    | true =>
      obtain rfl := Nat.eq_of_beq_eq_true hy
      rw [hy] at hz
      cases hd : Nat.ble 8 d with
      | false => simp [hd] at hz
      | true =>
        simp only [hd, cond_true] at hz
        exact htok d As h r h' mr (Nat.le_of_ble_eq_true hd) hmr hz
    | false =>
      rw [hy, hmr] at hz
      obtain ⟨yn, bytes, mL, rt, na, ci, t⟩ := mr
      simp only [cond_false] at hz
      cases hc : (Nat.beq As.length na && (Nat.ble na mL && !(As.any isL))) with
      | false => rw [hc] at hz; cases hz
      | true =>
        rw [hc] at hz
        simp only [cond_true] at hz
        simp only [Bool.and_eq_true, Bool.not_eq_true'] at hc
        exact ctr_of hP hdf (evD_sound hP hdf htok d) hmr (Nat.eq_of_beq_eq_true hc.1) (Nat.le_of_ble_eq_true hc.2.1) hc.2.2 hz
end EV
