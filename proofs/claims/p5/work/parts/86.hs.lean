/-! The bounds at the start. -/
theorem ite0 {c : Prop} [Decidable c] {a b : Int × Int} (h1 : a.1 ≤ 0 ∧ 0 ≤ a.2) (h2 : b.1 ≤ 0 ∧ 0 ≤ b.2) : (if c then a else b).1 ≤ 0 ∧ 0 ≤ (if c then a else b).2 := by
  by_cases h : c
  · rw [if_pos h]; exact h1
  · rw [if_neg h]; exact h2
theorem bT_0 (t i : Nat) : (bT 0 t i).1 ≤ 0 ∧ 0 ≤ (bT 0 t i).2 := by
  unfold bT
  split <;> (repeat' (refine ite0 ?_ ?_)) <;> (refine ⟨?_, ?_⟩ <;> (try dsimp only) <;> omega)
def okV (c i : Nat) (a : AV) : Bool := match a with
  | .inl p => decide ((bnd 0 c i).1 ≤ p.1) && decide (p.2 ≤ (bnd 0 c i).2)
  | .inr (.inl o) => !lbc c || decide (o = some 0)
  | _ => true
noncomputable def okBd (h : AH) (c : Nat) : Bool := match hget h c with
  | some (.inl (_, as)) => (List.range as.length).all (fun k => match as[k]? with
    | some a => okV c k a
    | none => false)
  | some (.inr (_, (n, ch))) => (List.range n).all (fun i => match pg ch i with
    | some a => okV c i a
    | none => false)
  | none => false
theorem okV_i {b c i : Nat} {ws : va_W} {a : AV} {x : Int32} (h : okV c i a = true) (hv : gV b ws a (.int x)) : (bnd 0 c i).1 ≤ x.toInt ∧ x.toInt ≤ (bnd 0 c i).2 := by
  rcases a with p | o | d | o <;> simp only [gV] at hv
  simp only [okV, Bool.and_eq_true, decide_eq_true_eq] at h
  omega
theorem okV_l {b c i : Nat} {ws : va_W} {a : AV} {x : Int64} (h : okV c i a = true) (hc : lbc c = true) (hv : gV b ws a (.long x)) : LB x.toInt := by
  rcases a with p | o | d | o <;> simp only [gV] at hv
  simp only [okV, hc, Bool.not_true, Bool.false_or, decide_eq_true_eq] at h
  rw [hv 0 h]
  exact lb0
theorem HI_of {cy : Nat → ClassId} {b : Nat} {ws : va_W} {h : AH} (hg : gH cy b ws h) (hb : ∀ c, c < h.1 → okBd h c = true) (hk3 : ∀ i : Nat, i < 24 → rdL ws 3 i = kwL i) : HI 0 (rdI ws, rdL ws) := by
  have h0 : ∀ c i : Nat, (bnd 0 c i).1 ≤ 0 ∧ 0 ≤ (bnd 0 c i).2 := fun c i => bT_0 _ _
  refine ⟨fun c i => ?_, fun c i hc => ?_, hk3⟩
  · show (bnd 0 c i).1 ≤ rdI ws c i ∧ rdI ws c i ≤ (bnd 0 c i).2
    by_cases hl : c < h.1
    · have hk := hb c hl
      unfold okBd at hk
      split at hk
      · rename_i ci as ha
        obtain ⟨q, e, h1, h2⟩ := hg.2 c _ ha
        obtain ⟨vs, rfl, h3, h4⟩ := h2.obj
        unfold rdI
        rw [h1]
        simp only
        by_cases hi : i < as.length
        · have h5 := List.all_eq_true.mp hk i (List.mem_range.mpr hi)
          rw [List.getElem?_eq_getElem hi] at h5
          obtain ⟨v, h6, h7⟩ := h4 i _ (List.getElem?_eq_getElem hi)
          rw [h6]
          cases v <;> first | exact okV_i h5 h7 | exact h0 c i
        · rw [List.getElem?_eq_none (by omega)]
          exact h0 c i
      · rename_i kd n ch ha
        obtain ⟨q, e, h1, h2⟩ := hg.2 c _ ha
        obtain ⟨p, rfl, -, h3⟩ := h2.arr
        unfold rdI
        rw [h1]
        rcases h3 with ⟨_, f, h4, h5⟩ | ⟨_, f, h4, h5⟩ | ⟨_, f, h4, h5⟩
        · have h4 : p = .inl f := h4
          subst h4
          simp only
          by_cases hi : i < n
          · rw [if_pos hi]
            have h6 := List.all_eq_true.mp hk i (List.mem_range.mpr hi)
            cases hp : pg ch i with
            | none => rw [hp] at h6; cases h6
            | some a =>
              rw [hp] at h6
              exact okV_i h6 (h5 i a hi hp)
          · rw [if_neg hi]
            exact h0 c i
        · have h4 : p = .inr (.inl f) := h4
          subst h4
          exact h0 c i
        · have h4 : p = .inr (.inr (.inr (.inr f))) := h4
          subst h4
          exact h0 c i
      · cases hk
    · unfold rdI
      rw [List.getElem?_eq_none (by rw [hg.1]; omega)]
      exact h0 c i
  · show LB (rdL ws c i).toInt
    by_cases hl : c < h.1
    · have hk := hb c hl
      unfold okBd at hk
      split at hk
      · rename_i ci as ha
        obtain ⟨q, e, h1, h2⟩ := hg.2 c _ ha
        obtain ⟨vs, rfl, h3, h4⟩ := h2.obj
        unfold rdL
        rw [h1]
        simp only
        by_cases hi : i < as.length
        · have h5 := List.all_eq_true.mp hk i (List.mem_range.mpr hi)
          rw [List.getElem?_eq_getElem hi] at h5
          obtain ⟨v, h6, h7⟩ := h4 i _ (List.getElem?_eq_getElem hi)
          rw [h6]
          cases v <;> first | exact okV_l h5 hc h7 | exact lb0
        · rw [List.getElem?_eq_none (by omega)]
          exact lb0
      · rename_i kd n ch ha
        obtain ⟨q, e, h1, h2⟩ := hg.2 c _ ha
        obtain ⟨p, rfl, -, h3⟩ := h2.arr
        unfold rdL
        rw [h1]
        rcases h3 with ⟨_, f, h4, h5⟩ | ⟨_, f, h4, h5⟩ | ⟨_, f, h4, h5⟩
        · have h4 : p = .inl f := h4
          subst h4
          exact lb0
        · have h4 : p = .inr (.inl f) := h4
          subst h4
          simp only
          by_cases hi : i < n
          · rw [if_pos hi]
            have h6 := List.all_eq_true.mp hk i (List.mem_range.mpr hi)
            cases hp : pg ch i with
            | none => rw [hp] at h6; cases h6
            | some a =>
              rw [hp] at h6
              exact okV_l h6 hc (h5 i a hi hp)
          · rw [if_neg hi]
            exact lb0
        · have h4 : p = .inr (.inr (.inr (.inr f))) := h4
          subst h4
          exact lb0
      · cases hk
    · unfold rdL
      rw [List.getElem?_eq_none (by rw [hg.1]; omega)]
      exact lb0
