/-! No sentence at the start. -/
theorem rdI_at {cy : Nat → ClassId} {b : Nat} {ws : va_W} {h : AH} (hg : gH cy b ws h) {c n i : Nat} {ch : List (List AV)} {p : AI} (ha : hget h c = some (.inr (1, (n, ch)))) (hi : i < n) (hp : pg ch i = some (.inl p)) : p.1 ≤ rdI ws c i ∧ rdI ws c i ≤ p.2 := by
  obtain ⟨q, e, h1, h2⟩ := hg.2 c _ ha
  obtain ⟨r, rfl, -, h3⟩ := h2.arr
  rcases h3 with ⟨_, f, h4, h5⟩ | ⟨h4, _⟩ | ⟨h4, _⟩
  · have h4 : r = .inl f := h4
    subst h4
    unfold rdI
    rw [h1]
    simp only [if_pos hi]
    exact h5 i _ hi hp
  · omega
  · omega
noncomputable def ok0 (h : AH) (c i : Nat) : Bool := match hget h c with
  | some (.inr (kd, (n, ch))) => Nat.beq kd 1 && (Nat.blt i n && (match pg ch i with
    | some (.inl p) => decide (p = (0, 0))
    | _ => false))
  | _ => false
theorem rdI_0 {cy : Nat → ClassId} {b : Nat} {ws : va_W} {h : AH} (hg : gH cy b ws h) {c i : Nat} (hk : ok0 h c i = true) : rdI ws c i = 0 := by
  unfold ok0 at hk
  split at hk
  · rename_i kd n ch ha
    simp only [Bool.and_eq_true] at hk
    obtain ⟨e1, e2, e3⟩ := hk
    have e1 := Nat.eq_of_beq_eq_true e1
    subst e1
    split at e3
    · rename_i p hp
      have e3 : p = (0, 0) := of_decide_eq_true e3
      subst e3
      have := rdI_at hg ha (Nat.blt_eq.mp e2) hp
      simp only at this
      omega
    · cases e3
  · cases hk
theorem SOK_start {cy : Nat → ClassId} {b : Nat} {ws : va_W} {h : AH} (hg : gH cy b ws h) (h1 : ok0 h 175 234 = true) (h2 : ok0 h 177 234 = true) (h3 : ok0 h 177 710 = true) : SOK (rdI ws, rdL ws) ∧ KOK (rdI ws, rdL ws) 0 ∧ KOK (rdI ws, rdL ws) 1 := ⟨Or.inl (rdI_0 hg h1), Or.inl (rdI_0 hg h2), Or.inl (rdI_0 hg h3)⟩
