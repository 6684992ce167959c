/-! No tape at the start. -/
noncomputable def ok0f (h : AH) (c i : Nat) : Bool := match hget h c with
  | some (.inl (_, as)) => (match as[i]? with
    | some (.inl p) => decide (p = (0, 0))
    | _ => false)
  | _ => false
theorem rdI_0f {cy : Nat → ClassId} {b : Nat} {ws : va_W} {h : AH} (hg : gH cy b ws h) {c i : Nat} (hk : ok0f h c i = true) : rdI ws c i = 0 := by
  unfold ok0f at hk
  split at hk
  · rename_i ci as ha
    split at hk
    · rename_i p hp
      have e3 : p = (0, 0) := of_decide_eq_true hk
      subst e3
      obtain ⟨q, e, h1, h2⟩ := hg.2 c _ ha
      obtain ⟨vs, rfl, h3, h4⟩ := h2.obj
      obtain ⟨v, h6, h7⟩ := h4 i _ hp
      obtain ⟨x, rfl, hx⟩ := h7.int
      unfold rdI
      rw [h1]
      simp only [h6]
      have h8 : (0 : Int) ≤ x.toInt ∧ x.toInt ≤ 0 := hx
      omega
    · cases hk
  · cases hk
noncomputable def chkI : Bool := match headR with
  | some (_, (_, h)) => ok0f h 0 2 && ok0f h 173 2
  | none => false
theorem chk_I : chkI = true := by decide +kernel
theorem TPQ_start {cy : Nat → ClassId} {b : Nat} {ws : va_W} (hg : gH cy b ws hS) : TPQ (rdI ws, rdL ws) := by
  have h := chk_I
  unfold chkI at h
  rw [head_eq.1] at h
  have h : (ok0f hS 0 2 && ok0f hS 173 2) = true := h
  simp only [Bool.and_eq_true] at h
  obtain ⟨h1, h2⟩ := h
  show rdI ws 0 2 = rdI ws 173 2
  rw [rdI_0f hg h1, rdI_0f hg h2]
