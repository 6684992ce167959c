/-! No image at the start. -/
noncomputable def ok0b (h : AH) (c i : Nat) : Bool := match hget h c with
  | some (.inr (kd, (n, ch))) => Nat.beq kd 3 && (Nat.blt i n && (match pg ch i with
    | some (.inl p) => decide (p = (0, 0))
    | _ => false))
  | _ => false
theorem rdI_0b {cy : Nat → ClassId} {b : Nat} {ws : va_W} {h : AH} (hg : gH cy b ws h) {c i : Nat} (hk : ok0b h c i = true) : rdI ws c i = 0 := by
  unfold ok0b at hk
  split at hk
  · rename_i kd n ch ha
    simp only [Bool.and_eq_true] at hk
    obtain ⟨e1, e2, e3⟩ := hk
    have e1 := Nat.eq_of_beq_eq_true e1
    subst e1
    have hi := Nat.blt_eq.mp e2
    split at e3
    · rename_i p hp
      have e3 : p = (0, 0) := of_decide_eq_true e3
      subst e3
      obtain ⟨q, e, h1, h2⟩ := hg.2 c _ ha
      obtain ⟨r, rfl, -, h3⟩ := h2.arr
      rcases h3 with ⟨_, f, h4, h5⟩ | ⟨h4, _⟩ | ⟨h4, _⟩
      · have h4 : r = .inl f := h4
        subst h4
        unfold rdI
        rw [h1]
        simp only [if_pos hi]
        have h6 : (0 : Int) ≤ (f i).toInt ∧ (f i).toInt ≤ 0 := h5 i _ hi hp
        omega
      · omega
      · omega
    · cases e3
  · cases hk
noncomputable def chkI : Bool := match headR with
  | some (_, (_, h)) => ok0b h 46 0 && (ok0b h 46 1 && (ok0b h 183 0 && ok0b h 183 1))
  | none => false
theorem chk_I : chkI = true := by decide +kernel
theorem IMG_start {cy : Nat → ClassId} {b : Nat} {ws : va_W} (hg : gH cy b ws hS) : IMG (rdI ws, rdL ws) := by
  have h := chk_I
  unfold chkI at h
  rw [head_eq.1] at h
  have h : (ok0b hS 46 0 && (ok0b hS 46 1 && (ok0b hS 183 0 && ok0b hS 183 1))) = true := h
  simp only [Bool.and_eq_true] at h
  obtain ⟨h1, h2, h3, h4⟩ := h
  intro j hj
  show rdI ws 46 j = rdI ws 183 j
  rcases j with _ | _ | j
  · rw [rdI_0b hg h1, rdI_0b hg h3]
  · rw [rdI_0b hg h2, rdI_0b hg h4]
  · omega
