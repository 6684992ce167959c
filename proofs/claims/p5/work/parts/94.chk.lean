/-! The heap behind the law's head, by the kernel. -/
noncomputable def chkS (h : AH) : Bool := Nat.beq h.1 199 && ((List.range 199).all (fun c => okBd h c) && ((List.range 199).all (fun c => match lg shp c, hget h c with
  | some sc, some ac => okCs sc ac
  | _, _ => false) && (ok0 h 175 234 && (ok0 h 177 234 && ok0 h 177 710))))
noncomputable def chkH : Bool := match headR with
  | some (_, (_, h)) => chkS h
  | none => false
theorem chk_H : chkH = true := by decide +kernel
theorem shp_len : shp.length = 199 := by decide +kernel
theorem chk_get : (∀ c, c < hS.1 → okBd hS c = true) ∧ (∀ (c : Nat) (sc : JS), shp[c]? = some sc → ∃ ac, hget hS c = some ac ∧ okCs sc ac = true) ∧ ok0 hS 175 234 = true ∧ ok0 hS 177 234 = true ∧ ok0 hS 177 710 = true := by
  have h := chk_H
  unfold chkH at h
  rw [head_eq.1] at h
  have h : chkS hS = true := h
  unfold chkS at h
  simp only [Bool.and_eq_true] at h
  obtain ⟨h1, h2, h3, h4, h5, h6⟩ := h
  have h1 := Nat.eq_of_beq_eq_true h1
  refine ⟨fun c hc => List.all_eq_true.mp h2 c (List.mem_range.mpr (by rw [h1] at hc; exact hc)), fun c sc hc => ?_, h4, h5, h6⟩
  have hl : c < 199 := by
    have := (List.getElem?_eq_some_iff.mp hc).1
    rw [shp_len] at this
    exact this
  have h7 := List.all_eq_true.mp h3 c (List.mem_range.mpr hl)
  rw [lg_eq, hc] at h7
  cases ha : hget hS c with
  | none => rw [ha] at h7; cases h7
  | some ac =>
    rw [ha] at h7
    exact ⟨ac, rfl, h7⟩
