def HAD (M : JM) (k m : Int) : Prop := ∃ i : Nat, 1 ≤ i ∧ (i : Int) < k ∧ M.1 184 i = m
theorem HAD.mk {M : JM} {k m : Int} (i : Nat) (h1 : 1 ≤ i) (h2 : (i : Int) < k) (h3 : M.1 184 i = m) : HAD M k m := ⟨i, h1, h2, h3⟩
theorem men6 {X : Int} {M : JM} (h : HI X M) : M.1 175 0 ≤ 6 := by
  obtain ⟨z, k, l, u⟩ := h.ld (c := 175) (i := 0) (A := 0) (B := 6) (bs_11_0 _ _ (by omega) (by omega))
  omega
