/-! Words, step by step. -/
def wbi (t W : Int) : Prop := -(wbd t) ≤ W ∧ W ≤ wbd t
theorem wbi_0 {t W : Int} (ht : t = 0) (hW : W = 0) : wbi t W := by
  subst ht; subst hW
  exact ⟨by decide, by decide⟩
theorem wbi_u {t t' W W' : Int} (h : wbi t W) (ht : t' = t + 1) (hx : 0 ≤ t ∧ t < 7) (hW : 27 * W - 159 ≤ W' ∧ W' ≤ 27 * W + 159) : wbi t' W' := by
  unfold wbi at h ⊢
  rw [ht, wbd_s hx]
  omega
theorem wbi_s {t t' W W' : Int} (h : wbi t W) (ht : t' = t + 1) (hx : 7 ≤ t) (hW : W' = W) : wbi t' W' := by
  unfold wbi at h ⊢
  rw [ht, hW, wbd_m (show 7 ≤ t + 1 by omega)]
  rw [wbd_m hx] at h
  exact h
theorem wbi_e {t t' W W' : Int} (h : wbi t W) (ht : t' = t) (hW : W' = W) : wbi t' W' := by
  rw [ht, hW]
  exact h
theorem wbi_b {t W : Int} (h : wbi t W) (hx : 0 ≤ t ∧ t < 7) : -2369225292 ≤ W ∧ W ≤ 2369225292 := by
  unfold wbi at h
  have := wbd_7 hx
  omega
