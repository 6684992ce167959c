/-! Plans in the reference. -/
def OFX (pb : Nat → Int) (M : JM) (f s v : Int) : Prop := ∃ k : Int, 0 ≤ k ∧ k ≤ 20 ∧ 0 ≤ pb k.toNat ∧ pb k.toNat ≤ s ∧ v = k + M.1 186 (100 * f + 100 + s - pb k.toNat).toNat
theorem OFX.cg {pb pb' : Nat → Int} {M M' : JM} {f s v : Int} (h : OFX pb M f s v) (h0 : 0 ≤ f) (hp : ∀ k, pb' k = pb k) (he : ∀ j : Nat, 100 * f + 100 ≤ (j : Int) → M'.1 186 j = M.1 186 j) : OFX pb' M' f s v := by
  obtain ⟨k, h1, h2, h3, h4, h5⟩ := h
  refine ⟨k, h1, h2, by rw [hp]; exact h3, by rw [hp]; exact h4, ?_⟩
  rw [hp, he _ (by omega)]
  exact h5
theorem pbv_cg {M M' : JM} (he : ∀ j : Nat, M'.1 175 j = M.1 175 j) (m f : Int) (k : Nat) : pbv M' m f k = pbv M m f k := by
  induction k with
  | zero => rfl
  | succ k ih =>
    show pbv M' m f k + cbv M' m f (M'.1 175 (6 * m + f + 156).toNat + k) = pbv M m f k + cbv M m f (M.1 175 (6 * m + f + 156).toNat + k)
    rw [ih]
    unfold cbv
    rw [he, he, he]
def PTB (pb : Int → Nat → Int) (M : JM) (last P f0 : Int) : Prop := ∀ f s : Int, f0 ≤ f → f < last → 0 ≤ s → s ≤ P → M.1 186 (100 * f + s).toNat = 100000 ∨ OFX (pb f) M f s (M.1 186 (100 * f + s).toNat)
def PRW (pb : Nat → Int) (M : JM) (f s0 : Int) : Prop := ∀ s : Int, 0 ≤ s → s < s0 → M.1 186 (100 * f + s).toNat = 100000 ∨ OFX pb M f s (M.1 186 (100 * f + s).toNat)
theorem TB_keep {pb : Int → Nat → Int} {M M' : JM} {last P f : Int} (h : PTB pb M last P (f + 1)) (h0 : 0 ≤ f) (he : ∀ j : Nat, 100 * f + 100 ≤ (j : Int) → M'.1 186 j = M.1 186 j) : PTB pb M' last P (f + 1) := by
  intro f' s a b c d
  rw [he _ (by omega)]
  rcases h f' s a b c d with e | e
  · exact Or.inl e
  · exact Or.inr (e.cg (by omega) (fun _ => rfl) (fun j hj => he j (by omega)))
theorem PRW_s {pb : Nat → Int} {M M' : JM} {f s0 v : Int} (h : PRW pb M f s0) (h0 : 0 ≤ f ∧ 0 ≤ s0 ∧ s0 ≤ 99) (hv : v = 100000 ∨ OFX pb M f s0 v) (hk : M'.1 186 (100 * f + s0).toNat = v) (he : ∀ j : Nat, ¬ (j = (100 * f + s0).toNat) → M'.1 186 j = M.1 186 j) : PRW pb M' f (s0 + 1) := by
  intro s a b
  have hh : ∀ j : Nat, 100 * f + 100 ≤ (j : Int) → M'.1 186 j = M.1 186 j := fun j hj => he j (by omega)
  by_cases c : s < s0
  · rw [he _ (by omega)]
    rcases h s a c with e | e
    · exact Or.inl e
    · exact Or.inr (e.cg h0.1 (fun _ => rfl) hh)
  · have e : s = s0 := by omega
    subst e
    rw [hk]
    rcases hv with e | e
    · exact Or.inl e
    · exact Or.inr (e.cg h0.1 (fun _ => rfl) hh)
theorem TB_row {pb : Int → Nat → Int} {M : JM} {last P f s0 : Int} (h : PTB pb M last P (f + 1)) (hr : PRW (pb f) M f s0) (hs : P < s0) : PTB pb M last P f := by
  intro f' s a b c d
  by_cases e : f' = f
  · subst e
    exact hr s c (by omega)
  · exact h f' s (by omega) b c d
theorem TB_le {pb : Int → Nat → Int} {M : JM} {last P f0 f1 : Int} (h : PTB pb M last P f0) (hf : f0 ≤ f1) : PTB pb M last P f1 := fun f s a b c d => h f s (by omega) b c d
theorem TB_cg {pb : Int → Nat → Int} {M M' : JM} {last P f0 : Int} (h : PTB pb M last P f0) (h0 : 0 ≤ f0) (he : ∀ j : Nat, M'.1 186 j = M.1 186 j) : PTB pb M' last P f0 := by
  intro f s a b c d
  rw [he]
  rcases h f s a b c d with e | e
  · exact Or.inl e
  · exact Or.inr (e.cg (by omega) (fun _ => rfl) (fun j _ => he j))
