/-! Sentences in the reference: rows of nodes, each over earlier ones. -/
def TW (t x y i : Int) : Prop := (t = 1 → 0 ≤ x ∧ x < i) ∧ (t = 2 ∨ t = 3 → 0 ≤ x ∧ x < i ∧ 0 ≤ y ∧ y < i) ∧ (t = 67 ∨ t = 69 → 0 ≤ x ∧ x ≤ 5)
def TRN (M : JM) (n : Int) : Prop := ∀ i : Int, 0 ≤ i → i < n → TW (M.1 197 (4 * i).toNat) (M.1 197 (4 * i + 1).toNat) (M.1 197 (4 * i + 2).toNat) i
def TRS (M : JM) (n : Int) : Prop := ∀ i : Int, 0 ≤ i → i < n → TW (M.1 175 (4 * i + 236).toNat) (M.1 175 (4 * i + 237).toNat) (M.1 175 (4 * i + 238).toNat) i
def TRK (M : JM) (k : Nat) (n : Int) : Prop := ∀ i : Int, 0 ≤ i → i < n → TW (M.1 177 (476 * k + (4 * i + 236).toNat)) (M.1 177 (476 * k + (4 * i + 237).toNat)) (M.1 177 (476 * k + (4 * i + 238).toNat)) i
theorem TRN.cg {M M' : JM} {n n' : Int} (h : TRN M n) (he : ∀ j, M'.1 197 j = M.1 197 j) (hn : n' = n) : TRN M' n' := by
  subst hn
  intro i h1 h2
  rw [he, he, he]
  exact h i h1 h2
theorem TRN_0 (M : JM) {n : Int} (h : n ≤ 0) : TRN M n := fun i h1 h2 => by omega
theorem TRN_s {M M' : JM} {z t x y n : Int} (h : TRN M z) (hw : TW t x y z) (h0 : M'.1 197 (4 * z).toNat = t) (h1 : M'.1 197 (4 * z + 1).toNat = x) (h2 : M'.1 197 (4 * z + 2).toNat = y) (hr : ∀ j : Nat, (j : Int) < 4 * z → M'.1 197 j = M.1 197 j) (hn : n = z + 1) : TRN M' n := by
  subst hn
  intro i h3 h4
  by_cases c : i < z
  · rw [hr _ (by omega), hr _ (by omega), hr _ (by omega)]
    exact h i h3 c
  · have e : i = z := by omega
    subst e
    rw [h0, h1, h2]
    exact hw
/-- the sentence that is said: none, or rows of nodes with a top -/
def SOK (M : JM) : Prop := M.1 175 234 = 0 ∨ ∃ n : Int, n ≤ 60 ∧ 0 ≤ M.1 175 235 ∧ M.1 175 235 < n ∧ TRS M n
def KOK (M : JM) (k : Nat) : Prop := M.1 177 (476 * k + 234) = 0 ∨ ∃ n : Int, n ≤ 60 ∧ 0 ≤ M.1 177 (476 * k + 235) ∧ M.1 177 (476 * k + 235) < n ∧ TRK M k n
theorem SOK.cg {M M' : JM} (h : SOK M) (he : ∀ j : Nat, 234 ≤ j → j ≤ 475 → M'.1 175 j = M.1 175 j) : SOK M' := by
  rcases h with h | ⟨n, h1, h2, h3, h4⟩
  · exact Or.inl (by rw [he 234 (by decide) (by decide)]; exact h)
  · refine Or.inr ⟨n, h1, by rw [he 235 (by decide) (by decide)]; exact h2, by rw [he 235 (by decide) (by decide)]; exact h3, fun i a b => ?_⟩
    rw [he _ (by omega) (by omega), he _ (by omega) (by omega), he _ (by omega) (by omega)]
    exact h4 i a b
theorem KOK.cg {M M' : JM} {k : Nat} (h : KOK M k) (he : ∀ j : Nat, 476 * k + 234 ≤ j → j ≤ 476 * k + 475 → M'.1 177 j = M.1 177 j) : KOK M' k := by
  rcases h with h | ⟨n, h1, h2, h3, h4⟩
  · exact Or.inl (by rw [he _ (by omega) (by omega)]; exact h)
  · refine Or.inr ⟨n, h1, by rw [he _ (by omega) (by omega)]; exact h2, by rw [he _ (by omega) (by omega)]; exact h3, fun i a b => ?_⟩
    rw [he _ (by omega) (by omega), he _ (by omega) (by omega), he _ (by omega) (by omega)]
    exact h4 i a b
/-- an image is taken, and comes back -/
theorem KOK.of {M M' : JM} {k : Nat} (h : SOK M) (he : ∀ j : Nat, 234 ≤ j → j ≤ 475 → M'.1 177 (476 * k + j) = M.1 175 j) : KOK M' k := by
  rcases h with h | ⟨n, h1, h2, h3, h4⟩
  · exact Or.inl (by rw [he 234 (by decide) (by decide)]; exact h)
  · refine Or.inr ⟨n, h1, by rw [he 235 (by decide) (by decide)]; exact h2, by rw [he 235 (by decide) (by decide)]; exact h3, fun i a b => ?_⟩
    rw [he _ (by omega) (by omega), he _ (by omega) (by omega), he _ (by omega) (by omega)]
    exact h4 i a b
theorem SOK.of {M M' : JM} {k : Nat} (h : KOK M k) (he : ∀ j : Nat, 234 ≤ j → j ≤ 475 → M'.1 175 j = M.1 177 (476 * k + j)) : SOK M' := by
  rcases h with h | ⟨n, h1, h2, h3, h4⟩
  · exact Or.inl (by rw [he 234 (by decide) (by decide)]; exact h)
  · refine Or.inr ⟨n, h1, by rw [he 235 (by decide) (by decide)]; exact h2, by rw [he 235 (by decide) (by decide)]; exact h3, fun i a b => ?_⟩
    rw [he _ (by omega) (by omega), he _ (by omega) (by omega), he _ (by omega) (by omega)]
    exact h4 i a b
/-- a sentence that was read is said -/
theorem SOK.rd {M M' : JM} {n : Int} (h : TRN M n) (hn : n ≤ 60) (ht : 0 ≤ M'.1 175 235 ∧ M'.1 175 235 < n) (he : ∀ j : Nat, j < 240 → M'.1 175 (j + 236) = M.1 197 j) : SOK M' := by
  refine Or.inr ⟨n, hn, ht.1, ht.2, fun i a b => ?_⟩
  have h1 := h i a b
  rw [show (4 * i + 236).toNat = (4 * i).toNat + 236 by omega, show (4 * i + 237).toNat = (4 * i + 1).toNat + 236 by omega, show (4 * i + 238).toNat = (4 * i + 2).toNat + 236 by omega, he _ (by omega), he _ (by omega), he _ (by omega)]
  exact h1
theorem TRS.cg {M M' : JM} {n n' : Int} (h : TRS M n) (he : ∀ j, M'.1 175 j = M.1 175 j) (hn : n' ≤ n) : TRS M' n' := by
  intro i h1 h2
  rw [he, he, he]
  exact h i h1 (by omega)
