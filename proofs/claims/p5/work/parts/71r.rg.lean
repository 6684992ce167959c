/-! Rings of debts in the reference. -/
def QX (M : JM) (g : Nat → Int) (i : Nat) : Prop := (0 ≤ g i ∧ g i < M.1 175 0) ∧ (1 ≤ i → g 0 < g i) ∧ (∀ j : Nat, 1 ≤ j → j < i → g j ≠ g i) ∧ ∀ p : Nat, p + 1 = i → M.1 175 (6 * g p + g i + 120).toNat ≠ 0
def PX (M : JM) (k : Int) (g : Nat → Int) : Prop := ∀ i : Nat, (i : Int) < k → QX M g i
def RG (M : JM) (n : Int) (g : Nat → Int) : Prop := PX M n g ∧ 0 < M.1 175 (6 * g (n - 1).toNat + g 0 + 120).toNat
def NOR (M : JM) (k n : Int) (G : Nat → Int) : Prop := ∀ g : Nat → Int, (∀ i : Nat, (i : Int) < k → g i = G i) → ¬ RG M n g
def AFT (M : JM) (k n : Int) (G : Nat → Int) (m : Int) : Prop := ∀ g : Nat → Int, (∀ i : Nat, (i : Int) < k → g i = G i) → RG M n g → m ≤ g k.toNat
def gof (M : JM) : Nat → Int := fun i => M.1 184 i
theorem QX.cg {M M' : JM} {g g' : Nat → Int} {i : Nat} (h : QX M g i) (he : ∀ x, M'.1 175 x = M.1 175 x) (hg : ∀ j : Nat, j ≤ i → g' j = g j) : QX M' g' i := by
  obtain ⟨h1, h2, h3, h4⟩ := h
  refine ⟨?_, fun hi => ?_, fun j a b => ?_, fun p hp => ?_⟩
  · rw [he, hg i (Nat.le_refl _)]; exact h1
  · rw [hg i (Nat.le_refl _), hg 0 (Nat.zero_le _)]; exact h2 hi
  · rw [hg i (Nat.le_refl _), hg j (by omega)]; exact h3 j a b
  · rw [he, hg i (Nat.le_refl _), hg p (by omega)]; exact h4 p hp
theorem RG.cg {M M' : JM} {n : Int} {g : Nat → Int} (h : RG M n g) (he : ∀ x, M'.1 175 x = M.1 175 x) : RG M' n g := ⟨fun i hi => (h.1 i hi).cg he (fun _ _ => rfl), by rw [he]; exact h.2⟩
theorem rg_eq {M : JM} {k n za zb z : Int} {G : Nat → Int} (hp : PX M k G) (hk : k = n) (ea : G (n - 1).toNat = za) (eb : G 0 = zb) (e : z = M.1 175 (6 * za + zb + 120).toNat) (h : 0 < z) : ∃ g, RG M n g := ⟨G, by rw [← hk]; exact hp, by rw [ea, eb, ← e]; exact h⟩
theorem nr_eq {M : JM} {k n za zb z : Int} {G : Nat → Int} (h1 : 1 ≤ k) (hk : k = n) (ea : G (n - 1).toNat = za) (eb : G 0 = zb) (e : z = M.1 175 (6 * za + zb + 120).toNat) (h : z ≤ 0) : NOR M k n G := by
  intro g hg hr
  have h2 := hr.2
  rw [hg (n - 1).toNat (by omega), hg 0 (by omega), ea, eb, ← e] at h2
  omega
theorem af_0 {M : JM} {k n z : Int} {G : Nat → Int} (h1 : 1 ≤ k ∧ k < n) (e : G 0 = z) : AFT M k n G (z + 1) := by
  intro g hg hr
  have h2 := (hr.1 k.toNat (by omega)).2.1 (by omega)
  rw [hg 0 (by omega), e] at h2
  omega
theorem af_end {M : JM} {k n m : Int} {G : Nat → Int} (h : AFT M k n G m) (h1 : 0 ≤ k ∧ k < n) (hm : M.1 175 0 ≤ m) : NOR M k n G := by
  intro g hg hr
  have h2 := h g hg hr
  have h3 := (hr.1 k.toNat (by omega)).1
  omega
theorem af_ne {M : JM} {k n m : Int} {G : Nat → Int} (h : AFT M k n G m) (hn : ∀ g : Nat → Int, (∀ i : Nat, (i : Int) < k → g i = G i) → RG M n g → g k.toNat ≠ m) : AFT M k n G (m + 1) := by
  intro g hg hr
  have h1 := h g hg hr
  have h2 := hn g hg hr
  omega
theorem af_s0 {M : JM} {k n m zp z : Int} {G : Nat → Int} (h : AFT M k n G m) (h1 : 1 ≤ k ∧ k < n) (ep : G (k - 1).toNat = zp) (e : z = M.1 175 (6 * zp + m + 120).toNat) (hz : z = 0) : AFT M k n G (m + 1) := by
  refine af_ne h (fun g hg hr hm => ?_)
  have h2 := (hr.1 k.toNat (by omega)).2.2.2 (k - 1).toNat (by omega)
  rw [hm, hg (k - 1).toNat (by omega), ep, ← e] at h2
  exact h2 hz
theorem af_s1 {M : JM} {k n m : Int} {G : Nat → Int} (h : AFT M k n G m) (h1 : 1 ≤ k ∧ k < n) (hd : ∃ i : Nat, 1 ≤ i ∧ (i : Int) < k ∧ G i = m) : AFT M k n G (m + 1) := by
  refine af_ne h (fun g hg hr hm => ?_)
  obtain ⟨i, a, b, c⟩ := hd
  have h2 := (hr.1 k.toNat (by omega)).2.2.1 i a (by omega)
  rw [hm, hg i b, c] at h2
  exact h2 rfl
theorem af_s2 {M M' : JM} {k n m : Int} {G G' : Nat → Int} (h : AFT M k n G m) (h1 : 1 ≤ k ∧ k < n) (hn : NOR M' (k + 1) n G') (he : ∀ x, M'.1 175 x = M.1 175 x) (hG : ∀ i : Nat, (i : Int) < k → G' i = G i) (hk : G' k.toNat = m) : AFT M k n G (m + 1) := by
  refine af_ne h (fun g hg hr hm => ?_)
  refine hn g (fun i hi => ?_) (hr.cg he)
  by_cases c : (i : Int) < k
  · rw [hg i c, hG i c]
  · have e : i = k.toNat := by omega
    rw [e, hm, hk]
theorem px_s {M M' : JM} {k m z0 zp z : Int} {G G' : Nat → Int} (h : PX M k G) (h1 : 1 ≤ k) (he : ∀ x, M'.1 175 x = M.1 175 x) (hG : ∀ i : Nat, (i : Int) < k → G' i = G i) (hk : G' k.toNat = m) (hm : 0 ≤ m ∧ m < M.1 175 0) (e0 : G 0 = z0) (h0 : z0 < m) (hd : ∀ i : Nat, 1 ≤ i → (i : Int) < k → G i ≠ m) (ep : G (k - 1).toNat = zp) (e : z = M.1 175 (6 * zp + m + 120).toNat) (hz : z ≠ 0) : PX M' (k + 1) G' := by
  intro i hi
  by_cases c : (i : Int) < k
  · exact (h i c).cg he (fun j hj => hG j (by omega))
  · have ei : i = k.toNat := by omega
    subst ei
    refine ⟨?_, fun _ => ?_, fun j a b => ?_, fun p hp => ?_⟩
    · rw [hk, he]; exact hm
    · rw [hk, hG 0 (by omega), e0]; exact h0
    · rw [hk, hG j (by omega)]; exact hd j a (by omega)
    · have ep2 : p = (k - 1).toNat := by omega
      rw [hk, he, hG p (by omega), ep2, ep, ← e]; exact hz
/-- there is a ring -/
def RNG (M : JM) : Prop := ∃ (n : Int) (g : Nat → Int), 2 ≤ n ∧ n ≤ M.1 175 0 ∧ RG M n g
theorem RNG.cg {M M' : JM} (h : RNG M) (h6 : M.1 175 0 ≤ 6) (he : ∀ x : Nat, x = 0 ∨ (120 ≤ x ∧ x ≤ 155) → M'.1 175 x = M.1 175 x) : RNG M' := by
  obtain ⟨n, g, h1, h2, hp, hc⟩ := h
  have e0 := he 0 (Or.inl rfl)
  have hr : ∀ i : Nat, (i : Int) < n → 0 ≤ g i ∧ g i ≤ 5 := fun i hi => by
    have := (hp i hi).1
    omega
  refine ⟨n, g, h1, by rw [e0]; exact h2, fun i hi => ?_, ?_⟩
  · obtain ⟨a, b, c, d⟩ := hp i hi
    refine ⟨by rw [e0]; exact a, b, c, fun p hpi => ?_⟩
    have h3 := hr i hi
    have h4 := hr p (by omega)
    rw [he _ (Or.inr ⟨by omega, by omega⟩)]
    exact d p hpi
  · have h3 := hr (n - 1).toNat (by omega)
    have h4 := hr 0 (by omega)
    rw [he _ (Or.inr ⟨by omega, by omega⟩)]
    exact hc
theorem px_1 {M : JM} {m : Int} (h : M.1 184 0 = m) (hm : 0 ≤ m ∧ m < M.1 175 0) : PX M 1 (gof M) := by
  intro i hi
  have e : i = 0 := by omega
  subst e
  refine ⟨?_, fun h => by omega, fun j a b => by omega, fun p hp => by omega⟩
  show 0 ≤ M.1 184 0 ∧ M.1 184 0 < _
  rw [h]; exact hm
theorem lr_s {M M' : JM} {n m : Int} (h : ∀ g : Nat → Int, g 0 < m → ¬ RG M n g) (hn : NOR M' 1 n (gof M')) (hk : M'.1 184 0 = m) (he : ∀ x, M'.1 175 x = M.1 175 x) : ∀ g : Nat → Int, g 0 < m + 1 → ¬ RG M n g := by
  intro g hg hr
  by_cases c : g 0 < m
  · exact h g c hr
  · refine hn g (fun i hi => ?_) (hr.cg he)
    have e : i = 0 := by omega
    subst e
    show g 0 = M'.1 184 0
    omega
theorem lr_n {M : JM} {n m : Int} (h0 : ∀ (n' : Int) (g : Nat → Int), 2 ≤ n' → n' < n → ¬ RG M n' g) (hn : 2 ≤ n) (h : ∀ g : Nat → Int, g 0 < m → ¬ RG M n g) (hm : M.1 175 0 ≤ m) : ∀ (n' : Int) (g : Nat → Int), 2 ≤ n' → n' < n + 1 → ¬ RG M n' g := by
  intro n' g h1 h2 hr
  by_cases c : n' < n
  · exact h0 n' g h1 c hr
  · have e : n' = n := by omega
    subst e
    have h3 := (hr.1 0 (by omega)).1
    exact h g (by omega) hr
theorem lr_e {M : JM} {n : Int} (h0 : ∀ (n' : Int) (g : Nat → Int), 2 ≤ n' → n' < n → ¬ RG M n' g) (h : M.1 175 0 < n) : ¬ RNG M := by
  intro ⟨n', g, h1, h2, h3⟩
  exact h0 n' g h1 (by omega) h3
