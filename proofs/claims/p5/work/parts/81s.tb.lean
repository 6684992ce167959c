/-! The tape on both sides: its length and its bytes; exact rows of the two instructions that make a byte. -/
section BYT
variable {sh : List JS} {P : Nat → Option MR} {sc : Option (Nat × (Nat → Int))} {y pc : Nat} {F : JP} {mr : MR} {q : Nat × (Nat × Nat)} {L : JL} {r : List JV} {M : JM}
theorem jx_i2be (c1 : jstC sh P sc y F) (hm : P y = some mr) {a : Int} (hp : pg mr.2.2.2.2.2.2 pc = some (some (.i2b, (1, q)))) (k : ∀ v : Int, -128 ≤ v → v ≤ 127 → v = ((Int32.ofInt a).toInt8.toInt32).toInt → F (pc + 1) L (.inl v :: r) M) : F pc L (.inl a :: r) M := by
  have h := ib_ok (p := iTop) (iTop_ok (Int32.ofInt a))
  exact jx_un1 c1 hm hp rfl rfl (k _ h.1 h.2 rfl)
theorem jy_ane (c1 : jstC sh P sc y F) (hm : P y = some mr) {a b : Int} (hp : pg mr.2.2.2.2.2.2 pc = some (some (.iand, (1, q)))) (h : 0 ≤ b ∧ b ≤ 2147483647) (k : ∀ v : Int, 0 ≤ v → v ≤ b → v = (Int32.ofInt a &&& Int32.ofInt b).toInt → F (pc + 1) L (.inl v :: r) M) : F pc L (.inl b :: .inl a :: r) M := by
  have e := jwrap (z := b) (by omega) h.2
  have h1 := jandr (x := Int32.ofInt a) (y := Int32.ofInt b) (by omega)
  exact jx_iop c1 hm hp rfl rfl (k _ h1.1 (by omega) rfl)
end BYT
theorem and_u8 (x : Int32) : (x &&& Int32.ofInt 255).toInt = u8 (x.toInt8.toInt32).toInt := by
  have h1 := jbv x
  have h2 := jbv (x &&& Int32.ofInt 255)
  have h3 : (x &&& Int32.ofInt 255).toBitVec.toNat = x.toBitVec.toNat % 256 := by
    rw [Int32.toBitVec_and, BitVec.toNat_and, show (Int32.ofInt 255).toBitVec.toNat = 2 ^ 8 - 1 by decide, Nat.and_two_pow_sub_one_eq_mod]
  rw [h3, if_pos (by omega)] at h2
  rw [h2, Int8.toInt_toInt32, Int32.toInt_toInt8, Int.bmod_def, h1]
  unfold u8
  split <;> split <;> split <;> omega
def fdS (f : Int → Int) (p : (Nat → Int) × Int) : (Nat → Int) × Int := (fun j => if p.2 ≤ (j : Int) ∧ (j : Int) < p.2 + 4 then f (24 - 8 * ((j : Int) - p.2)) else p.1 j, p.2 + 4)
def FDX (f : Int → Int) (c lc : Nat) (M0 M : JM) : Prop := ∀ j : Nat, M.1 c j = if M0.1 lc 2 ≤ (j : Int) ∧ (j : Int) < M.1 lc 2 then f (24 - 8 * ((j : Int) - M0.1 lc 2)) else M0.1 c j
theorem FDX.start {f : Int → Int} {c lc : Nat} {M0 : JM} : FDX f c lc M0 M0 := fun j => by
  rw [if_neg (by omega)]
theorem FDX.cg {f : Int → Int} {c lc : Nat} {M0 M M' : JM} (h : FDX f c lc M0 M) (h1 : ∀ j, M'.1 c j = M.1 c j) (h2 : M'.1 lc 2 = M.1 lc 2) : FDX f c lc M0 M' := fun j => by
  rw [h1, h2]
  exact h j
theorem FDX.st {f : Int → Int} {c lc : Nat} {M0 M M1 M2 : JM} {a s v : Int} (h : FDX f c lc M0 M) (hl : c ≠ lc) (h0 : 0 ≤ M0.1 lc 2) (ha : M.1 lc 2 = a) (hs : 8 * a + s = 8 * M0.1 lc 2 + 24) (hle : s ≤ 24) (hv : v = f s) (k1 : M1.1 c a.toNat = v) (n1 : ∀ c' i', ¬ (c' = c ∧ i' = a.toNat) → M1.1 c' i' = M.1 c' i') (k2 : M2.1 lc 2 = a + 1) (n2 : ∀ c' i', ¬ (c' = lc ∧ i' = 2) → M2.1 c' i' = M1.1 c' i') : FDX f c lc M0 M2 := fun j => by
  rw [n2 c j (fun e => hl e.1), k2]
  by_cases e : (j : Int) = a
  · rw [show j = a.toNat by omega, k1, if_pos (by omega), hv]
    congr 1
    omega
  · rw [n1 c j (fun q => e (by have := q.2; omega)), h j, ha]
    by_cases q : M0.1 lc 2 ≤ (j : Int) ∧ (j : Int) < a
    · rw [if_pos q, if_pos (by omega)]
    · rw [if_neg q, if_neg (by omega)]
theorem FDX.fin {f : Int → Int} {c lc : Nat} {M0 M : JM} (h : FDX f c lc M0 M) (e : M.1 lc 2 = M0.1 lc 2 + 4) : (M.1 c, M.1 lc 2) = fdS f (M0.1 c, M0.1 lc 2) := by
  refine Prod.ext (funext fun j => ?_) e
  have h1 := h j
  rw [e] at h1
  exact h1
def ushI (w s : Int) : Int := (((Int32.ofInt w).toUInt32 >>> ((Int32.ofInt s).toUInt32 &&& Int32.toUInt32 31)).toInt32).toInt
def cbB (w s : Int) : Int := ((Int32.ofInt (ushI w s)).toInt8.toInt32).toInt
def rbB (w s : Int) : Int := (Int32.ofInt (ushI w s) &&& Int32.ofInt 255).toInt
def fd5 (f : Int → Int → Int) (a b c d e : Int) (p : (Nat → Int) × Int) : (Nat → Int) × Int := fdS (f e) (fdS (f d) (fdS (f c) (fdS (f b) (fdS (f a) p))))
def tapC (M : JM) : (Nat → Int) × Int := (M.1 2, M.1 0 2)
def tapR (M : JM) : (Nat → Int) × Int := (M.1 174, M.1 173 2)
theorem tapR_cg {M M' : JM} (h1 : ∀ j, M'.1 174 j = M.1 174 j) (h2 : M'.1 173 2 = M.1 173 2) : tapR M' = tapR M := Prod.ext (funext h1) h2
theorem tapC_cg {M M' : JM} (h1 : ∀ j, M'.1 2 j = M.1 2 j) (h2 : M'.1 0 2 = M.1 0 2) : tapC M' = tapC M := Prod.ext (funext h1) h2
def TR2 (p q : (Nat → Int) × Int) : Prop := q.2 = p.2 ∧ ∀ j : Nat, j < 940 → q.1 j = u8 (p.1 j)
theorem TR2.st {p q : (Nat → Int) × Int} (w : Int) (h : TR2 p q) : TR2 (fdS (cbB w) p) (fdS (rbB w) q) := by
  refine ⟨by show q.2 + 4 = p.2 + 4; rw [h.1], fun j hj => ?_⟩
  show (if q.2 ≤ (j : Int) ∧ (j : Int) < q.2 + 4 then rbB w (24 - 8 * ((j : Int) - q.2)) else q.1 j) = u8 (if p.2 ≤ (j : Int) ∧ (j : Int) < p.2 + 4 then cbB w (24 - 8 * ((j : Int) - p.2)) else p.1 j)
  rw [h.1]
  by_cases c : p.2 ≤ (j : Int) ∧ (j : Int) < p.2 + 4
  · rw [if_pos c, if_pos c]
    exact and_u8 _
  · rw [if_neg c, if_neg c]
    exact h.2 j hj
def TPQ (M : JM) : Prop := M.1 0 2 = M.1 173 2
theorem TPQ.e {M : JM} (h : TPQ M) : M.1 0 2 = M.1 173 2 := h
theorem TPQ.of {M : JM} (h : M.1 0 2 = M.1 173 2) : TPQ M := h
theorem TPQ.cg {M M' : JM} (h : TPQ M) (h1 : M'.1 0 2 = M.1 0 2) (h2 : M'.1 173 2 = M.1 173 2) : TPQ M' := by
  unfold TPQ
  rw [h1, h2]
  exact h
def TBQ (M : JM) : Prop := ∀ j : Nat, j < 940 → M.1 174 j = u8 (M.1 2 j)
theorem TBQ.cg {M M' : JM} (h : TBQ M) (h1 : ∀ j, M'.1 2 j = M.1 2 j) (h2 : ∀ j, M'.1 174 j = M.1 174 j) : TBQ M' := fun j hj => by
  rw [h1, h2]
  exact h j hj
theorem TBQ.feed {M M1 M2 : JM} {a b c d e a' b' c' d' e' : Int} (h : TBQ M) (q : TPQ M) (ea : a = a') (eb : b = b') (ec : c = c') (ed : d = d') (ee : e = e') (hc1 : M.1 0 2 ≤ 920 → tapC M1 = fd5 cbB a b c d e (tapC M)) (hc2 : 920 < M.1 0 2 → tapC M1 = tapC M) (f1 : ∀ j, M1.1 174 j = M.1 174 j) (f2 : M1.1 173 2 = M.1 173 2) (hr1 : M1.1 173 2 ≤ 920 → tapR M2 = fd5 rbB a' b' c' d' e' (tapR M1)) (hr2 : 920 < M1.1 173 2 → tapR M2 = tapR M1) (g1 : ∀ j, M2.1 2 j = M1.1 2 j) (g2 : M2.1 0 2 = M1.1 0 2) : TBQ M2 := by
  subst ea eb ec ed ee
  have h0 : TR2 (tapC M) (tapR M) := ⟨q.symm, h⟩
  have e1 := tapR_cg f1 f2
  have e2 := tapC_cg g1 g2
  rw [e1] at hr1 hr2
  have hq : M.1 0 2 = M.1 173 2 := q
  have h2 : TR2 (tapC M2) (tapR M2) := by
    by_cases hl : M.1 0 2 ≤ 920
    · rw [e2, hc1 hl, hr1 (by omega)]
      exact ((((h0.st a).st b).st c).st d).st e
    · rw [e2, hc2 (by omega), hr2 (by omega)]
      exact h0
  exact h2.2
theorem uC_TB {M : JM} (h : TBQ M) : uC M = uR M := funext fun j => by
  unfold uC uR
  by_cases hj : j < 940
  · rw [if_pos hj, if_pos hj, h j hj]
  · rw [if_neg hj, if_neg hj]
theorem du_eq {M M1 : JM} (h : TBQ M) (q : TPQ M) (u : ∀ j, M1.1 174 j = M.1 174 j) (n : M1.1 173 2 = M.1 173 2) : duS (uC M) (M.1 0 2) = duS (uR M1) (M1.1 173 2) := by
  rw [uC_TB h, uR_cg u, n, q.e]
/-! Both sides: the names at hand, those of the images. -/
def HNQ (M : JM) : Prop := ∃ σ : PSt, HC M 5 σ ∧ HN M 175 0 180 0 σ ∧ PIn σ
def IHQ (M : JM) : Prop := (M.1 46 0 ≠ 0 → ∃ σ : PSt, HC M 137 σ ∧ HN M 177 0 182 0 σ ∧ PIn σ) ∧ (M.1 46 1 ≠ 0 → ∃ σ : PSt, HC M 155 σ ∧ HN M 177 476 182 18 σ ∧ PIn σ)
def FHC (M M' : JM) (d : Nat) : Prop := (∀ j : Nat, (j : Int) < 3 → M'.1 (d + 1) j = M.1 (d + 1) j) ∧ ∀ k : Nat, (k : Int) < 18 → M'.2 (d + 2) k = M.2 (d + 2) k
def FHN (M M' : JM) (c o e p : Nat) : Prop := (∀ j : Nat, j < 3 → M'.1 c (o + j) = M.1 c (o + j)) ∧ ∀ k : Nat, k < 18 → M'.2 e (p + k) = M.2 e (p + k)
section HNS
variable {M M' M1 M2 : JM} {a v a2 v1 v2 f1 f2 : Int} {σ : PSt} {d c o e p : Nat}
theorem HC.fr (h : HC M d σ) (f : FHC M M' d) : HC M' d σ := HC.cp h f.1 f.2
theorem HN.fr (h : HN M c o e p σ) (f : FHN M M' c o e p) : HN M' c o e p σ := HN.cp h f.1 f.2
theorem HNQ.cg (h : HNQ M) (f : FHC M M' 5) (g : FHN M M' 175 0 180 0) : HNQ M' := by
  obtain ⟨σ, h1, h2, h3⟩ := h
  exact ⟨σ, h1.fr f, h2.fr g, h3⟩
theorem IHQ.cg (h : IHQ M) (e : ∀ j : Nat, M'.1 46 j = M.1 46 j) (f0 : FHC M M' 137) (f1 : FHC M M' 155) (g0 : FHN M M' 177 0 182 0) (g1 : FHN M M' 177 476 182 18) : IHQ M' := by
  refine ⟨fun c => ?_, fun c => ?_⟩
  · rw [e] at c
    obtain ⟨σ, h1, h2, h3⟩ := h.1 c
    exact ⟨σ, h1.fr f0, h2.fr g0, h3⟩
  · rw [e] at c
    obtain ⟨σ, h1, h2, h3⟩ := h.2 c
    exact ⟨σ, h1.fr f1, h2.fr g1, h3⟩
theorem fn_eq (h : TBQ M) (q : TPQ M) (u : ∀ j, M1.1 174 j = M.1 174 j) (n : M1.1 173 2 = M.1 173 2) : fnS (uC M) (M.1 0 2) = fnS (uR M1) (M1.1 173 2) := by
  rw [uC_TB h, uR_cg u, n, q.e]
theorem HNQ.du (h : HNQ M) (b : TBQ M) (q : TPQ M) (e1 : v1 = duS (uC M) (M.1 0 2)) (a1 : 0 ≤ v1 → HC M1 5 (fnS (uC M) (M.1 0 2)) ∧ PIn (fnS (uC M) (M.1 0 2))) (a2 : v1 < 0 → ∀ σ : PSt, HC M 5 σ → HC M1 5 σ) (u : ∀ j, M1.1 174 j = M.1 174 j) (n : M1.1 173 2 = M.1 173 2) (g : FHN M M1 175 0 180 0) (e2 : v2 = duS (uR M1) (M1.1 173 2)) (c1 : 0 ≤ v2 → HN M2 175 0 180 0 (fnS (uR M1) (M1.1 173 2))) (c2 : v2 < 0 → ∀ σ : PSt, HN M1 175 0 180 0 σ → HN M2 175 0 180 0 σ) (f : FHC M1 M2 5) : HNQ M2 := by
  have hv : v1 = v2 := e1.trans ((du_eq b q u n).trans e2.symm)
  subst hv
  by_cases h0 : 0 ≤ v1
  · obtain ⟨x1, x2⟩ := a1 h0
    refine ⟨_, x1.fr f, ?_, x2⟩
    rw [fn_eq b q u n]
    exact c1 h0
  · obtain ⟨σ, h1, h2, h3⟩ := h
    exact ⟨σ, (a2 (by omega) σ h1).fr f, c2 (by omega) σ (h2.fr g), h3⟩
theorem HNQ.re (h : HNQ M) (g : IMG M) (i : IHQ M) (ea : a = a2) (b1 : 0 ≤ v1 ∧ v1 ≤ 1) (r1 : v1 = imR 46 a M) (c1 : RHC a v1 M M1) (f : ∀ j : Nat, M1.1 183 j = M.1 183 j) (n5 : FHN M M1 175 0 180 0) (n0 : FHN M M1 177 0 182 0) (n1 : FHN M M1 177 476 182 18) (r2 : v2 = imR 183 a2 M1) (c2 : RHN a2 v2 M1 M2) (z : FHC M1 M2 5) : HNQ M2 := by
  have hv := imR_eq g ea r1 r2 f
  subst ea hv
  by_cases h1 : v1 = 1
  · have h2 := r1
    rw [h1] at h2
    unfold imR at h2
    by_cases ha : 0 ≤ a ∧ a ≤ 1
    · rw [if_pos ha] at h2
      rcases (show a = 0 ∨ a = 1 by omega) with h0 | h0
      · subst h0
        have h2 : 1 = M.1 46 0 := h2
        obtain ⟨σ, x1, x2, x3⟩ := i.1 (by omega)
        exact ⟨σ, (c1.1 h1 rfl σ x1).fr z, c2.1 h1 rfl σ (x2.fr n0), x3⟩
      · subst h0
        have h2 : 1 = M.1 46 1 := h2
        obtain ⟨σ, x1, x2, x3⟩ := i.2 (by omega)
        exact ⟨σ, (c1.2.1 h1 rfl σ x1).fr z, c2.2.1 h1 rfl σ (x2.fr n1), x3⟩
    · rw [if_neg ha] at h2
      omega
  · have h0 : v1 = 0 := by omega
    obtain ⟨σ, x1, x2, x3⟩ := h
    exact ⟨σ, (c1.2.2 h0 σ x1).fr z, c2.2.2 h0 σ (x2.fr n5), x3⟩
theorem IHQ.im (h : IHQ M) (c : HNQ M) (ea : a = a2) (p1 : imP 46 a M M1) (q1 : v1 = 1 → 0 ≤ a ∧ a ≤ 1) (q1' : v1 = 1 ∨ a < 0 ∨ 1 < a) (c1 : IHC a v1 M M1) (n5 : FHN M M1 175 0 180 0) (n0 : FHN M M1 177 0 182 0) (n1 : FHN M M1 177 476 182 18) (q2 : v2 = 1 → 0 ≤ a2 ∧ a2 ≤ 1) (q2' : v2 = 1 ∨ a2 < 0 ∨ 1 < a2) (c2 : IHN a2 v2 M1 M2) (f : ∀ j : Nat, M2.1 46 j = M1.1 46 j) (d0 : FHC M1 M2 137) (d1 : FHC M1 M2 155) : IHQ M2 := by
  subst ea
  have hv : v1 = 1 ↔ v2 = 1 := by omega
  refine ⟨fun e => ?_, fun e => ?_⟩
  · by_cases hc : v1 = 1 ∧ a = 0
    · obtain ⟨σ, x1, x2, x3⟩ := c
      exact ⟨σ, (c1.1 hc σ x1).fr d0, c2.1 ⟨hv.mp hc.1, hc.2⟩ σ (x2.fr n5), x3⟩
    · rw [f, p1 0 (by decide)] at e
      by_cases h0 : ((0 : Nat) : Int) = a
      · exfalso
        omega
      · rw [if_neg h0] at e
        obtain ⟨σ, x1, x2, x3⟩ := h.1 e
        exact ⟨σ, (c1.2.1 hc σ x1).fr d0, c2.2.1 (fun q => hc ⟨hv.mpr q.1, q.2⟩) σ (x2.fr n0), x3⟩
  · by_cases hc : v1 = 1 ∧ a = 1
    · obtain ⟨σ, x1, x2, x3⟩ := c
      exact ⟨σ, (c1.2.2.1 hc σ x1).fr d1, c2.2.2.1 ⟨hv.mp hc.1, hc.2⟩ σ (x2.fr n5), x3⟩
    · rw [f, p1 1 (by decide)] at e
      by_cases h0 : ((1 : Nat) : Int) = a
      · exfalso
        omega
      · rw [if_neg h0] at e
        obtain ⟨σ, x1, x2, x3⟩ := h.2 e
        exact ⟨σ, (c1.2.2.2 hc σ x1).fr d1, c2.2.2.2 (fun q => hc ⟨hv.mpr q.1, q.2⟩) σ (x2.fr n1), x3⟩
theorem sen_eq (h : HNQ M) (b : TBQ M) (q : TPQ M) (p1 : ∀ σ : PSt, HC M 5 σ → PIn σ → SenC (uC M) (M.1 0 2) σ v1 f1) (u : ∀ j, M1.1 174 j = M.1 174 j) (n : M1.1 173 2 = M.1 173 2) (g : FHN M M1 175 0 180 0) (p2 : ∀ σ : PSt, HN M1 175 0 180 0 σ → PIn σ → SenC (uR M1) (M1.1 173 2) σ v2 f2) : v1 = v2 ∧ f1 = f2 := by
  obtain ⟨σ, h1, h2, h3⟩ := h
  have a1 := p1 σ h1 h3
  have a2 := p2 σ (h2.fr g) h3
  rw [uC_TB b, q.e] at a1
  rw [uR_cg u, n] at a2
  exact a1.det a2
end HNS
/-! Both sides: the kind of the latest fault. -/
def FQ (M : JM) : Prop := M.1 0 3 = M.1 173 10
section FQS
variable {M M' M1 M2 : JM} {a a2 v1 v2 : Int}
theorem FQ.e (h : FQ M) : M.1 0 3 = M.1 173 10 := h
theorem FQ.cg (h : FQ M) (e1 : M'.1 0 3 = M.1 0 3) (e2 : M'.1 173 10 = M.1 173 10) : FQ M' := e1.trans (h.e.trans e2.symm)
theorem FQ.du (b : TBQ M) (q : TPQ M) (c : M1.1 0 3 = dkS (uC M) (M.1 0 2)) (u : ∀ j, M1.1 174 j = M.1 174 j) (n : M1.1 173 2 = M.1 173 2) (r : M2.1 173 10 = dkS (uR M1) (M1.1 173 2)) (f : M2.1 0 3 = M1.1 0 3) : FQ M2 := by
  unfold FQ
  rw [f, c, r, uC_TB b, uR_cg u, n, q.e]
theorem FQ.se (h : HNQ M) (b : TBQ M) (q : TPQ M) (p1 : ∀ σ : PSt, HC M 5 σ → PIn σ → SenC (uC M) (M.1 0 2) σ v1 (M1.1 0 3)) (u : ∀ j, M1.1 174 j = M.1 174 j) (n : M1.1 173 2 = M.1 173 2) (g : FHN M M1 175 0 180 0) (p2 : ∀ σ : PSt, HN M1 175 0 180 0 σ → PIn σ → SenC (uR M1) (M1.1 173 2) σ v2 (M2.1 173 10)) (f : M2.1 0 3 = M1.1 0 3) : FQ M2 := f.trans (sen_eq h b q p1 u n g p2).2
theorem FQ.bo (x : FQ M) (h : HNQ M) (b : TBQ M) (q : TPQ M) (ea : a = a2) (c1 : a = 0 ∨ a = 1 → ∀ σ : PSt, HC M 5 σ → PIn σ → M1.1 0 3 = bkS (uC M) (M.1 0 2) σ) (c2 : a < 0 ∨ 1 < a → M1.1 0 3 = M.1 0 3) (u : ∀ j, M1.1 174 j = M.1 174 j) (n : M1.1 173 2 = M.1 173 2) (e10 : M1.1 173 10 = M.1 173 10) (g : FHN M M1 175 0 180 0) (r1 : a2 = 0 ∨ a2 = 1 → ∀ σ : PSt, HN M1 175 0 180 0 σ → PIn σ → M2.1 173 10 = bkS (uR M1) (M1.1 173 2) σ) (r2 : a2 < 0 ∨ 1 < a2 → M2.1 173 10 = M1.1 173 10) (f : M2.1 0 3 = M1.1 0 3) : FQ M2 := by
  subst ea
  unfold FQ
  by_cases ha : a = 0 ∨ a = 1
  · obtain ⟨σ, h1, h2, h3⟩ := h
    rw [f, c1 ha σ h1 h3, r1 ha σ (h2.fr g) h3, uC_TB b, uR_cg u, n, q.e]
  · rw [f, c2 (by omega), r2 (by omega), e10]
    exact x
end FQS
