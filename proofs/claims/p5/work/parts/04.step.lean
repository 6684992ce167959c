/-! What the machine of intervals says of the machine itself: numbers, and instruction by instruction. -/
theorem i32_lo (x : Int32) : -2147483648 ≤ x.toInt := by have h := Int32.le_toInt x; simpa using h
theorem i32_hi (x : Int32) : x.toInt ≤ 2147483647 := by have h := Int32.toInt_lt x; omega
theorem iTop_ok (x : Int32) : iTop.1 ≤ x.toInt ∧ x.toInt ≤ iTop.2 := ⟨i32_lo x, i32_hi x⟩
theorem bm_id {z : Int} (h1 : -2147483648 ≤ z) (h2 : z ≤ 2147483647) : z.bmod (2 ^ 32) = z := Int.bmod_eq_of_le (by simpa using h1) (by simp; omega)
theorem inR_ok {z : Int} (h : inR z = true) : -2147483648 ≤ z ∧ z ≤ 2147483647 := by simpa [inR] using h
theorem iad_ok {p q : AI} {x y : Int32} (hx : p.1 ≤ x.toInt ∧ x.toInt ≤ p.2) (hy : q.1 ≤ y.toInt ∧ y.toInt ≤ q.2) : (iad p q).1 ≤ (x + y).toInt ∧ (x + y).toInt ≤ (iad p q).2 := by
  unfold iad
  cases h : (inR (p.1 + q.1) && inR (p.2 + q.2)) with
  | false => exact iTop_ok _
  | true =>
    simp only [Bool.and_eq_true] at h
    have h1 := inR_ok h.1
    have h2 := inR_ok h.2
    rw [Int32.toInt_add, bm_id (by omega) (by omega)]
    show p.1 + q.1 ≤ _ ∧ _ ≤ p.2 + q.2
    omega
theorem isb_ok {p q : AI} {x y : Int32} (hx : p.1 ≤ x.toInt ∧ x.toInt ≤ p.2) (hy : q.1 ≤ y.toInt ∧ y.toInt ≤ q.2) : (isb p q).1 ≤ (x - y).toInt ∧ (x - y).toInt ≤ (isb p q).2 := by
  unfold isb
  cases h : (inR (p.1 - q.2) && inR (p.2 - q.1)) with
  | false => exact iTop_ok _
  | true =>
    simp only [Bool.and_eq_true] at h
    have h1 := inR_ok h.1
    have h2 := inR_ok h.2
    rw [Int32.toInt_sub, bm_id (by omega) (by omega)]
    show p.1 - q.2 ≤ _ ∧ _ ≤ p.2 - q.1
    omega
theorem iml_ok {p q : AI} {x y : Int32} (hx : p.1 ≤ x.toInt ∧ x.toInt ≤ p.2) (hy : q.1 ≤ y.toInt ∧ y.toInt ≤ q.2) : (iml p q).1 ≤ (x * y).toInt ∧ (x * y).toInt ≤ (iml p q).2 := by
  unfold iml
  cases h : (decide (p.1 = p.2) && (decide (q.1 = q.2) && inR (p.1 * q.1))) with
  | false => exact iTop_ok _
  | true =>
    simp only [Bool.and_eq_true, decide_eq_true_eq] at h
    have h1 := inR_ok h.2.2
    have e1 : x.toInt = p.1 := by omega
    have e2 : y.toInt = q.1 := by omega
    rw [Int32.toInt_mul, e1, e2, bm_id h1.1 h1.2]
    exact ⟨Int.le_refl _, Int.le_refl _⟩
theorem iop_ok (f : Int32 → Int32 → Int32) {p q : AI} {x y : Int32} (hx : p.1 ≤ x.toInt ∧ x.toInt ≤ p.2) (hy : q.1 ≤ y.toInt ∧ y.toInt ≤ q.2) : (iop f p q).1 ≤ (f x y).toInt ∧ (f x y).toInt ≤ (iop f p q).2 := by
  unfold iop
  cases h : (decide (p.1 = p.2) && decide (q.1 = q.2)) with
  | false => exact iTop_ok _
  | true =>
    simp only [Bool.and_eq_true, decide_eq_true_eq] at h
    have e1 : p.1 = x.toInt := by omega
    have e2 : q.1 = y.toInt := by omega
    simp only [cond_true]
    rw [e1, e2, Int32.ofInt_toInt, Int32.ofInt_toInt]
    exact ⟨Int.le_refl _, Int.le_refl _⟩
theorem i2b_id {x : Int32} (h1 : -128 ≤ x.toInt) (h2 : x.toInt ≤ 127) : x.toInt8.toInt32 = x := by
  apply Int32.toInt_inj.mp
  rw [Int8.toInt_toInt32, Int32.toInt_toInt8]
  exact Int.bmod_eq_of_le (by simpa using h1) (by simp; omega)
theorem ib_ok {p : AI} {x : Int32} (hx : p.1 ≤ x.toInt ∧ x.toInt ≤ p.2) : (ib p).1 ≤ x.toInt8.toInt32.toInt ∧ x.toInt8.toInt32.toInt ≤ (ib p).2 := by
  unfold ib
  cases h : (decide (-128 ≤ p.1) && decide (p.2 ≤ 127)) with
  | false =>
    have h1 := Int8.le_toInt x.toInt8
    have h2 := Int8.toInt_lt x.toInt8
    rw [Int8.toInt_toInt32]
    simp at h1 h2 ⊢
    omega
  | true =>
    simp only [Bool.and_eq_true, decide_eq_true_eq] at h
    rw [i2b_id (by omega) (by omega)]
    exact hx
theorem imn_ok {p q : AI} {x y : Int32} (hx : p.1 ≤ x.toInt ∧ x.toInt ≤ p.2) (hy : q.1 ≤ y.toInt ∧ y.toInt ≤ q.2) : (imn p q).1 ≤ (if y < x then y else x).toInt ∧ (if y < x then y else x).toInt ≤ (imn p q).2 := by
  unfold imn
  cases h1 : decide (p.2 ≤ q.1) with
  | true =>
    simp only [decide_eq_true_eq] at h1
    have : ¬ y < x := by rw [Int32.lt_iff_toInt_lt]; omega
    rw [if_neg this]
    exact hx
  | false =>
    cases h2 : decide (q.2 ≤ p.1) with
    | false => exact iTop_ok _
    | true =>
      simp only [decide_eq_true_eq] at h2
      by_cases hlt : y < x
      · rw [if_pos hlt]; exact hy
      · rw [if_neg hlt]
        rw [Int32.lt_iff_toInt_lt] at hlt
        have : x.toInt = y.toInt := by omega
        simp only [cond_true, cond_false]
        omega
theorem lt3_ok {p q : AI} {x y : Int32} {r : Bool} (h : lt3 p q = some r) (hx : p.1 ≤ x.toInt ∧ x.toInt ≤ p.2) (hy : q.1 ≤ y.toInt ∧ y.toInt ≤ q.2) : x < y ↔ r = true := by
  unfold lt3 at h
  rw [Int32.lt_iff_toInt_lt]
  cases h1 : decide (p.2 < q.1) with
  | true =>
    simp only [h1, cond_true, Option.some.injEq] at h
    simp only [decide_eq_true_eq] at h1
    simp only [← h]
    constructor
    · intro _; trivial
    · intro _; omega
  | false =>
    cases h2 : decide (q.2 ≤ p.1) with
    | false => simp [h1, h2] at h
    | true =>
      simp only [h1, h2, cond_true, cond_false, Option.some.injEq] at h
      simp only [decide_eq_true_eq] at h2
      simp only [← h]
      constructor
      · intro _; omega
      · intro h; cases h
theorem eq3_ok {p q : AI} {x y : Int32} {r : Bool} (h : eq3 p q = some r) (hx : p.1 ≤ x.toInt ∧ x.toInt ≤ p.2) (hy : q.1 ≤ y.toInt ∧ y.toInt ≤ q.2) : x = y ↔ r = true := by
  unfold eq3 at h
  rw [← Int32.toInt_inj]
  cases h1 : (decide (p.1 = p.2) && (decide (q.1 = q.2) && decide (p.1 = q.1))) with
  | true =>
    simp only [h1, cond_true, Option.some.injEq] at h
    simp only [Bool.and_eq_true, decide_eq_true_eq] at h1
    simp only [← h]
    constructor
    · intro _; trivial
    · intro _; omega
  | false =>
    cases h2 : (decide (p.2 < q.1) || decide (q.2 < p.1)) with
    | false => simp [h1, h2] at h
    | true =>
      simp only [h1, h2, cond_true, cond_false, Option.some.injEq] at h
      simp only [Bool.or_eq_true, decide_eq_true_eq] at h2
      simp only [← h]
      constructor
      · intro _; omega
      · intro h; cases h
theorem no3_ok {o : Option Bool} {r : Bool} (h : no3 o = some r) : ∃ r', o = some r' ∧ r = !r' := by
  cases o with
  | none => cases h
  | some b => cases b <;> (cases h; exact ⟨_, rfl, rfl⟩)
theorem ix_ok {β : Type} {a : AI} {n : Nat} {k : Nat → Option β} {z : β} (h : ix_ a n k = some z) : ∃ i : Nat, a = ((i : Int), (i : Int)) ∧ i < n ∧ k i = some z := by
  unfold ix_ at h
  obtain ⟨a1, a2⟩ := a
  cases a1 with
  | negSucc m => cases h
  | ofNat i =>
    simp only at h
    cases h1 : (decide (Int.ofNat i = a2) && Nat.blt i n) with
    | false => rw [h1] at h; cases h
    | true =>
      simp only [h1, cond_true] at h
      simp only [Bool.and_eq_true, decide_eq_true_eq] at h1
      exact ⟨i, by rw [← h1.1]; rfl, Nat.blt_eq.mp h1.2, h⟩
theorem i32_nat {x : Int32} {i : Nat} (h : (i : Int) ≤ x.toInt ∧ x.toInt ≤ (i : Int)) : ¬ x < 0 ∧ x.toNatClampNeg = i := by
  have e : x.toInt = (i : Int) := by omega
  refine ⟨?_, ?_⟩
  · rw [Int32.lt_iff_toInt_lt]
    simp
    omega
  · show x.toInt.toNat = i
    rw [e]
    simp
theorem vin_ok {x : Int32} {i n : Nat} (h : (i : Int) ≤ x.toInt ∧ x.toInt ≤ (i : Int)) (hi : i < n) : vp_in x n := by
  obtain ⟨h1, h2⟩ := i32_nat h
  intro h3
  rcases h3 with h3 | h3
  · exact h1 h3
  · omega
theorem tk_ok {β : Type} {k : List AV → List AV → Option β} {z : β} : ∀ {n : Nat} {S acc : List AV}, tk_ n S acc k = some z → ∃ B r, S = B ++ r ∧ B.length = n ∧ k (B.reverse ++ acc) r = some z
  | 0, S, acc, h => ⟨[], S, rfl, rfl, h⟩
  | n + 1, [], acc, h => by cases h
  | n + 1, a :: S, acc, h => by
    obtain ⟨B, r, h1, h2, h3⟩ := tk_ok (n := n) (S := S) (acc := a :: acc) h
    exact ⟨a :: B, r, by rw [h1]; rfl, by simp [h2], by simpa using h3⟩
theorem one_ok {len n : Nat} {r : Option NX} {z : NX} (h : one len n r = some z) : len = n ∧ r = some z := by
  unfold one at h
  cases e : Nat.beq len n with
  | false => simp [e] at h
  | true => exact ⟨Nat.eq_of_beq_eq_true e, by simpa [e] using h⟩
theorem br_ok {c : Option Bool} {pc : Nat} {off : Int} {L : LO} {S : List AV} {h : AH} {z : NX} (hz : br_ c pc off L S h = some z) : ∃ t : Nat, (pc : Int) + off = (t : Int) ∧ ((c = some true ∧ z = .inl (t, (L, (S, h)))) ∨ (c = some false ∧ z = .inl (pc + 3, (L, (S, h))))) := by
  unfold br_ at hz
  split at hz
  · rename_i t ht
    refine ⟨t, ht, ?_⟩
    cases c with
    | none => cases hz
    | some b =>
      cases b with
      | false => simp only [go_eq] at hz; exact Or.inr ⟨rfl, (Option.some.inj hz).symm⟩
      | true => simp only [go_eq] at hz; exact Or.inl ⟨rfl, (Option.some.inj hz).symm⟩
  · cases hz
theorem int1_ok {S : List AV} {k : AI → List AV → Option NX} {z : NX} (h : int1 S k = some z) : ∃ a r, S = .inl a :: r ∧ k a r = some z := by
  unfold int1 at h
  split at h
  · exact ⟨_, _, rfl, h⟩
  · cases h
theorem int2_ok {S : List AV} {k : AI → AI → List AV → Option NX} {z : NX} (h : int2 S k = some z) : ∃ a b r, S = .inl b :: .inl a :: r ∧ k a b r = some z := by
  unfold int2 at h
  split at h
  · exact ⟨_, _, _, rfl, h⟩
  · cases h
theorem sto_ok {L : LO} {i : Nat} {v : AV} {pc : Nat} {S : List AV} {h : AH} {z : NX} (hz : sto L i v pc S h = some z) : isL v = false ∧ i < L.length ∧ z = .inl (pc, (L.set i (some v), (S, h))) := by
  unfold sto at hz
  cases e : isL v with
  | true => simp [e] at hz
  | false =>
    cases e2 : Nat.blt i L.length with
    | false => simp [e, e2] at hz
    | true =>
      simp only [e, e2, cond_true, cond_false, lsK_eq, go_eq] at hz
      exact ⟨rfl, Nat.blt_eq.mp e2, (Option.some.inj hz).symm⟩
theorem pg_zs {n i : Nat} {z : AV} (h : i < n) : pg (zs n z) i = some z := by
  unfold pg zs
  simp only [lg_eq]
  rw [List.getElem?_replicate, if_pos (by omega)]
  simp only
  rw [List.getElem?_replicate, if_pos (by omega)]
