/-! What a text says: tokens by their place on the tape, words by the reference's code. -/
def u8 (z : Int) : Int := if z < 0 then z + 256 else z
def chL (c : Int) : Bool := decide (97 ≤ c) && decide (c ≤ 122)
def chD (c : Int) : Bool := decide (48 ≤ c) && decide (c ≤ 57)
def chW (c : Int) : Bool := decide (c = 32) || decide (c = 10)
def chA (c : Int) : Bool := chL c || chD c
def chS (c : Int) : Bool := decide (c = 59) || (decide (c = 60) || (decide (c = 61) || (decide (c = 62) || (decide (c = 40) || decide (c = 41)))))
theorem chL_iff {c : Int} : chL c = true ↔ 97 ≤ c ∧ c ≤ 122 := by simp [chL]
theorem chD_iff {c : Int} : chD c = true ↔ 48 ≤ c ∧ c ≤ 57 := by simp [chD]
theorem chW_iff {c : Int} : chW c = true ↔ c = 32 ∨ c = 10 := by simp [chW]
theorem chA_iff {c : Int} : chA c = true ↔ (97 ≤ c ∧ c ≤ 122) ∨ (48 ≤ c ∧ c ≤ 57) := by simp [chA, chL, chD]
theorem chS_iff {c : Int} : chS c = true ↔ c = 59 ∨ c = 60 ∨ c = 61 ∨ c = 62 ∨ c = 40 ∨ c = 41 := by simp [chS]
/-- from i on all keep p, up to e, where one doesn't, or the text ends -/
def RunP (p : Int → Bool) (u : Nat → Int) (n i e : Int) : Prop := i ≤ e ∧ (e ≤ n ∨ e = i) ∧ (∀ j : Nat, i ≤ (j : Int) → (j : Int) < e → p (u j) = true) ∧ (e < n → p (u e.toNat) = false)
theorem RunP.lt {p : Int → Bool} {u : Nat → Int} {n i e e' : Int} (hi : 0 ≤ i) (h : RunP p u n i e) (h' : RunP p u n i e') : ¬ e < e' := by
  intro hlt
  have h1 := h.2.2.2 (by have := h'.2.1; have := h.1; omega)
  have h2 := h'.2.2.1 e.toNat (by have := h.1; omega) (by have := h.1; omega)
  rw [h1] at h2
  cases h2
theorem RunP.eq {p : Int → Bool} {u : Nat → Int} {n i e e' : Int} (hi : 0 ≤ i) (h : RunP p u n i e) (h' : RunP p u n i e') : e = e' := by
  have h1 := RunP.lt hi h h'
  have h2 := RunP.lt hi h' h
  omega
def runN (p : Int → Bool) (u : Nat → Int) (n : Int) : Nat → Int → Int
  | 0, i => i
  | Nat.succ k, i => if i < n ∧ p (u i.toNat) = true then runN p u n k (i + 1) else i
theorem runN_ok (p : Int → Bool) (u : Nat → Int) (n : Int) : ∀ (k : Nat) (i : Int), 0 ≤ i → n - i ≤ (k : Int) → RunP p u n i (runN p u n k i)
  | 0, i, hi, hk => by
    refine ⟨Int.le_refl _, Or.inr rfl, fun j h1 h2 => ?_, fun h => ?_⟩
    · have h2 : (j : Int) < i := h2
      omega
    · have h : i < n := h
      have hk : n - i ≤ 0 := hk
      omega
  | k + 1, i, hi, hk => by
    unfold runN
    by_cases hc : i < n ∧ p (u i.toNat) = true
    · rw [if_pos hc]
      obtain ⟨h1, h2, h3, h4⟩ := runN_ok p u n k (i + 1) (by omega) (by omega)
      refine ⟨by omega, by omega, fun j hj1 hj2 => ?_, h4⟩
      by_cases he : (j : Int) = i
      · have : j = i.toNat := by omega
        rw [this]
        exact hc.2
      · exact h3 j (by omega) hj2
    · rw [if_neg hc]
      refine ⟨Int.le_refl _, Or.inr rfl, fun j h1 h2 => by omega, fun h => ?_⟩
      cases hp : p (u i.toNat) with
      | false => rfl
      | true => exact absurd ⟨h, hp⟩ hc
def runF (p : Int → Bool) (u : Nat → Int) (n i : Int) : Int := runN p u n (n - i).toNat i
theorem runF_ok (p : Int → Bool) (u : Nat → Int) {n i : Int} (hi : 0 ≤ i) : RunP p u n i (runF p u n i) := runN_ok p u n _ i hi (by omega)
theorem runF_eq {p : Int → Bool} {u : Nat → Int} {n i e : Int} (hi : 0 ≤ i) (h : RunP p u n i e) : runF p u n i = e := RunP.eq hi (runF_ok p u hi) h
/-- how many of the first k from a on keep p -/
def cnt (p : Int → Bool) (u : Nat → Int) (a : Int) : Nat → Int
  | 0 => 0
  | Nat.succ k => cnt p u a k + if p (u (a + (k : Int)).toNat) = true then 1 else 0
theorem cnt_nn (p : Int → Bool) (u : Nat → Int) (a : Int) : ∀ k : Nat, 0 ≤ cnt p u a k ∧ cnt p u a k ≤ (k : Int)
  | 0 => ⟨Int.le_refl _, Int.le_refl _⟩
  | k + 1 => by
    have ih := cnt_nn p u a k
    unfold cnt
    split <;> omega
theorem cnt_sum (u : Nat → Int) (a : Int) (ha : 0 ≤ a) : ∀ k : Nat, (∀ j : Nat, a ≤ (j : Int) → (j : Int) < a + (k : Int) → chA (u j) = true) → cnt chL u a k + cnt chD u a k = (k : Int)
  | 0, _ => rfl
  | k + 1, h => by
    have ih := cnt_sum u a ha k (fun j h1 h2 => h j h1 (by omega))
    have hc := h (a + (k : Int)).toNat (by omega) (by omega)
    have hx := chA_iff.mp hc
    unfold cnt
    by_cases hl : chL (u (a + (k : Int)).toNat) = true
    · have hd : ¬ chD (u (a + (k : Int)).toNat) = true := by
        rw [chD_iff]
        have := chL_iff.mp hl
        omega
      rw [if_pos hl, if_neg hd]
      omega
    · have hd : chD (u (a + (k : Int)).toNat) = true := by
        rw [chD_iff]
        have : ¬ (97 ≤ u (a + (k : Int)).toNat ∧ u (a + (k : Int)).toNat ≤ 122) := fun q => hl (chL_iff.mpr q)
        omega
      rw [if_neg hl, if_pos hd]
      omega
/-- the number, and the word, of the first k from a on -/
def nvS (u : Nat → Int) (a : Int) : Nat → Int
  | 0 => 0
  | Nat.succ k => 10 * nvS u a k + (u (a + (k : Int)).toNat - 48)
def wrS (u : Nat → Int) (a : Int) : Nat → Int
  | 0 => 0
  | Nat.succ k => 27 * wrS u a k + (u (a + (k : Int)).toNat - 96)
def wcS (u : Nat → Int) (a : Int) : Nat → Int
  | 0 => 0
  | Nat.succ k => 256 * wcS u a k + u (a + (k : Int)).toNat
/-- the class's code of a word out of the reference's -/
def cwN : Nat → Int → Int
  | 0, _ => 0
  | Nat.succ k, r => if r ≤ 0 then 0 else 256 * cwN k (r / 27) + (r % 27 + 96)
def cw (r : Int) : Int := cwN 8 r
/-- a code of k letters -/
def wok : Nat → Int → Prop
  | 0, r => r = 0
  | Nat.succ k, r => r = 0 ∨ ∃ q d : Int, wok k q ∧ 1 ≤ d ∧ d ≤ 26 ∧ r = 27 * q + d
theorem wok_up : ∀ {k : Nat} {r : Int}, wok k r → wok (k + 1) r
  | 0, r, h => Or.inl h
  | k + 1, r, h => by
    rcases h with h | ⟨q, d, h1, h2, h3, h4⟩
    · exact Or.inl h
    · exact Or.inr ⟨q, d, wok_up h1, h2, h3, h4⟩
theorem wok_nn : ∀ {k : Nat} {r : Int}, wok k r → 0 ≤ r
  | 0, r, h => by
    have h : r = 0 := h
    omega
  | k + 1, r, h => by
    rcases h with h | ⟨q, d, h1, h2, h3, h4⟩
    · omega
    · have := wok_nn h1
      omega
theorem cwN_le : ∀ {k : Nat} {r : Int}, wok k r → ∀ m : Nat, k ≤ m → cwN m r = cwN k r
  | 0, r, h, m, _ => by
    have h : r = 0 := h
    subst h
    cases m with
    | zero => rfl
    | succ m => unfold cwN; rw [if_pos (Int.le_refl _)]
  | k + 1, r, h, m, hm => by
    cases m with
    | zero => omega
    | succ m =>
      rcases h with h | ⟨q, d, h1, h2, h3, h4⟩
      · subst h
        unfold cwN
        rw [if_pos (Int.le_refl _), if_pos (Int.le_refl _)]
      · have hq := wok_nn h1
        unfold cwN
        rw [if_neg (by omega), if_neg (by omega), show r / 27 = q by omega, cwN_le h1 m (by omega)]
theorem cw_st {k : Nat} {q d : Int} (h : wok k q) (hk : k ≤ 7) (h1 : 1 ≤ d) (h2 : d ≤ 26) : cw (27 * q + d) = 256 * cw q + (d + 96) := by
  have hq := wok_nn h
  unfold cw
  rw [show cwN 8 (27 * q + d) = if 27 * q + d ≤ 0 then 0 else 256 * cwN 7 ((27 * q + d) / 27) + ((27 * q + d) % 27 + 96) from rfl, if_neg (by omega), show (27 * q + d) / 27 = q by omega, show (27 * q + d) % 27 = d by omega, cwN_le h 7 hk, cwN_le h 8 (by omega)]
theorem cw_0 : cw 0 = 0 := by unfold cw cwN; rw [if_pos (Int.le_refl _)]
/-- codes of the class tell words apart -/
theorem cw_inj : ∀ {k : Nat} {r r' : Int}, k ≤ 7 → wok k r → wok k r' → cw r = cw r' → r = r'
  | 0, r, r', _, h, h', _ => by
    have h : r = 0 := h
    have h' : r' = 0 := h'
    omega
  | k + 1, r, r', hk, h, h', he => by
    have nn : ∀ {k : Nat} {q : Int}, k ≤ 7 → wok k q → 0 ≤ cw q := by
      intro k
      induction k with
      | zero =>
        intro q _ hq
        have hq : q = 0 := hq
        rw [hq, cw_0]
        omega
      | succ k ih =>
        intro q hk hq
        rcases hq with hq | ⟨q1, d, h1, h2, h3, h4⟩
        · rw [hq, cw_0]
          omega
        · rw [h4, cw_st h1 (by omega) h2 h3]
          have := ih (by omega) h1
          omega
    rcases h with h | ⟨q, d, h1, h2, h3, h4⟩
    · rcases h' with h' | ⟨q', d', h1', h2', h3', h4'⟩
      · omega
      · rw [h, h4', cw_0, cw_st h1' (by omega) h2' h3'] at he
        have := nn (by omega) h1'
        omega
    · rcases h' with h' | ⟨q', d', h1', h2', h3', h4'⟩
      · rw [h', h4, cw_0, cw_st h1 (by omega) h2 h3] at he
        have := nn (by omega) h1
        omega
      · rw [h4, h4', cw_st h1 (by omega) h2 h3, cw_st h1' (by omega) h2' h3'] at he
        have e1 : cw q = cw q' := by omega
        have e2 := cw_inj (by omega) h1 h1' e1
        omega
theorem wrS_ok (u : Nat → Int) (a : Int) (ha : 0 ≤ a) : ∀ k : Nat, k ≤ 7 → (∀ j : Nat, a ≤ (j : Int) → (j : Int) < a + (k : Int) → chL (u j) = true) → wok k (wrS u a k) ∧ cw (wrS u a k) = wcS u a k
  | 0, _, _ => ⟨rfl, cw_0⟩
  | k + 1, hk, h => by
    obtain ⟨h1, h2⟩ := wrS_ok u a ha k (by omega) (fun j h1 h2 => h j h1 (by omega))
    have hc := chL_iff.mp (h (a + (k : Int)).toNat (by omega) (by omega))
    refine ⟨Or.inr ⟨wrS u a k, u (a + (k : Int)).toNat - 96, h1, by omega, by omega, rfl⟩, ?_⟩
    show cw (27 * wrS u a k + (u (a + (k : Int)).toNat - 96)) = 256 * wcS u a k + u (a + (k : Int)).toNat
    rw [cw_st h1 (by omega) (by omega) (by omega), h2]
    omega
theorem nvS_ok (u : Nat → Int) (a : Int) (ha : 0 ≤ a) : ∀ k : Nat, k ≤ 3 → (∀ j : Nat, a ≤ (j : Int) → (j : Int) < a + (k : Int) → chD (u j) = true) → 0 ≤ nvS u a k ∧ nvS u a k ≤ 999
  | 0, _, _ => by
    show (0 : Int) ≤ 0 ∧ (0 : Int) ≤ 999
    omega
  | 1, _, h => by
    have h0 := chD_iff.mp (h (a + ((0 : Nat) : Int)).toNat (by omega) (by omega))
    simp only [nvS]
    omega
  | 2, _, h => by
    have h0 := chD_iff.mp (h (a + ((0 : Nat) : Int)).toNat (by omega) (by omega))
    have h1 := chD_iff.mp (h (a + ((1 : Nat) : Int)).toNat (by omega) (by omega))
    simp only [nvS]
    omega
  | 3, _, h => by
    have h0 := chD_iff.mp (h (a + ((0 : Nat) : Int)).toNat (by omega) (by omega))
    have h1 := chD_iff.mp (h (a + ((1 : Nat) : Int)).toNat (by omega) (by omega))
    have h2 := chD_iff.mp (h (a + ((2 : Nat) : Int)).toNat (by omega) (by omega))
    simp only [nvS]
    omega
  | k + 4, hk, _ => by omega
/-! The token that is read from a place on: its kind (0 none left, 1 none, 2 a word, 3 a number, 4 a sign), where it begins, where it ends, what it says. -/
def tP (u : Nat → Int) (n i : Int) : Int := runF chW u n i
def tQ (u : Nat → Int) (n i : Int) : Int := runF chA u n (tP u n i)
def tK (u : Nat → Int) (n m i : Int) : Int :=
  if m < n ∧ m ≤ tP u n i then 1 else if n ≤ tP u n i then 0 else
  if tQ u n i = tP u n i then (if chS (u (tP u n i).toNat) = true then 4 else 1) else
  if cnt chD u (tP u n i) (tQ u n i - tP u n i).toNat = 0 then (if tQ u n i - tP u n i ≤ 7 then 2 else 1) else
  if cnt chL u (tP u n i) (tQ u n i - tP u n i).toNat = 0 ∧ tQ u n i - tP u n i ≤ 3 then 3 else 1
def tF (u : Nat → Int) (n m i : Int) : Int := if m < n ∧ m ≤ tP u n i then m else tP u n i
def tE (u : Nat → Int) (n i : Int) : Int := if tQ u n i = tP u n i then tP u n i + 1 else tQ u n i
def tV (u : Nat → Int) (n m i : Int) : Int := if tK u n m i = 2 then wrS u (tP u n i) (tQ u n i - tP u n i).toNat else if tK u n m i = 3 then nvS u (tP u n i) (tQ u n i - tP u n i).toNat else if tK u n m i = 4 then u (tP u n i).toNat else 0
theorem tP_ok {u : Nat → Int} {n i : Int} (hi : 0 ≤ i) : RunP chW u n i (tP u n i) := runF_ok chW u hi
theorem tP_ge {u : Nat → Int} {n i : Int} (hi : 0 ≤ i) : i ≤ tP u n i := (tP_ok hi).1
theorem tQ_ok {u : Nat → Int} {n i : Int} (hi : 0 ≤ i) : RunP chA u n (tP u n i) (tQ u n i) := runF_ok chA u (Int.le_trans hi (tP_ge hi))
/-- nothing begins at or behind the limit -/
theorem tk_out {u : Nat → Int} {n m i p : Int} (hi : 0 ≤ i) (h1 : ∀ j : Nat, i ≤ (j : Int) → (j : Int) < p → chW (u j) = true) (h2 : p ≤ n ∨ p = i) (hm : m < n) (hp : m ≤ p) : tK u n m i = 1 ∧ tF u n m i = m := by
  have hP := tP_ok (u := u) (n := n) hi
  have hle : m ≤ tP u n i := by
    have h3 := hP.1
    by_cases hc : tP u n i < p
    · exfalso
      have h4 : tP u n i < n := by omega
      have h5 := hP.2.2.2 h4
      have h6 := h1 (tP u n i).toNat (by omega) (by omega)
      rw [h5] at h6
      cases h6
    · omega
  unfold tK tF
  rw [if_pos ⟨hm, hle⟩, if_pos ⟨hm, hle⟩]
  exact ⟨rfl, rfl⟩
/-- the text has ended -/
theorem tk_end {u : Nat → Int} {n m i p : Int} (hi : 0 ≤ i) (h : RunP chW u n i p) (hp : n ≤ p) (hm : ¬ (m < n ∧ m ≤ p)) : tK u n m i = 0 ∧ tF u n m i = p := by
  have e : tP u n i = p := runF_eq hi h
  unfold tK tF
  rw [e, if_neg hm, if_pos hp, if_neg hm]
  exact ⟨rfl, rfl⟩
/-- a sign, or what is no token -/
theorem tk_sign {u : Nat → Int} {n m i p : Int} (hi : 0 ≤ i) (h : RunP chW u n i p) (hp : p < n) (hm : ¬ (m < n ∧ m ≤ p)) (hc : chA (u p.toNat) = false) : tK u n m i = (if chS (u p.toNat) = true then 4 else 1) ∧ tF u n m i = p ∧ tE u n i = p + 1 ∧ (tK u n m i = 4 → tV u n m i = u p.toNat) := by
  have e : tP u n i = p := runF_eq hi h
  have hq : tQ u n i = p := by
    unfold tQ
    rw [e]
    exact runF_eq (by have := h.1; omega) ⟨Int.le_refl _, Or.inr rfl, fun j h1 h2 => by omega, fun _ => hc⟩
  have hk : tK u n m i = (if chS (u p.toNat) = true then 4 else 1) := by
    unfold tK
    rw [hq, e, if_neg hm, if_neg (by omega), if_pos rfl]
  refine ⟨hk, ?_, ?_, fun h4 => ?_⟩
  · unfold tF
    rw [e, if_neg hm]
  · unfold tE
    rw [hq, e, if_pos rfl]
  · unfold tV
    rw [h4, e]
    rfl
/-- a run of letters and digits -/
theorem tk_run {u : Nat → Int} {n m i p q : Int} (hi : 0 ≤ i) (h : RunP chW u n i p) (hp : p < n) (hm : ¬ (m < n ∧ m ≤ p)) (hr : RunP chA u n p q) (hpq : p < q) :
    tK u n m i = (if cnt chD u p (q - p).toNat = 0 then (if q - p ≤ 7 then 2 else 1) else if cnt chL u p (q - p).toNat = 0 ∧ q - p ≤ 3 then 3 else 1) ∧ tF u n m i = p ∧ tE u n i = q ∧ (tK u n m i = 2 → tV u n m i = wrS u p (q - p).toNat) ∧ (tK u n m i = 3 → tV u n m i = nvS u p (q - p).toNat) := by
  have e : tP u n i = p := runF_eq hi h
  have hq : tQ u n i = q := by
    unfold tQ
    rw [e]
    exact runF_eq (by have := h.1; omega) hr
  refine ⟨?_, ?_, ?_, fun h2 => ?_, fun h3 => ?_⟩
  · unfold tK
    rw [hq, e, if_neg hm, if_neg (by omega), if_neg (by omega)]
  · unfold tF
    rw [e, if_neg hm]
  · unfold tE
    rw [hq, e, if_neg (by omega)]
  · unfold tV
    rw [h2, hq, e]
    rfl
  · unfold tV
    rw [h3, hq, e]
    rfl
theorem cnt_all {p : Int → Bool} {u : Nat → Int} {a : Int} (ha : 0 ≤ a) : ∀ {k : Nat}, cnt p u a k = (k : Int) → ∀ j : Nat, a ≤ (j : Int) → (j : Int) < a + (k : Int) → p (u j) = true
  | 0, _, j, h1, h2 => by omega
  | k + 1, h, j, h1, h2 => by
    have hb := cnt_nn p u a k
    unfold cnt at h
    by_cases hc : p (u (a + (k : Int)).toNat) = true
    · rw [if_pos hc] at h
      by_cases he : (j : Int) = a + (k : Int)
      · have : j = (a + (k : Int)).toNat := by omega
        rw [this]
        exact hc
      · exact cnt_all ha (k := k) (by omega) j h1 (by omega)
    · rw [if_neg hc] at h
      omega
/-- a word's code is one of at most seven letters -/
theorem tV_wok {u : Nat → Int} {n m i : Int} (hi : 0 ≤ i) (hk : tK u n m i = 2) : wok 7 (tV u n m i) ∧ cw (tV u n m i) = wcS u (tP u n i) (tQ u n i - tP u n i).toNat ∧ (tQ u n i - tP u n i).toNat ≤ 7 ∧ 0 < tV u n m i := by
  have hP := tP_ge (u := u) (n := n) hi
  have hQ := tQ_ok (u := u) (n := n) hi
  have hk' := hk
  unfold tK at hk'
  by_cases c1 : m < n ∧ m ≤ tP u n i
  · rw [if_pos c1] at hk'; omega
  rw [if_neg c1] at hk'
  by_cases c2 : n ≤ tP u n i
  · rw [if_pos c2] at hk'; omega
  rw [if_neg c2] at hk'
  by_cases c3 : tQ u n i = tP u n i
  · rw [if_pos c3] at hk'
    split at hk' <;> omega
  rw [if_neg c3] at hk'
  by_cases c4 : cnt chD u (tP u n i) (tQ u n i - tP u n i).toNat = 0
  · rw [if_pos c4] at hk'
    by_cases c5 : tQ u n i - tP u n i ≤ 7
    · have hge := hQ.1
      have hsum := cnt_sum u (tP u n i) (by omega) (tQ u n i - tP u n i).toNat (fun j h1 h2 => hQ.2.2.1 j h1 (by omega))
      have hall := cnt_all (p := chL) (u := u) (a := tP u n i) (by omega) (k := (tQ u n i - tP u n i).toNat) (by omega)
      obtain ⟨h1, h2⟩ := wrS_ok u (tP u n i) (by omega) (tQ u n i - tP u n i).toNat (by omega) hall
      have hv : tV u n m i = wrS u (tP u n i) (tQ u n i - tP u n i).toNat := by
        unfold tV
        rw [hk]
        rfl
      have up : ∀ (k d : Nat) (r : Int), wok k r → wok (k + d) r := by
        intro k d r hr
        induction d with
        | zero => exact hr
        | succ d ih => exact wok_up ih
      rw [hv]
      refine ⟨?_, h2, by omega, ?_⟩
      · have := up _ (7 - (tQ u n i - tP u n i).toNat) _ h1
        rwa [show (tQ u n i - tP u n i).toNat + (7 - (tQ u n i - tP u n i).toNat) = 7 by omega] at this
      · obtain ⟨k, hk9⟩ : ∃ k, (tQ u n i - tP u n i).toNat = k + 1 := ⟨(tQ u n i - tP u n i).toNat - 1, by omega⟩
        rw [hk9] at h1 hall ⊢
        have hc := chL_iff.mp (hall (tP u n i + (k : Int)).toNat (by omega) (by omega))
        have hk7 := wok_nn (wrS_ok u (tP u n i) (by omega) k (by omega) (fun j a b => hall j a (by omega))).1
        unfold wrS
        omega
    · rw [if_neg c5] at hk'; omega
  · rw [if_neg c4] at hk'
    split at hk' <;> omega
/-! What a DUCHY's text says, line by line: the place at hand, the counts, the names, the flags (36 minds told, 36 debts told, wears, mends). -/
abbrev PSt : Type := Int × ((Nat → Int) × ((Nat → Int) × (Nat → Int)))
abbrev TXT : Type := (Nat → Int) × (Int × Int)
abbrev RES : Type := Int × PSt
def kwR : List Int := [9518, 2549444483, 7096213, 149125, 312166, 12322792, 7017481, 89821, 55369, 6486040, 261253882, 283619210, 456500, 423, 1111, 10631, 8868856, 8431270, 5878, 3163, 8864024, 52714253, 2226196, 212302449]
def keyN (r : Int) : Nat → Int
  | 0 => -1
  | Nat.succ k => if 0 ≤ keyN r k then keyN r k else if kwR.getD k 0 = r then (k : Int) else -1
def keyS (r : Int) : Int := keyN r 24
def fupd (f : Nat → Int) (j : Nat) (v : Int) : Nat → Int := fun i => if i = j then v else f i
def kK (t : TXT) (σ : PSt) : Int := tK t.1 t.2.1 t.2.2 σ.1
def kF (t : TXT) (σ : PSt) : Int := tF t.1 t.2.1 t.2.2 σ.1
def kV (t : TXT) (σ : PSt) : Int := tV t.1 t.2.1 t.2.2 σ.1
def goS (t : TXT) (σ : PSt) : PSt := (tE t.1 t.2.1 σ.1, σ.2)
def okS (σ : PSt) : RES := (-1, σ)
def badS (p : Int) (σ : PSt) : RES := (p, σ)
def seqS (f g : PSt → RES) (σ : PSt) : RES := if (f σ).1 < 0 then g (f σ).2 else f σ
theorem seq_ok {f g : PSt → RES} {σ : PSt} (h : (f σ).1 < 0) : seqS f g σ = g (f σ).2 := if_pos h
theorem seq_bad {f g : PSt → RES} {σ : PSt} (h : 0 ≤ (f σ).1) : seqS f g σ = f σ := if_neg (by omega)
def firstS (t : TXT) (s : Nat) (σ : PSt) : RES := if σ.2.1 s < 6 then okS (goS t σ) else badS (kF t σ) σ
def isNm (t : TXT) (σ : PSt) : Bool := decide (kK t σ = 2) && decide (keyS (kV t σ) = -1)
/-- the first of the names told that is w -/
def fndN (σ : PSt) (w : Int) : Nat → Int
  | 0 => -1
  | Nat.succ k => if 0 ≤ fndN σ w k then fndN σ w k else if ((k % 6 : Nat) : Int) < σ.2.1 (k / 6) ∧ σ.2.2.1 k = w then (k : Int) else -1
def fndS (σ : PSt) (w : Int) : Int := fndN σ w 18
def newS (t : TXT) (s : Nat) (σ : PSt) : RES := if isNm t σ = true then (if fndS σ (kV t σ) < 0 then okS (goS t (σ.1, (σ.2.1, (fupd σ.2.2.1 (6 * s + (σ.2.1 s).toNat) (kV t σ), σ.2.2.2)))) else badS (kF t σ) σ) else badS (kF t σ) σ
def numS (t : TXT) (a b : Int) (σ : PSt) : RES := if kK t σ = 3 ∧ a ≤ kV t σ ∧ kV t σ ≤ b then okS (goS t σ) else badS (kF t σ) σ
def incS (s : Nat) (σ : PSt) : RES := okS (σ.1, (fupd σ.2.1 s (σ.2.1 s + 1), σ.2.2))
def setS (j : Nat) (σ : PSt) : RES := okS (σ.1, (σ.2.1, (σ.2.2.1, fupd σ.2.2.2 j 1)))
def nameS (t : TXT) (s : Int) (g : Int → PSt → RES) (σ : PSt) : RES := if isNm t σ = true ∧ 0 ≤ fndS σ (kV t σ) ∧ fndS σ (kV t σ) / 6 = s then g (fndS σ (kV t σ) % 6) (goS t σ) else badS (kF t σ) σ
def manS (t : TXT) : PSt → RES := seqS (firstS t 0) (seqS (newS t 0) (seqS (numS t 0 99) (incS 0)))
def forS (t : TXT) : PSt → RES := seqS (firstS t 1) (seqS (newS t 1) (seqS (numS t 0 20) (incS 1)))
def gooS (t : TXT) : PSt → RES := seqS (firstS t 2) (seqS (newS t 2) (seqS (numS t 1 99) (seqS (numS t 0 20) (incS 2))))
def minS (t : TXT) (σ : PSt) : RES := nameS t 0 (fun m σ2 => nameS t 1 (fun f σ3 => if σ3.2.2.2 (6 * m + f).toNat ≠ 0 then badS (kF t σ2) σ3 else seqS (numS t 0 20) (setS (6 * m + f).toNat) σ3) σ2) (goS t σ)
def oweS (t : TXT) (σ : PSt) : RES := nameS t 0 (fun m σ2 => nameS t 0 (fun k σ3 => if m = k ∨ σ3.2.2.2 (36 + 6 * m + k).toNat ≠ 0 then badS (kF t σ2) σ3 else seqS (numS t 1 99) (setS (36 + 6 * m + k).toNat) σ3) σ2) (goS t σ)
def wmS (t : TXT) (j : Nat) (σ : PSt) : RES := if σ.2.2.2 j ≠ 0 then badS (kF t σ) σ else seqS (numS t 0 9) (setS j) (goS t σ)
def lineS (t : TXT) (σ : PSt) : RES :=
  if kK t σ = 2 ∧ keyS (kV t σ) = 0 then manS t σ else if kK t σ = 2 ∧ keyS (kV t σ) = 1 then forS t σ else if kK t σ = 2 ∧ keyS (kV t σ) = 2 then minS t σ else
  if kK t σ = 2 ∧ keyS (kV t σ) = 3 then gooS t σ else if kK t σ = 2 ∧ keyS (kV t σ) = 4 then oweS t σ else if kK t σ = 2 ∧ keyS (kV t σ) = 5 then wmS t 72 σ else if kK t σ = 2 ∧ keyS (kV t σ) = 6 then wmS t 73 σ else badS (kF t σ) σ
def endS (t : TXT) (σ : PSt) : RES := if kK t σ = 4 ∧ kV t σ = 59 then okS (goS t σ) else badS (kF t σ) σ
def oneS (t : TXT) : PSt → RES := seqS (lineS t) (endS t)
def allS (t : TXT) : Nat → Int → PSt → Int
  | 0, _, _ => -1000
  | Nat.succ k, n, σ => if kK t σ = 0 then n else if (oneS t σ).1 < 0 then allS t k (n + 1) (oneS t σ).2 else -1 - (oneS t σ).1
def st0 : PSt := (0, (fun _ => 0, (fun _ => 0, fun _ => 0)))
/-- what duchy() answers to a tape -/
def duS (u : Nat → Int) (n : Int) : Int := allS (u, (n, 900)) 1000 0 st0
/-! Rows for exact readings: frames of longs, int operations told, a letter behind a word, a digit behind a number. (g_or, g_shl, u_tn are the kit's rows to paste.) -/
theorem u_tn {n : Nat} (h : n < 2 ^ 64) : (UInt64.ofNat n).toNat = n := Nat.mod_eq_of_lt h
theorem g_or {k p a b : Nat} (hp : 2 ^ k = p) (ha : a < p) (h : b * p + a < 2 ^ 64) : lN (b * p) ||| lN a = lN (b * p + a) := by
  subst hp
  have h1 : b * 2 ^ k ||| a = b * 2 ^ k + a := by rw [← Nat.shiftLeft_eq, Nat.shiftLeft_add_eq_or_of_lt ha]
  have h3 : UInt64.ofNat (b * 2 ^ k) ||| UInt64.ofNat a = UInt64.ofNat (b * 2 ^ k + a) := UInt64.toNat_inj.mp (by rw [UInt64.toNat_or, u_tn (by omega), u_tn (by omega), u_tn h, h1])
  have h2 := congrArg UInt64.toInt64 h3
  exact h2
theorem g_shl {a k p : Nat} {y : Int64} (hy : y.toBitVec.smod 64 = BitVec.ofNat 64 k) (hk : k < 64) (hp : 2 ^ k = p) (ha : a < 2 ^ 64) : lN a <<< y = lN (a * p) := by
  subst hp
  apply Int64.toBitVec_inj.mp
  rw [Int64.toBitVec_shiftLeft, hy]
  apply BitVec.eq_of_toNat_eq
  have hb : (lN a).toBitVec.toNat = a := Nat.mod_eq_of_lt ha
  have hk' : (BitVec.ofNat 64 k).toNat = k := Nat.mod_eq_of_lt (by omega)
  have h : ((lN a).toBitVec <<< BitVec.ofNat 64 k).toNat = (a * 2 ^ k) % 2 ^ 64 := by simp only [BitVec.shiftLeft_eq', BitVec.toNat_shiftLeft, hb, hk', Nat.shiftLeft_eq]
  exact h
def LFr (ml : List (Nat × (Nat × Nat))) (M M' : JM) : Prop := ∀ c i : Nat, jin ml c i = false → M'.2 c i = M.2 c i
theorem LFr.rf (ml : List (Nat × (Nat × Nat))) (M : JM) : LFr ml M M := fun _ _ _ => rfl
theorem LFr.eq {ml : List (Nat × (Nat × Nat))} {M0 M M' : JM} (h : LFr ml M0 M) (q : ∀ c i, M'.2 c i = M.2 c i) : LFr ml M0 M' := fun c i hc => (q c i).trans (h c i hc)
theorem LFr.st {ml : List (Nat × (Nat × Nat))} {M0 M M' : JM} {c i : Nat} (h : LFr ml M0 M) (g : ∀ c' i', ¬ (c' = c ∧ i' = i) → M'.2 c' i' = M.2 c' i') (hj : jin ml c i = true) : LFr ml M0 M' := fun c' i' hc => by
  have hn : ¬ (c' = c ∧ i' = i) := fun e => by
    rw [e.1, e.2, hj] at hc
    cases hc
  exact (g c' i' hn).trans (h c' i' hc)
theorem LFr.tr {ml ml2 : List (Nat × (Nat × Nat))} {M0 M M' : JM} (h : LFr ml M0 M) (h2 : LFr ml2 M M') (hs : jsub ml2 ml = true) : LFr ml M0 M' := fun c i hc => by
  have : jin ml2 c i = false := by
    cases e : jin ml2 c i with
    | false => rfl
    | true => rw [jin_sub hs e] at hc; cases hc
  exact (h2 c i this).trans (h c i hc)
section EXA
variable {sh : List JS} {P : Nat → Option MR} {sc : Option (Nat × (Nat → Int))} {y pc : Nat} {ins : Instr} {F : JP} {mr : MR} {q : Nat × (Nat × Nat)} {L : JL} {r : List JV} {M : JM}
theorem jx_iope (c1 : jstC sh P sc y F) (hm : P y = some mr) {f : Int32 → Int32 → Int32} {a b : Int} (hp : pg mr.2.2.2.2.2.2 pc = some (some (ins, (1, q)))) (hf : jop ins = some f) (k : ∀ v : Int, -2147483648 ≤ v → v ≤ 2147483647 → v = (f (Int32.ofInt a) (Int32.ofInt b)).toInt → F (pc + 1) L (.inl v :: r) M) : F pc L (.inl b :: .inl a :: r) M := jx_iop c1 hm hp hf rfl (k _ (i32_lo _) (i32_hi _) rfl)
end EXA
theorem oI_n {z : Int} (h : 0 ≤ z) : Int32.ofInt z = nI z.toNat := by
  unfold nI
  rw [show z = ((z.toNat : Nat) : Int) by omega]
  rfl
theorem l_of {w : Int64} {z : Int} (h : w.toInt = z) (h0 : 0 ≤ z) (h1 : z < 9223372036854775808) : w = lN z.toNat := Int64.toInt_inj.mp (by rw [h, pk_lT (by omega)]; omega)
theorem lw_let {w w1 w2 w3 : Int64} {b z : Int} (e1 : w1 = w <<< ((Int32.ofInt 8).toInt64 &&& 63)) (e2 : w2 = (Int32.ofInt b).toInt64) (e3 : w3 = w1 ||| w2) (hz : w.toInt = z) (h0 : 0 ≤ z) (h1 : z < 281474976710656) (hb : 97 ≤ b ∧ b ≤ 122) : w3.toInt = 256 * z + b := by
  rw [e3, e1, e2, l_of hz h0 (by omega), oI_n (show 0 ≤ b by omega), nI_l (by omega), g_shl (k := 8) (p := 256) (by decide) (by decide) (by decide) (by omega), g_or (k := 8) (p := 256) (by decide) (by omega) (by omega), pk_lT (by omega)]
  omega
theorem iv_dig {a z1 z2 b z : Int} (e1 : z1 = (Int32.ofInt a * Int32.ofInt 10).toInt) (e2 : z2 = (Int32.ofInt z1 + Int32.ofInt (b - 48)).toInt) (ha : a = z) (h0 : 0 ≤ z) (h1 : z ≤ 999) (hb : 48 ≤ b ∧ b ≤ 57) : z2 = 10 * z + (b - 48) := by
  have hz1 : z1 = a * 10 := by rw [e1, jml (by omega) (by omega)]
  rw [e2, hz1, jad (by omega) (by omega)]
  omega
theorem chA_no {b : Int} (h : (b < 97 ∨ 122 < b) ∧ (b < 48 ∨ 57 < b) ∧ -128 ≤ b ∧ b ≤ 127) : chA (u8 b) = false := by
  cases q : chA (u8 b) with
  | false => rfl
  | true =>
    have := chA_iff.mp q
    unfold u8 at this
    split at this <;> omega
