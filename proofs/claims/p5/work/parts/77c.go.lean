/-! The reference's token at hand, as go() leaves it. -/
def RTk (M : JM) (t : TXT) (i : Int) : Prop := uR M = t.1 ∧ M.1 173 3 = t.2.1 ∧ M.1 173 4 = t.2.2 ∧ M.1 173 7 = tK t.1 t.2.1 t.2.2 i ∧ M.1 173 6 = tF t.1 t.2.1 t.2.2 i ∧ (2 ≤ tK t.1 t.2.1 t.2.2 i → M.1 173 5 = tE t.1 t.2.1 i) ∧ (tK t.1 t.2.1 t.2.2 i = 2 → (M.2 173 12).toInt = tV t.1 t.2.1 t.2.2 i) ∧ (tK t.1 t.2.1 t.2.2 i = 3 → M.1 173 8 = tV t.1 t.2.1 t.2.2 i) ∧ (tK t.1 t.2.1 t.2.2 i = 4 → M.1 173 9 = tV t.1 t.2.1 t.2.2 i)
abbrev txR (M : JM) : TXT := (uR M, (M.1 173 3, M.1 173 4))
theorem uR_at {M : JM} {j : Nat} (h : j < 940) : uR M j = M.1 174 j := if_pos h
/-- the loop over what is white -/
def SKR (M0 : JM) (p : Int) : Prop := M0.1 173 5 ≤ p ∧ (p ≤ M0.1 173 3 ∨ p = M0.1 173 5) ∧ ∀ j : Nat, M0.1 173 5 ≤ (j : Int) → (j : Int) < p → chW (uR M0 j) = true
theorem SKR.start {M0 : JM} : SKR M0 (M0.1 173 5) := ⟨Int.le_refl _, Or.inr rfl, fun j h1 h2 => by omega⟩
theorem SKR.st {M0 : JM} {p b : Int} (h : SKR M0 p) (h0 : 0 ≤ M0.1 173 5) (hn : M0.1 173 3 ≤ 940) (hp : p < M0.1 173 3) (hb : M0.1 174 p.toNat = b) (hw : b = 32 ∨ b = 10) : SKR M0 (p + 1) := by
  obtain ⟨h1, h2, h3⟩ := h
  refine ⟨by omega, Or.inl (by omega), fun j a1 a2 => ?_⟩
  by_cases he : (j : Int) = p
  · have e : j = p.toNat := by omega
    rw [e, uR_at (by omega), hb]
    exact chW_iff.mpr hw
  · exact h3 j a1 (by omega)
theorem SKR.run {M0 : JM} {p : Int} (h : SKR M0 p) (hs : p < M0.1 173 3 → chW (uR M0 p.toNat) = false) : RunP chW (uR M0) (M0.1 173 3) (M0.1 173 5) p := ⟨h.1, h.2.1, h.2.2, hs⟩
/-- the loop over a run -/
def GRI (u : Nat → Int) (n p : Int) (M : JM) (lt gd : Int) : Prop := ∃ k : Nat, M.1 173 5 = p + (k : Int) ∧ p + (k : Int) ≤ n ∧ (∀ j : Nat, p ≤ (j : Int) → (j : Int) < p + (k : Int) → chA (u j) = true) ∧ (gd = 1 ↔ (lt = 1 ∧ cnt chD u p k = 0) ∨ (lt = 0 ∧ cnt chL u p k = 0)) ∧ (k ≤ 7 → (M.2 173 12).toInt = wrS u p k) ∧ (k ≤ 3 → M.1 173 8 = nvS u p k)
theorem GRI.start {u : Nat → Int} {n p : Int} {M : JM} {lt : Int} (hl : lt = 0 ∨ lt = 1) (hp : p ≤ n) (h5 : M.1 173 5 = p) (hw : (M.2 173 12).toInt = 0) (hv : M.1 173 8 = 0) : GRI u n p M lt 1 := by
  refine ⟨0, by rw [h5]; exact (Int.add_zero _).symm, by have : ((0 : Nat) : Int) = 0 := rfl; omega, fun j h1 h2 => absurd h2 (by have : ((0 : Nat) : Int) = 0 := rfl; omega), ⟨fun _ => ?_, fun _ => rfl⟩, fun _ => hw, fun _ => hv⟩
  rcases hl with h | h
  · exact Or.inr ⟨h, rfl⟩
  · exact Or.inl ⟨h, rfl⟩
theorem GRI.st {u : Nat → Int} {n p : Int} {M M' : JM} {lt gd gd' c : Int} (h : GRI u n p M lt gd) (hp : 0 ≤ p) (hc : u (M.1 173 5).toNat = c) (hlt : M.1 173 5 < n) (ha : chA c = true) (h5 : M'.1 173 5 = M.1 173 5 + 1) (hg : gd' = 1 ↔ gd = 1 ∧ ((lt = 1 ∧ chL c = true) ∨ (lt = 0 ∧ chL c = false))) (hw : M.1 173 5 - p < 7 → (M'.2 173 12).toInt = 27 * (M.2 173 12).toInt + c - 96) (hv : M.1 173 5 - p < 3 → M'.1 173 8 = 10 * M.1 173 8 + c - 48) : GRI u n p M' lt gd' := by
  obtain ⟨k, e1, e2, e3, e4, e5, e6⟩ := h
  have hj : (p + (k : Int)).toNat = (M.1 173 5).toNat := by rw [e1]
  have hu : u (p + (k : Int)).toNat = c := by rw [hj, hc]
  have nD := cnt_nn chD u p k
  have nL := cnt_nn chL u p k
  have sD : cnt chD u p (k + 1) = cnt chD u p k + (if chD c = true then 1 else 0) := by
    show cnt chD u p k + _ = _
    rw [hu]
  have sL : cnt chL u p (k + 1) = cnt chL u p k + (if chL c = true then 1 else 0) := by
    show cnt chL u p k + _ = _
    rw [hu]
  have hx := chA_iff.mp ha
  have xD : chD c = true ↔ chL c = false := by
    cases hl : chL c with
    | true =>
      have := chL_iff.mp hl
      constructor
      · intro q
        have := chD_iff.mp q
        omega
      · intro q
        cases q
    | false =>
      refine ⟨fun _ => rfl, fun _ => chD_iff.mpr ?_⟩
      have : ¬ (97 ≤ c ∧ c ≤ 122) := fun q => by rw [chL_iff.mpr q] at hl; cases hl
      omega
  refine ⟨k + 1, by omega, by omega, fun j h1 h2 => ?_, ?_, fun hk => ?_, fun hk => ?_⟩
  · by_cases he : (j : Int) = p + (k : Int)
    · have : j = (p + (k : Int)).toNat := by omega
      rw [this, hu]
      exact ha
    · exact e3 j h1 (by omega)
  · rw [hg, e4]
    cases hl : chL c with
    | true =>
      have hd : chD c = false := by
        cases q : chD c with
        | false => rfl
        | true => rw [xD.mp q] at hl; cases hl
      have s1 : cnt chD u p (k + 1) = cnt chD u p k := by rw [sD, hd]; exact Int.add_zero _
      have s2 : cnt chL u p (k + 1) = cnt chL u p k + 1 := by rw [sL, hl]; rfl
      constructor
      · rintro ⟨a, b⟩
        have b1 : lt = 1 := by
          rcases b with ⟨b, _⟩ | ⟨_, b⟩
          · exact b
          · cases b
        refine Or.inl ⟨b1, ?_⟩
        rcases a with ⟨a1, a2⟩ | ⟨a1, a2⟩
        · rw [s1]; exact a2
        · rw [b1] at a1; cases a1
      · intro a
        have ha2 : lt = 1 ∧ cnt chD u p (k + 1) = 0 := by
          rcases a with a | ⟨a1, a2⟩
          · exact a
          · exfalso
            rw [s2] at a2
            omega
        exact ⟨Or.inl ⟨ha2.1, by rw [← s1]; exact ha2.2⟩, Or.inl ⟨ha2.1, rfl⟩⟩
    | false =>
      have hd : chD c = true := xD.mpr hl
      have s1 : cnt chL u p (k + 1) = cnt chL u p k := by rw [sL, hl]; exact Int.add_zero _
      have s2 : cnt chD u p (k + 1) = cnt chD u p k + 1 := by rw [sD, hd]; rfl
      constructor
      · rintro ⟨a, b⟩
        have b1 : lt = 0 := by
          rcases b with ⟨_, b⟩ | ⟨b, _⟩
          · cases b
          · exact b
        refine Or.inr ⟨b1, ?_⟩
        rcases a with ⟨a1, a2⟩ | ⟨a1, a2⟩
        · rw [b1] at a1; cases a1
        · rw [s1]; exact a2
      · intro a
        have ha2 : lt = 0 ∧ cnt chL u p (k + 1) = 0 := by
          rcases a with ⟨a1, a2⟩ | a
          · exfalso
            rw [s2] at a2
            omega
          · exact a
        exact ⟨Or.inr ⟨ha2.1, by rw [← s1]; exact ha2.2⟩, Or.inr ⟨ha2.1, rfl⟩⟩
  · show _ = 27 * wrS u p k + (u (p + (k : Int)).toNat - 96)
    rw [hw (by omega), e5 (by omega), hu]
    omega
  · show _ = 10 * nvS u p k + (u (p + (k : Int)).toNat - 48)
    rw [hv (by omega), e6 (by omega), hu]
    omega
section RX
variable {M0 M' : JM} {p : Int}
theorem rx_out (h : SKR M0 p) (h0 : 0 ≤ M0.1 173 5) (hm : M0.1 173 4 < M0.1 173 3) (hpm : M0.1 173 4 ≤ p) (hu : ∀ j, M'.1 174 j = M0.1 174 j) (e3 : M'.1 173 3 = M0.1 173 3) (e4 : M'.1 173 4 = M0.1 173 4) (e7 : M'.1 173 7 = 1) (e6 : M'.1 173 6 = M0.1 173 4) : RTk M' (txR M0) (M0.1 173 5) := by
  obtain ⟨hk, hf⟩ := tk_out (u := uR M0) (m := M0.1 173 4) h0 h.2.2 h.2.1 hm hpm
  have hk : tK (txR M0).1 (txR M0).2.1 (txR M0).2.2 (M0.1 173 5) = 1 := hk
  have hf : tF (txR M0).1 (txR M0).2.1 (txR M0).2.2 (M0.1 173 5) = M0.1 173 4 := hf
  refine ⟨uR_cg hu, e3, e4, by rw [hk, e7], by rw [hf, e6], fun h2 => by omega, fun h2 => by omega, fun h2 => by omega, fun h2 => by omega⟩
theorem rx_end (h : SKR M0 p) (h0 : 0 ≤ M0.1 173 5) (hp : M0.1 173 3 ≤ p) (hm : ¬ (M0.1 173 4 < M0.1 173 3 ∧ M0.1 173 4 ≤ p)) (hu : ∀ j, M'.1 174 j = M0.1 174 j) (e3 : M'.1 173 3 = M0.1 173 3) (e4 : M'.1 173 4 = M0.1 173 4) (e7 : M'.1 173 7 = 0) (e6 : M'.1 173 6 = p) : RTk M' (txR M0) (M0.1 173 5) := by
  obtain ⟨hk, hf⟩ := tk_end (u := uR M0) (m := M0.1 173 4) h0 (h.run (fun h9 => by omega)) hp hm
  have hk : tK (txR M0).1 (txR M0).2.1 (txR M0).2.2 (M0.1 173 5) = 0 := hk
  have hf : tF (txR M0).1 (txR M0).2.1 (txR M0).2.2 (M0.1 173 5) = p := hf
  refine ⟨uR_cg hu, e3, e4, by rw [hk, e7], by rw [hf, e6], fun h2 => by omega, fun h2 => by omega, fun h2 => by omega, fun h2 => by omega⟩
theorem rx_sign {c : Int} (h : SKR M0 p) (h0 : 0 ≤ M0.1 173 5) (hn : M0.1 173 3 ≤ 940) (hp : p < M0.1 173 3) (hm : ¬ (M0.1 173 4 < M0.1 173 3 ∧ M0.1 173 4 ≤ p)) (hb : M0.1 174 p.toNat = c) (hs : chW c = false) (hc : chA c = false) (hu : ∀ j, M'.1 174 j = M0.1 174 j) (e3 : M'.1 173 3 = M0.1 173 3) (e4 : M'.1 173 4 = M0.1 173 4) (e7 : M'.1 173 7 = (if chS c = true then 4 else 1)) (e6 : M'.1 173 6 = p) (e5 : M'.1 173 5 = p + 1) (e9 : M'.1 173 9 = c) : RTk M' (txR M0) (M0.1 173 5) := by
  have hp0 := h.1
  have hub : uR M0 p.toNat = c := by rw [uR_at (by omega), hb]
  obtain ⟨hk, hf, he, hv⟩ := tk_sign (u := uR M0) (m := M0.1 173 4) h0 (h.run (fun _ => by rw [hub]; exact hs)) hp hm (by rw [hub]; exact hc)
  rw [hub] at hk hv
  have hk : tK (txR M0).1 (txR M0).2.1 (txR M0).2.2 (M0.1 173 5) = (if chS c = true then 4 else 1) := hk
  have hK : tK (txR M0).1 (txR M0).2.1 (txR M0).2.2 (M0.1 173 5) = 4 ∨ tK (txR M0).1 (txR M0).2.1 (txR M0).2.2 (M0.1 173 5) = 1 := by
    rw [hk]
    split
    · exact Or.inl rfl
    · exact Or.inr rfl
  have hf : tF (txR M0).1 (txR M0).2.1 (txR M0).2.2 (M0.1 173 5) = p := hf
  have he : tE (txR M0).1 (txR M0).2.1 (M0.1 173 5) = p + 1 := he
  exact ⟨uR_cg hu, e3, e4, by rw [hk, e7], by rw [hf, e6], fun _ => by rw [he, e5], fun h2 => by omega, fun h2 => by omega, fun h2 => by rw [e9]; exact (hv h2).symm⟩
theorem rx_run {M : JM} {lt gd : Int} (h : SKR M0 p) (h0 : 0 ≤ M0.1 173 5) (hp : p < M0.1 173 3) (hm : ¬ (M0.1 173 4 < M0.1 173 3 ∧ M0.1 173 4 ≤ p)) (hs : chW (uR M0 p.toNat) = false) (hl : lt = 1 ∧ chL (uR M0 p.toNat) = true ∨ lt = 0 ∧ chL (uR M0 p.toNat) = false ∧ chD (uR M0 p.toNat) = true) (hr : GRI (uR M0) (M0.1 173 3) p M lt gd) (hst : M.1 173 5 < M0.1 173 3 → chA (uR M0 (M.1 173 5).toNat) = false) (hu : ∀ j, M'.1 174 j = M0.1 174 j) (e3 : M'.1 173 3 = M0.1 173 3) (e4 : M'.1 173 4 = M0.1 173 4) (e5 : M'.1 173 5 = M.1 173 5) (e6 : M'.1 173 6 = p) (e8 : M'.1 173 8 = M.1 173 8) (e12 : M'.2 173 12 = M.2 173 12) (e7 : (M'.1 173 7 = 1 ∧ (gd ≠ 1 ∨ (lt = 1 ∧ 7 < M.1 173 5 - p) ∨ (lt = 0 ∧ 3 < M.1 173 5 - p))) ∨ (M'.1 173 7 = 2 ∧ gd = 1 ∧ lt = 1 ∧ M.1 173 5 - p ≤ 7) ∨ (M'.1 173 7 = 3 ∧ gd = 1 ∧ lt = 0 ∧ M.1 173 5 - p ≤ 3)) : RTk M' (txR M0) (M0.1 173 5) := by
  obtain ⟨k, a1, a2, a3, a4, a5, a6⟩ := hr
  have hp0 := h.1
  have hk0 : 0 < k := by
    rcases Nat.eq_zero_or_pos k with q | q
    · exfalso
      subst q
      have hx : M.1 173 5 = p := by rw [a1]; exact Int.add_zero _
      have hy := hst (by omega)
      rw [hx] at hy
      unfold chA at hy
      rcases hl with ⟨_, q1⟩ | ⟨_, _, q1⟩
      · rw [q1] at hy
        cases hy
      · rw [q1, Bool.or_true] at hy
        cases hy
    · exact q
  have hrun : RunP chA (uR M0) (M0.1 173 3) p (p + (k : Int)) := ⟨by omega, Or.inl a2, a3, fun q => by have := hst (by omega); rw [a1] at this; exact this⟩
  have hsum := cnt_sum (uR M0) p (by omega) k a3
  have nD := cnt_nn chD (uR M0) p k
  have nL := cnt_nn chL (uR M0) p k
  -- what the first one is tells which count isn't none
  have hfst : (lt = 1 → 0 < cnt chL (uR M0) p k) ∧ (lt = 0 → 0 < cnt chD (uR M0) p k) := by
    have g : ∀ (q : Int → Bool), q (uR M0 p.toNat) = true → ∀ m : Nat, 0 < m → 0 < cnt q (uR M0) p m := by
      intro q hq m
      induction m with
      | zero => intro h9; omega
      | succ m ih =>
        intro _
        have hb := cnt_nn q (uR M0) p m
        unfold cnt
        rcases Nat.eq_zero_or_pos m with e | e
        · subst e
          rw [show (p + ((0 : Nat) : Int)).toNat = p.toNat by have : ((0 : Nat) : Int) = 0 := rfl; omega, if_pos hq]
          omega
        · have := ih e
          split <;> omega
    constructor
    · intro q
      rcases hl with ⟨_, q1⟩ | ⟨q1, _⟩
      · exact g chL q1 k hk0
      · omega
    · intro q
      rcases hl with ⟨q1, _⟩ | ⟨_, _, q1⟩
      · omega
      · exact g chD q1 k hk0
  have hlt : lt = 0 ∨ lt = 1 := by
    rcases hl with ⟨q, _⟩ | ⟨q, _⟩
    · exact Or.inr q
    · exact Or.inl q
  obtain ⟨hk, hf, he, hv2, hv3⟩ := tk_run (u := uR M0) (m := M0.1 173 4) (q := p + (k : Int)) h0 (h.run (fun _ => hs)) hp hm hrun (by omega)
  have ek : (p + (k : Int) - p).toNat = k := by omega
  have ek2 : p + (k : Int) - p = (k : Int) := by omega
  rw [ek, ek2] at hk
  rw [ek] at hv2 hv3
  have hkk : M'.1 173 7 = tK (uR M0) (M0.1 173 3) (M0.1 173 4) (M0.1 173 5) := by
    rw [hk]
    by_cases c1 : cnt chD (uR M0) p k = 0
    · rw [if_pos c1]
      by_cases c2 : (k : Int) ≤ 7
      · rw [if_pos c2]
        omega
      · rw [if_neg c2]
        omega
    · rw [if_neg c1]
      by_cases c2 : cnt chL (uR M0) p k = 0 ∧ (k : Int) ≤ 3
      · rw [if_pos c2]
        omega
      · rw [if_neg c2]
        omega
  have hf : tF (txR M0).1 (txR M0).2.1 (txR M0).2.2 (M0.1 173 5) = p := hf
  have he : tE (txR M0).1 (txR M0).2.1 (M0.1 173 5) = p + (k : Int) := he
  refine ⟨uR_cg hu, e3, e4, hkk, by rw [hf, e6], fun _ => by rw [he, e5, a1], fun h2 => ?_, fun h2 => ?_, fun h2 => ?_⟩
  · have h2 : tK (uR M0) (M0.1 173 3) (M0.1 173 4) (M0.1 173 5) = 2 := h2
    show _ = tV (uR M0) (M0.1 173 3) (M0.1 173 4) (M0.1 173 5)
    rw [hv2 h2, e12]
    exact a5 (by omega)
  · have h2 : tK (uR M0) (M0.1 173 3) (M0.1 173 4) (M0.1 173 5) = 3 := h2
    show _ = tV (uR M0) (M0.1 173 3) (M0.1 173 4) (M0.1 173 5)
    rw [hv3 h2, e8]
    exact a6 (by omega)
  · have h2 : tK (uR M0) (M0.1 173 3) (M0.1 173 4) (M0.1 173 5) = 4 := h2
    omega
end RX
