/-! The class's tokens: a run of letters and digits. -/
def uC (M : JM) : Nat → Int := fun j => if j < 940 then u8 (M.1 2 j) else 0
def uR (M : JM) : Nat → Int := fun j => if j < 940 then M.1 174 j else 0
theorem uC_at {M : JM} {j : Nat} (h : j < 940) : uC M j = u8 (M.1 2 j) := if_pos h
theorem uC_cg {M M' : JM} (h : ∀ j, M'.1 2 j = M.1 2 j) : uC M' = uC M := funext fun j => by
  unfold uC
  rw [h]
theorem uR_cg {M M' : JM} (h : ∀ j, M'.1 174 j = M.1 174 j) : uR M' = uR M := funext fun j => by
  unfold uR
  rw [h]
theorem wc_b (u : Nat → Int) (a : Int) (ha : 0 ≤ a) : ∀ k : Nat, k ≤ 6 → (∀ j : Nat, a ≤ (j : Int) → (j : Int) < a + (k : Int) → 0 ≤ u j ∧ u j ≤ 255) → 0 ≤ wcS u a k ∧ wcS u a k < ([1, 256, 65536, 16777216, 4294967296, 1099511627776, 281474976710656] : List Int).getD k 0
  | 0, _, _ => by
    show (0 : Int) ≤ 0 ∧ (0 : Int) < 1
    omega
  | k + 1, hk, h => by
    have ih := wc_b u a ha k (by omega) (fun j h1 h2 => h j h1 (by omega))
    have hc := h (a + (k : Int)).toNat (by omega) (by omega)
    have hg : 256 * ([1, 256, 65536, 16777216, 4294967296, 1099511627776, 281474976710656] : List Int).getD k 0 = ([1, 256, 65536, 16777216, 4294967296, 1099511627776, 281474976710656] : List Int).getD (k + 1) 0 := by
      rcases k with _ | _ | _ | _ | _ | _ | k
      · rfl
      · rfl
      · rfl
      · rfl
      · rfl
      · rfl
      · omega
    rw [← hg]
    unfold wcS
    omega
theorem wc_lt (u : Nat → Int) (a : Int) (ha : 0 ≤ a) (k : Nat) (hk : k ≤ 6) (h : ∀ j : Nat, a ≤ (j : Int) → (j : Int) < a + (k : Int) → 0 ≤ u j ∧ u j ≤ 255) : 0 ≤ wcS u a k ∧ wcS u a k < 281474976710656 := by
  have hb := wc_b u a ha k hk h
  have hg : ([1, 256, 65536, 16777216, 4294967296, 1099511627776, 281474976710656] : List Int).getD k 0 ≤ 281474976710656 := by
    rcases k with _ | _ | _ | _ | _ | _ | _ | k
    · decide
    · decide
    · decide
    · decide
    · decide
    · decide
    · decide
    · omega
  omega
def RRI (M0 M : JM) (l d : Int) : Prop := ∃ k : Nat, M.1 1 4 = M0.1 1 4 + (k : Int) ∧ (M.1 1 4 ≤ M0.1 1 2 ∨ k = 0) ∧ (∀ j : Nat, M0.1 1 4 ≤ (j : Int) → (j : Int) < M0.1 1 4 + (k : Int) → chA (uC M0 j) = true) ∧ l = cnt chL (uC M0) (M0.1 1 4) k ∧ d = cnt chD (uC M0) (M0.1 1 4) k ∧ (d = 0 → k ≤ 7 → (M.2 1 8).toInt = wcS (uC M0) (M0.1 1 4) k) ∧ (l = 0 → k ≤ 3 → M.1 1 9 = nvS (uC M0) (M0.1 1 4) k)
theorem RRI.start {M0 M : JM} (h4 : M.1 1 4 = M0.1 1 4) (h9 : M.1 1 9 = 0) (h8 : (M.2 1 8).toInt = 0) : RRI M0 M 0 0 := ⟨0, by rw [h4]; exact (Int.add_zero _).symm, Or.inr rfl, fun j h1 h2 => absurd h2 (by have : ((0 : Nat) : Int) = 0 := rfl; omega), rfl, rfl, fun _ _ => h8, fun _ _ => h9⟩
theorem RRI.lett {M0 M M' : JM} {l d b : Int} (h : RRI M0 M l d) (h0 : 0 ≤ M0.1 1 4) (hn : M0.1 1 2 ≤ 940) (hat : M.1 1 4 < M0.1 1 2) (hb : M0.1 2 (M.1 1 4).toNat = b) (hl : 97 ≤ b ∧ b ≤ 122) (h4 : M'.1 1 4 = M.1 1 4 + 1) (hw : ∀ z : Int, (M.2 1 8).toInt = z → 0 ≤ z → z < 281474976710656 → (M'.2 1 8).toInt = 256 * z + b) : RRI M0 M' (l + 1) d := by
  obtain ⟨k, e1, e2, e3, e4, e5, e6, e7⟩ := h
  have hj : (M0.1 1 4 + (k : Int)).toNat = (M.1 1 4).toNat := by rw [e1]
  have hu : uC M0 (M0.1 1 4 + (k : Int)).toNat = b := by
    rw [hj, uC_at (by omega), hb]
    unfold u8
    rw [if_neg (by omega)]
  have hcl : chL (uC M0 (M0.1 1 4 + (k : Int)).toNat) = true := by rw [hu]; exact chL_iff.mpr hl
  have hcd : ¬ chD (uC M0 (M0.1 1 4 + (k : Int)).toNat) = true := by
    rw [hu, chD_iff]
    omega
  refine ⟨k + 1, by omega, Or.inl (by omega), fun j h1 h2 => ?_, ?_, ?_, fun hd hk => ?_, fun hl0 _ => ?_⟩
  · by_cases he : (j : Int) = M0.1 1 4 + (k : Int)
    · have : j = (M0.1 1 4 + (k : Int)).toNat := by omega
      rw [this]
      unfold chA
      rw [hcl]
      rfl
    · exact e3 j h1 (by omega)
  · show l + 1 = cnt chL (uC M0) (M0.1 1 4) k + _
    rw [if_pos hcl, e4]
  · show d = cnt chD (uC M0) (M0.1 1 4) k + _
    rw [if_neg hcd, e5]
    omega
  · have hz := e6 hd (by omega)
    have hr := wc_lt (uC M0) (M0.1 1 4) h0 k (by omega) (fun j h1 h2 => by have := chA_iff.mp (e3 j h1 h2); omega)
    show _ = 256 * wcS (uC M0) (M0.1 1 4) k + uC M0 (M0.1 1 4 + (k : Int)).toNat
    rw [hu]
    exact hw _ hz hr.1 hr.2
  · have := cnt_nn chL (uC M0) (M0.1 1 4) k
    omega
theorem RRI.digt {M0 M M' : JM} {l d b : Int} (h : RRI M0 M l d) (h0 : 0 ≤ M0.1 1 4) (hn : M0.1 1 2 ≤ 940) (hat : M.1 1 4 < M0.1 1 2) (hb : M0.1 2 (M.1 1 4).toNat = b) (hl : 48 ≤ b ∧ b ≤ 57) (h4 : M'.1 1 4 = M.1 1 4 + 1) (hv : ∀ z : Int, M.1 1 9 = z → 0 ≤ z → z ≤ 999 → M'.1 1 9 = 10 * z + (b - 48)) : RRI M0 M' l (d + 1) := by
  obtain ⟨k, e1, e2, e3, e4, e5, e6, e7⟩ := h
  have hj : (M0.1 1 4 + (k : Int)).toNat = (M.1 1 4).toNat := by rw [e1]
  have hu : uC M0 (M0.1 1 4 + (k : Int)).toNat = b := by
    rw [hj, uC_at (by omega), hb]
    unfold u8
    rw [if_neg (by omega)]
  have hcd : chD (uC M0 (M0.1 1 4 + (k : Int)).toNat) = true := by rw [hu]; exact chD_iff.mpr hl
  have hcl : ¬ chL (uC M0 (M0.1 1 4 + (k : Int)).toNat) = true := by
    rw [hu, chL_iff]
    omega
  have hcn := cnt_nn chD (uC M0) (M0.1 1 4) k
  refine ⟨k + 1, by omega, Or.inl (by omega), fun j h1 h2 => ?_, ?_, ?_, fun hd _ => ?_, fun hl0 hk => ?_⟩
  · by_cases he : (j : Int) = M0.1 1 4 + (k : Int)
    · have : j = (M0.1 1 4 + (k : Int)).toNat := by omega
      rw [this]
      unfold chA
      rw [hcd, Bool.or_true]
    · exact e3 j h1 (by omega)
  · show l = cnt chL (uC M0) (M0.1 1 4) k + _
    rw [if_neg hcl, e4]
    omega
  · show d + 1 = cnt chD (uC M0) (M0.1 1 4) k + _
    rw [if_pos hcd, e5]
  · omega
  · have hz := e7 hl0 (by omega)
    have hsum := cnt_sum (uC M0) (M0.1 1 4) h0 k e3
    have hall := cnt_all (p := chD) (u := uC M0) (a := M0.1 1 4) h0 (k := k) (by omega)
    have hr := nvS_ok (uC M0) (M0.1 1 4) h0 k (by omega) hall
    show _ = 10 * nvS (uC M0) (M0.1 1 4) k + (uC M0 (M0.1 1 4 + (k : Int)).toNat - 48)
    rw [hu]
    exact hv _ hz hr.1 hr.2
/-- what readRun leaves -/
def RRP (M0 M' : JM) : Prop := ∃ k : Nat, M'.1 1 4 = M0.1 1 4 + (k : Int) ∧ RunP chA (uC M0) (M0.1 1 2) (M0.1 1 4) (M0.1 1 4 + (k : Int)) ∧ M'.1 1 6 = (if cnt chD (uC M0) (M0.1 1 4) k = 0 then (if (k : Int) ≤ 7 then 1 else 4) else if cnt chL (uC M0) (M0.1 1 4) k = 0 ∧ (k : Int) ≤ 3 then 2 else 4) ∧ (cnt chD (uC M0) (M0.1 1 4) k = 0 → k ≤ 7 → (M'.2 1 8).toInt = wcS (uC M0) (M0.1 1 4) k) ∧ (cnt chL (uC M0) (M0.1 1 4) k = 0 → k ≤ 3 → M'.1 1 9 = nvS (uC M0) (M0.1 1 4) k)
theorem RRI.fin {M0 M M' : JM} {l d kd : Int} (h : RRI M0 M l d) (h0 : 0 ≤ M0.1 1 4) (hs : M.1 1 4 < M0.1 1 2 → chA (uC M0 (M.1 1 4).toNat) = false) (h4 : M'.1 1 4 = M.1 1 4) (h9 : M'.1 1 9 = M.1 1 9) (h8 : M'.2 1 8 = M.2 1 8) (h6 : M'.1 1 6 = kd) (hk : (d = 0 ∧ l ≤ 7 ∧ kd = 1) ∨ (d = 0 ∧ 7 < l ∧ kd = 4) ∨ (d ≠ 0 ∧ l = 0 ∧ d ≤ 3 ∧ kd = 2) ∨ (d ≠ 0 ∧ (l ≠ 0 ∨ 3 < d) ∧ kd = 4)) : RRP M0 M' := by
  obtain ⟨k, e1, e2, e3, e4, e5, e6, e7⟩ := h
  have hsum := cnt_sum (uC M0) (M0.1 1 4) h0 k e3
  refine ⟨k, by rw [h4, e1], ⟨by omega, ?_, e3, fun hlt => ?_⟩, ?_, fun hd hk7 => ?_, fun hl hk3 => ?_⟩
  · rcases e2 with e2 | e2
    · exact Or.inl (by omega)
    · exact Or.inr (by rw [e2]; exact Int.add_zero _)
  · have := hs (by omega)
    rw [e1] at this
    exact this
  · rw [h6]
    rcases hk with ⟨a1, a2, a3⟩ | ⟨a1, a2, a3⟩ | ⟨a1, a2, a3, a4⟩ | ⟨a1, a2, a3⟩
    · rw [if_pos (by omega), if_pos (by omega), a3]
    · rw [if_pos (by omega), if_neg (by omega), a3]
    · rw [if_neg (by omega), if_pos ⟨by omega, by omega⟩, a4]
    · rw [if_neg (by omega), if_neg (by omega), a3]
  · rw [h8]
    exact e6 (by omega) hk7
  · rw [h9]
    exact e7 (by omega) hk3
/-! The key words. -/
def wokB : Nat → Int → Bool
  | 0, r => decide (r = 0)
  | Nat.succ k, r => decide (r = 0) || (decide (0 < r) && (decide (r % 27 ≠ 0) && wokB k (r / 27)))
theorem wokB_ok : ∀ {k : Nat} {r : Int}, wokB k r = true → wok k r
  | 0, r, h => by
    have h : decide (r = 0) = true := h
    show r = 0
    exact of_decide_eq_true h
  | k + 1, r, h => by
    unfold wokB at h
    simp only [Bool.or_eq_true, Bool.and_eq_true, decide_eq_true_eq] at h
    rcases h with h | ⟨h1, h2, h3⟩
    · exact Or.inl h
    · exact Or.inr ⟨r / 27, r % 27, wokB_ok h3, by omega, by omega, by omega⟩
def kwB : Bool := (List.range 24).all (fun i => wokB 7 (kwR.getD i 0) && decide ((kwL i).toInt = cw (kwR.getD i 0)))
theorem kwB_ok : kwB = true := by decide +kernel
theorem kw_at {i : Nat} (h : i < 24) : wok 7 (kwR.getD i 0) ∧ (kwL i).toInt = cw (kwR.getD i 0) := by
  have h1 := List.all_eq_true.mp kwB_ok i (List.mem_range.mpr h)
  simp only [Bool.and_eq_true, decide_eq_true_eq] at h1
  exact ⟨wokB_ok h1.1, h1.2⟩
theorem kw_eq {i : Nat} {r : Int} {w : Int64} (h : i < 24) (hr : wok 7 r) (hw : w.toInt = cw r) : kwL i = w ↔ kwR.getD i 0 = r := by
  obtain ⟨h1, h2⟩ := kw_at h
  constructor
  · intro e
    refine cw_inj (k := 7) (Nat.le_refl _) h1 hr ?_
    rw [← h2, ← hw, e]
  · intro e
    refine Int64.toInt_inj.mp ?_
    rw [h2, hw, e]
theorem keyN_up {r : Int} {k : Nat} (h : 0 ≤ keyN r k) : ∀ m : Nat, keyN r (k + m) = keyN r k
  | 0 => rfl
  | m + 1 => by
    have ih := keyN_up h m
    have e : keyN r (k + (m + 1)) = if 0 ≤ keyN r (k + m) then keyN r (k + m) else if kwR.getD (k + m) 0 = r then ((k + m : Nat) : Int) else -1 := rfl
    rw [e, ih, if_pos h]
theorem keyN_st {r : Int} {k : Nat} (h : keyN r k = -1) : keyN r (k + 1) = if kwR.getD k 0 = r then (k : Int) else -1 := by
  show (if 0 ≤ keyN r k then keyN r k else if kwR.getD k 0 = r then (k : Int) else -1) = _
  rw [h]
  rfl
/-- the loop of keyOf has come to i -/
def KYI (w : Int64) (i : Int) : Prop := ∀ r : Int, wok 7 r → w.toInt = cw r → keyN r i.toNat = -1
theorem KYI.start {w : Int64} : KYI w 0 := fun _ _ _ => rfl
theorem KYI.st {w : Int64} {i : Int} (h : KYI w i) (hi : 0 ≤ i ∧ i < 24) (hw : kwL i.toNat ≠ w) : KYI w (i + 1) := fun r h1 h2 => by
  rw [show (i + 1).toNat = i.toNat + 1 by omega, keyN_st (h r h1 h2), if_neg (fun e => hw ((kw_eq (by omega) h1 h2).mpr e))]
theorem KYI.hit {w : Int64} {i : Int} (h : KYI w i) (hi : 0 ≤ i ∧ i < 24) (hw : kwL i.toNat = w) : ∀ r : Int, wok 7 r → w.toInt = cw r → i = keyS r := fun r h1 h2 => by
  have e := keyN_st (h r h1 h2)
  rw [if_pos ((kw_eq (by omega) h1 h2).mp hw)] at e
  have e2 := keyN_up (r := r) (k := i.toNat + 1) (by omega) (23 - i.toNat)
  unfold keyS
  rw [show i.toNat + 1 + (23 - i.toNat) = 24 by omega] at e2
  rw [e2, e]
  omega
theorem KYI.none {w : Int64} {i : Int} (h : KYI w i) (hi : i = 24) : ∀ r : Int, wok 7 r → w.toInt = cw r → -1 = keyS r := fun r h1 h2 => by
  have := h r h1 h2
  rw [hi] at this
  exact this.symm
/-! The class's token at hand, as next() leaves it. -/
def kC (k : Int) : Int := if k = 0 then 0 else if k = 1 then 4 else k - 1
def CTk (M : JM) (t : TXT) (i : Int) : Prop := uC M = t.1 ∧ M.1 1 2 = t.2.1 ∧ M.1 1 3 = t.2.2 ∧ M.1 1 6 = kC (tK t.1 t.2.1 t.2.2 i) ∧ M.1 1 5 = tF t.1 t.2.1 t.2.2 i ∧ M.1 1 7 = (if tK t.1 t.2.1 t.2.2 i = 2 then keyS (tV t.1 t.2.1 t.2.2 i) else -1) ∧ (2 ≤ tK t.1 t.2.1 t.2.2 i → M.1 1 4 = tE t.1 t.2.1 i) ∧ (tK t.1 t.2.1 t.2.2 i = 2 → (M.2 1 8).toInt = cw (tV t.1 t.2.1 t.2.2 i)) ∧ (3 ≤ tK t.1 t.2.1 t.2.2 i → M.1 1 9 = tV t.1 t.2.1 t.2.2 i)
abbrev txC (M : JM) : TXT := (uC M, (M.1 1 2, M.1 1 3))
/-- the loop over what is white -/
def SKI (M0 : JM) (p : Int) : Prop := M0.1 1 4 ≤ p ∧ (p ≤ M0.1 1 2 ∨ p = M0.1 1 4) ∧ ∀ j : Nat, M0.1 1 4 ≤ (j : Int) → (j : Int) < p → chW (uC M0 j) = true
theorem SKI.start {M0 : JM} : SKI M0 (M0.1 1 4) := ⟨Int.le_refl _, Or.inr rfl, fun j h1 h2 => by omega⟩
theorem SKI.st {M0 : JM} {p b : Int} (h : SKI M0 p) (h0 : 0 ≤ M0.1 1 4) (hn : M0.1 1 2 ≤ 940) (hp : p < M0.1 1 2) (hb : M0.1 2 p.toNat = b) (hw : b = 32 ∨ b = 10) : SKI M0 (p + 1) := by
  obtain ⟨h1, h2, h3⟩ := h
  refine ⟨by omega, Or.inl (by omega), fun j a1 a2 => ?_⟩
  by_cases he : (j : Int) = p
  · have e : j = p.toNat := by omega
    rw [e, uC_at (by omega), hb]
    unfold u8
    rw [if_neg (by omega)]
    exact chW_iff.mpr hw
  · exact h3 j a1 (by omega)
theorem SKI.run {M0 : JM} {p : Int} (h : SKI M0 p) (hs : p < M0.1 1 2 → chW (uC M0 p.toNat) = false) : RunP chW (uC M0) (M0.1 1 2) (M0.1 1 4) p := ⟨h.1, h.2.1, h.2.2, hs⟩
theorem SKI.cg {M0 : JM} {p p' : Int} (h : SKI M0 p) (e : p = p') : SKI M0 p' := e ▸ h
theorem chW_no {b : Int} (h : b ≠ 32 ∧ b ≠ 10 ∧ -128 ≤ b ∧ b ≤ 127) : chW (u8 b) = false := by
  cases q : chW (u8 b) with
  | false => rfl
  | true =>
    have := chW_iff.mp q
    unfold u8 at this
    split at this <;> omega
/-- what readSign leaves -/
def RSP (M0 M' : JM) : Prop := M'.1 1 4 = M0.1 1 4 + 1 ∧ M'.1 1 9 = M0.1 2 (M0.1 1 4).toNat ∧ M'.1 1 6 = (if M0.1 2 (M0.1 1 4).toNat = 59 ∨ M0.1 2 (M0.1 1 4).toNat = 60 ∨ M0.1 2 (M0.1 1 4).toNat = 61 ∨ M0.1 2 (M0.1 1 4).toNat = 62 ∨ M0.1 2 (M0.1 1 4).toNat = 40 ∨ M0.1 2 (M0.1 1 4).toNat = 41 then 3 else 4)
theorem RSP.mk {M0 M' : JM} {z1 b kd : Int} (h4 : M0.1 1 4 = z1) (hb : M0.1 2 z1.toNat = b) (a4 : M'.1 1 4 = z1 + 1) (a9 : M'.1 1 9 = b) (a6 : M'.1 1 6 = kd) (hk : (kd = 3 ∧ (b = 59 ∨ b = 60 ∨ b = 61 ∨ b = 62 ∨ b = 40 ∨ b = 41)) ∨ (kd = 4 ∧ ¬ (b = 59 ∨ b = 60 ∨ b = 61 ∨ b = 62 ∨ b = 40 ∨ b = 41))) : RSP M0 M' := by
  unfold RSP
  rw [h4, hb]
  refine ⟨a4, a9, ?_⟩
  rw [a6]
  rcases hk with ⟨q1, q2⟩ | ⟨q1, q2⟩
  · rw [if_pos q2, q1]
  · rw [if_neg q2, q1]
section NX
variable {M0 M' : JM} {p : Int}
theorem nx_out (h : SKI M0 p) (h0 : 0 ≤ M0.1 1 4) (hm : M0.1 1 3 < M0.1 1 2) (hpm : M0.1 1 3 ≤ p) (hu : ∀ j, M'.1 2 j = M0.1 2 j) (e2 : M'.1 1 2 = M0.1 1 2) (e3 : M'.1 1 3 = M0.1 1 3) (e6 : M'.1 1 6 = 4) (e5 : M'.1 1 5 = M0.1 1 3) (e7 : M'.1 1 7 = -1) : CTk M' (txC M0) (M0.1 1 4) := by
  obtain ⟨hk, hf⟩ := tk_out (u := uC M0) (m := M0.1 1 3) h0 h.2.2 h.2.1 hm hpm
  refine ⟨uC_cg hu, e2, e3, ?_, ?_, ?_, fun h2 => ?_, fun h2 => ?_, fun h2 => ?_⟩
  · show _ = kC (tK (uC M0) (M0.1 1 2) (M0.1 1 3) (M0.1 1 4))
    rw [hk, e6]
    rfl
  · show _ = tF (uC M0) (M0.1 1 2) (M0.1 1 3) (M0.1 1 4)
    rw [hf, e5]
  · show _ = (if tK (uC M0) (M0.1 1 2) (M0.1 1 3) (M0.1 1 4) = 2 then _ else _)
    rw [hk, e7]
    rfl
  · have h2 : 2 ≤ tK (uC M0) (M0.1 1 2) (M0.1 1 3) (M0.1 1 4) := h2
    omega
  · have h2 : tK (uC M0) (M0.1 1 2) (M0.1 1 3) (M0.1 1 4) = 2 := h2
    omega
  · have h2 : 3 ≤ tK (uC M0) (M0.1 1 2) (M0.1 1 3) (M0.1 1 4) := h2
    omega
theorem nx_end (h : SKI M0 p) (h0 : 0 ≤ M0.1 1 4) (hi : M0.1 1 4 ≤ M0.1 1 2) (hp : M0.1 1 2 ≤ p) (hm : ¬ (M0.1 1 3 < M0.1 1 2 ∧ M0.1 1 3 ≤ p)) (hu : ∀ j, M'.1 2 j = M0.1 2 j) (e2 : M'.1 1 2 = M0.1 1 2) (e3 : M'.1 1 3 = M0.1 1 3) (e6 : M'.1 1 6 = 0) (e5 : M'.1 1 5 = M0.1 1 2) (e7 : M'.1 1 7 = -1) : CTk M' (txC M0) (M0.1 1 4) := by
  obtain ⟨hk, hf⟩ := tk_end (u := uC M0) (m := M0.1 1 3) h0 (h.run (fun h9 => by omega)) hp hm
  have hpn : p = M0.1 1 2 := by
    have := h.2.1
    omega
  refine ⟨uC_cg hu, e2, e3, ?_, ?_, ?_, fun h2 => ?_, fun h2 => ?_, fun h2 => ?_⟩
  · show _ = kC (tK (uC M0) (M0.1 1 2) (M0.1 1 3) (M0.1 1 4))
    rw [hk, e6]
    rfl
  · show _ = tF (uC M0) (M0.1 1 2) (M0.1 1 3) (M0.1 1 4)
    rw [hf, e5, hpn]
  · show _ = (if tK (uC M0) (M0.1 1 2) (M0.1 1 3) (M0.1 1 4) = 2 then _ else _)
    rw [hk, e7]
    rfl
  · have h2 : 2 ≤ tK (uC M0) (M0.1 1 2) (M0.1 1 3) (M0.1 1 4) := h2
    omega
  · have h2 : tK (uC M0) (M0.1 1 2) (M0.1 1 3) (M0.1 1 4) = 2 := h2
    omega
  · have h2 : 3 ≤ tK (uC M0) (M0.1 1 2) (M0.1 1 3) (M0.1 1 4) := h2
    omega
theorem nx_sign {b : Int} (h : SKI M0 p) (h0 : 0 ≤ M0.1 1 4) (hn : M0.1 1 2 ≤ 940) (hp : p < M0.1 1 2) (hm : ¬ (M0.1 1 3 < M0.1 1 2 ∧ M0.1 1 3 ≤ p)) (hs : chW (uC M0 p.toNat) = false) (hb : M0.1 2 p.toNat = b) (hbb : -128 ≤ b ∧ b ≤ 127) (hc : chA (uC M0 p.toNat) = false) (hu : ∀ j, M'.1 2 j = M0.1 2 j) (e2 : M'.1 1 2 = M0.1 1 2) (e3 : M'.1 1 3 = M0.1 1 3) (e6 : M'.1 1 6 = (if b = 59 ∨ b = 60 ∨ b = 61 ∨ b = 62 ∨ b = 40 ∨ b = 41 then 3 else 4)) (e5 : M'.1 1 5 = p) (e7 : M'.1 1 7 = -1) (e4 : M'.1 1 4 = p + 1) (e9 : M'.1 1 9 = b) : CTk M' (txC M0) (M0.1 1 4) := by
  have hp0 := h.1
  have hub : uC M0 p.toNat = u8 b := by rw [uC_at (by omega), hb]
  have hsg : chS (uC M0 p.toNat) = true ↔ (b = 59 ∨ b = 60 ∨ b = 61 ∨ b = 62 ∨ b = 40 ∨ b = 41) := by
    rw [chS_iff, hub]
    unfold u8
    split <;> omega
  obtain ⟨hk, hf, he, hv⟩ := tk_sign (u := uC M0) (m := M0.1 1 3) h0 (h.run (fun _ => hs)) hp hm hc
  have hk2 : tK (uC M0) (M0.1 1 2) (M0.1 1 3) (M0.1 1 4) = 4 ∧ (b = 59 ∨ b = 60 ∨ b = 61 ∨ b = 62 ∨ b = 40 ∨ b = 41) ∨ tK (uC M0) (M0.1 1 2) (M0.1 1 3) (M0.1 1 4) = 1 ∧ ¬ (b = 59 ∨ b = 60 ∨ b = 61 ∨ b = 62 ∨ b = 40 ∨ b = 41) := by
    by_cases q : chS (uC M0 p.toNat) = true
    · rw [if_pos q] at hk
      exact Or.inl ⟨hk, hsg.mp q⟩
    · rw [if_neg q] at hk
      exact Or.inr ⟨hk, fun q2 => q (hsg.mpr q2)⟩
  refine ⟨uC_cg hu, e2, e3, ?_, ?_, ?_, fun h2 => ?_, fun h2 => ?_, fun h2 => ?_⟩
  · show _ = kC (tK (uC M0) (M0.1 1 2) (M0.1 1 3) (M0.1 1 4))
    rw [e6]
    rcases hk2 with ⟨q1, q2⟩ | ⟨q1, q2⟩
    · rw [if_pos q2, q1]
      rfl
    · rw [if_neg q2, q1]
      rfl
  · show _ = tF (uC M0) (M0.1 1 2) (M0.1 1 3) (M0.1 1 4)
    rw [hf, e5]
  · show _ = (if tK (uC M0) (M0.1 1 2) (M0.1 1 3) (M0.1 1 4) = 2 then _ else _)
    rw [if_neg (by omega), e7]
  · show _ = tE (uC M0) (M0.1 1 2) (M0.1 1 4)
    rw [he, e4]
  · have h2 : tK (uC M0) (M0.1 1 2) (M0.1 1 3) (M0.1 1 4) = 2 := h2
    omega
  · have h2 : 3 ≤ tK (uC M0) (M0.1 1 2) (M0.1 1 3) (M0.1 1 4) := h2
    show _ = tV (uC M0) (M0.1 1 2) (M0.1 1 3) (M0.1 1 4)
    rw [hv (by omega), hub, e9]
    unfold u8
    rw [if_neg (by omega)]
theorem nx_run {M1 M2 : JM} (h : SKI M0 p) (h0 : 0 ≤ M0.1 1 4) (hp : p < M0.1 1 2) (hm : ¬ (M0.1 1 3 < M0.1 1 2 ∧ M0.1 1 3 ≤ p)) (hs : chW (uC M0 p.toNat) = false) (hr : RRP M1 M2) (u1 : ∀ j, M1.1 2 j = M0.1 2 j) (n1 : M1.1 1 2 = M0.1 1 2) (p1 : M1.1 1 4 = p) (hne : M2.1 1 4 ≠ p) (hu : ∀ j, M'.1 2 j = M0.1 2 j) (e2 : M'.1 1 2 = M0.1 1 2) (e3 : M'.1 1 3 = M0.1 1 3) (e4 : M'.1 1 4 = M2.1 1 4) (e5 : M'.1 1 5 = p) (e6 : M'.1 1 6 = M2.1 1 6) (e8 : M'.2 1 8 = M2.2 1 8) (e9 : M'.1 1 9 = M2.1 1 9) (e7 : (M2.1 1 6 ≠ 1 ∧ M'.1 1 7 = -1) ∨ (M2.1 1 6 = 1 ∧ ∀ r : Int, wok 7 r → (M2.2 1 8).toInt = cw r → M'.1 1 7 = keyS r)) : CTk M' (txC M0) (M0.1 1 4) := by
  obtain ⟨k, a1, a2, a3, a4, a5⟩ := hr
  have eu : uC M1 = uC M0 := uC_cg u1
  rw [p1] at a1 a2 a3 a4 a5
  rw [eu, n1] at a2
  rw [eu] at a3 a4 a5
  have hk0 : 0 < k := by omega
  obtain ⟨hk, hf, he, hv2, hv3⟩ := tk_run (u := uC M0) (m := M0.1 1 3) (q := p + (k : Int)) h0 (h.run (fun _ => hs)) hp hm a2 (by omega)
  have ek : (p + (k : Int) - p).toNat = k := by omega
  have ek2 : p + (k : Int) - p = (k : Int) := by omega
  rw [ek, ek2] at hk
  rw [ek] at hv2 hv3
  have hP : tP (uC M0) (M0.1 1 2) (M0.1 1 4) = p := runF_eq h0 (h.run (fun _ => hs))
  have hQ : tQ (uC M0) (M0.1 1 2) (M0.1 1 4) = p + (k : Int) := by
    unfold tQ
    rw [hP]
    exact runF_eq (by have := h.1; omega) a2
  have hkk : M2.1 1 6 = kC (tK (uC M0) (M0.1 1 2) (M0.1 1 3) (M0.1 1 4)) := by
    rw [a3, hk]
    by_cases c1 : cnt chD (uC M0) p k = 0
    · rw [if_pos c1, if_pos c1]
      by_cases c2 : (k : Int) ≤ 7
      · rw [if_pos c2, if_pos c2]
        rfl
      · rw [if_neg c2, if_neg c2]
        rfl
    · rw [if_neg c1, if_neg c1]
      by_cases c2 : cnt chL (uC M0) p k = 0 ∧ (k : Int) ≤ 3
      · rw [if_pos c2, if_pos c2]
        rfl
      · rw [if_neg c2, if_neg c2]
        rfl
  have hK : tK (uC M0) (M0.1 1 2) (M0.1 1 3) (M0.1 1 4) = 1 ∨ tK (uC M0) (M0.1 1 2) (M0.1 1 3) (M0.1 1 4) = 2 ∨ tK (uC M0) (M0.1 1 2) (M0.1 1 3) (M0.1 1 4) = 3 := by
    rw [hk]
    split
    · split <;> omega
    · split <;> omega
  have hw2 : tK (uC M0) (M0.1 1 2) (M0.1 1 3) (M0.1 1 4) = 2 → wok 7 (tV (uC M0) (M0.1 1 2) (M0.1 1 3) (M0.1 1 4)) ∧ (M2.2 1 8).toInt = cw (tV (uC M0) (M0.1 1 2) (M0.1 1 3) (M0.1 1 4)) := by
    intro h2
    obtain ⟨b1, b2, b3, _⟩ := tV_wok (u := uC M0) (n := M0.1 1 2) (m := M0.1 1 3) h0 h2
    rw [hP, hQ, ek] at b2 b3
    have hd : cnt chD (uC M0) p k = 0 := by
      rw [hk] at h2
      by_cases c1 : cnt chD (uC M0) p k = 0
      · exact c1
      · rw [if_neg c1] at h2
        split at h2 <;> omega
    exact ⟨b1, by rw [b2]; exact a4 hd b3⟩
  refine ⟨uC_cg hu, e2, e3, ?_, ?_, ?_, fun h2 => ?_, fun h2 => ?_, fun h2 => ?_⟩
  · show _ = kC (tK (uC M0) (M0.1 1 2) (M0.1 1 3) (M0.1 1 4))
    rw [e6, hkk]
  · show _ = tF (uC M0) (M0.1 1 2) (M0.1 1 3) (M0.1 1 4)
    rw [hf, e5]
  · show _ = (if tK (uC M0) (M0.1 1 2) (M0.1 1 3) (M0.1 1 4) = 2 then _ else _)
    by_cases c : tK (uC M0) (M0.1 1 2) (M0.1 1 3) (M0.1 1 4) = 2
    · rw [if_pos c]
      rcases e7 with ⟨q1, _⟩ | ⟨_, q2⟩
      · exfalso
        apply q1
        rw [hkk, c]
        rfl
      · obtain ⟨b1, b2⟩ := hw2 c
        exact q2 _ b1 b2
    · rw [if_neg c]
      rcases e7 with ⟨_, q2⟩ | ⟨q1, _⟩
      · exact q2
      · exfalso
        rw [hkk] at q1
        rcases hK with q | q | q
        · rw [q] at q1
          revert q1
          decide
        · exact c q
        · rw [q] at q1
          revert q1
          decide
  · show _ = tE (uC M0) (M0.1 1 2) (M0.1 1 4)
    rw [he, e4, a1]
  · have h2 : tK (uC M0) (M0.1 1 2) (M0.1 1 3) (M0.1 1 4) = 2 := h2
    rw [e8]
    exact (hw2 h2).2
  · have h2 : 3 ≤ tK (uC M0) (M0.1 1 2) (M0.1 1 3) (M0.1 1 4) := h2
    have h3 : tK (uC M0) (M0.1 1 2) (M0.1 1 3) (M0.1 1 4) = 3 := by omega
    show _ = tV (uC M0) (M0.1 1 2) (M0.1 1 3) (M0.1 1 4)
    rw [hv3 h3, e9]
    have hc : cnt chL (uC M0) p k = 0 ∧ (k : Int) ≤ 3 := by
      rw [hk] at h3
      by_cases c1 : cnt chD (uC M0) p k = 0
      · rw [if_pos c1] at h3
        split at h3 <;> omega
      · rw [if_neg c1] at h3
        by_cases c2 : cnt chL (uC M0) p k = 0 ∧ (k : Int) ≤ 3
        · exact c2
        · rw [if_neg c2] at h3
          omega
    exact a5 hc.1 (by omega)
theorem nx_sgn {M1 M2 : JM} (h : SKI M0 p) (h0 : 0 ≤ M0.1 1 4) (hn : M0.1 1 2 ≤ 940) (hp : p < M0.1 1 2) (hm : ¬ (M0.1 1 3 < M0.1 1 2 ∧ M0.1 1 3 ≤ p)) (hs : chW (uC M0 p.toNat) = false) (hr : RRP M1 M2) (u1 : ∀ j, M1.1 2 j = M0.1 2 j) (n1 : M1.1 1 2 = M0.1 1 2) (p1 : M1.1 1 4 = p) (heq : M2.1 1 4 = p) (hq : RSP M2 M') (u2 : ∀ j, M2.1 2 j = M0.1 2 j) (hbb : -128 ≤ M0.1 2 p.toNat ∧ M0.1 2 p.toNat ≤ 127) (hu : ∀ j, M'.1 2 j = M0.1 2 j) (e2 : M'.1 1 2 = M0.1 1 2) (e3 : M'.1 1 3 = M0.1 1 3) (e5 : M'.1 1 5 = p) (e7 : M'.1 1 7 = -1) : CTk M' (txC M0) (M0.1 1 4) := by
  obtain ⟨k, a1, a2, -, -, -⟩ := hr
  have eu : uC M1 = uC M0 := uC_cg u1
  rw [p1] at a1 a2
  rw [eu, n1] at a2
  have hk0 : (k : Int) = 0 := by omega
  have hc : chA (uC M0 p.toNat) = false := by
    have := a2.2.2.2 (by omega)
    rw [hk0, Int.add_zero] at this
    exact this
  obtain ⟨q1, q2, q3⟩ := hq
  rw [heq] at q1 q2 q3
  rw [u2] at q2 q3
  exact nx_sign h h0 hn hp hm hs rfl hbb hc hu e2 e3 q3 e5 e7 q1 q2
end NX
