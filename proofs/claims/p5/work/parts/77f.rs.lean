/-! The reference's go(): the loop over a run, with where it began. -/
theorem wr_b (u : Nat → Int) (p : Int) (hp : 0 ≤ p) : ∀ k : Nat, k ≤ 7 → (∀ j : Nat, p ≤ (j : Int) → (j : Int) < p + (k : Int) → chA (u j) = true) → -(wbd (k : Int)) ≤ wrS u p k ∧ wrS u p k ≤ wbd (k : Int)
  | 0, _, _ => by
    have h0 : wbd ((0 : Nat) : Int) = 0 := wbd_0 (by omega)
    rw [h0]
    show -(0 : Int) ≤ 0 ∧ (0 : Int) ≤ 0
    omega
  | k + 1, hk, h => by
    have ih := wr_b u p hp k (by omega) (fun j h1 h2 => h j h1 (by omega))
    have hc := chA_iff.mp (h (p + (k : Int)).toNat (by omega) (by omega))
    have hs : wbd ((k : Int) + 1) = 27 * wbd (k : Int) + 159 := wbd_s ⟨by omega, by omega⟩
    have e : ((k + 1 : Nat) : Int) = (k : Int) + 1 := by omega
    rw [e, hs]
    show -(27 * wbd (k : Int) + 159) ≤ 27 * wrS u p k + (u (p + (k : Int)).toNat - 96) ∧ 27 * wrS u p k + (u (p + (k : Int)).toNat - 96) ≤ 27 * wbd (k : Int) + 159
    omega
theorem nv_b (u : Nat → Int) (p : Int) (hp : 0 ≤ p) : ∀ k : Nat, k ≤ 2 → (∀ j : Nat, p ≤ (j : Int) → (j : Int) < p + (k : Int) → chA (u j) = true) → 0 ≤ nvS u p k ∧ nvS u p k ≤ 999
  | 0, _, _ => by
    show (0 : Int) ≤ 0 ∧ (0 : Int) ≤ 999
    omega
  | 1, _, h => by
    have h0 := chA_iff.mp (h (p + ((0 : Nat) : Int)).toNat (by omega) (by omega))
    simp only [nvS]
    omega
  | 2, _, h => by
    have h0 := chA_iff.mp (h (p + ((0 : Nat) : Int)).toNat (by omega) (by omega))
    have h1 := chA_iff.mp (h (p + ((1 : Nat) : Int)).toNat (by omega) (by omega))
    simp only [nvS]
    omega
  | k + 3, hk, _ => by omega
def GI (M0 M : JM) (lt gd : Int) : Prop := SKR M0 (M.1 173 6) ∧ M.1 173 6 < M0.1 173 3 ∧ ¬ (M0.1 173 4 < M0.1 173 3 ∧ M0.1 173 4 ≤ M.1 173 6) ∧ chW (uR M0 (M.1 173 6).toNat) = false ∧ (lt = 1 ∧ chL (uR M0 (M.1 173 6).toNat) = true ∨ lt = 0 ∧ chL (uR M0 (M.1 173 6).toNat) = false ∧ chD (uR M0 (M.1 173 6).toNat) = true) ∧ GRI (uR M0) (M0.1 173 3) (M.1 173 6) M lt gd
theorem SKR.cg {M0 : JM} {p p' : Int} (h : SKR M0 p) (e : p = p') : SKR M0 p' := e ▸ h
theorem chW_n {c : Int} (h : c ≠ 32 ∧ c ≠ 10) : chW c = false := by
  cases q : chW c with
  | false => rfl
  | true => exact absurd (chW_iff.mp q) (by omega)
theorem chA_n {c : Int} (h : (c < 97 ∨ 122 < c) ∧ (c < 48 ∨ 57 < c)) : chA c = false := by
  cases q : chA c with
  | false => rfl
  | true => exact absurd (chA_iff.mp q) (by omega)
theorem chL_n {c : Int} (h : ¬ (97 ≤ c ∧ c ≤ 122)) : chL c = false := by
  cases q : chL c with
  | false => rfl
  | true => exact absurd (chL_iff.mp q) h
theorem GI.start {M0 M : JM} {lt c p : Int} (hsk : SKR M0 p) (h6 : M.1 173 6 = p) (h5 : M.1 173 5 = p) (h0 : 0 ≤ M0.1 173 5) (hn : M0.1 173 3 ≤ 940) (hp : p < M0.1 173 3) (hm : ¬ (M0.1 173 4 < M0.1 173 3 ∧ M0.1 173 4 ≤ p)) (hb : M0.1 174 p.toNat = c) (hl : lt = 1 ∧ 97 ≤ c ∧ c ≤ 122 ∨ lt = 0 ∧ 48 ≤ c ∧ c ≤ 57) (h12 : (M.2 173 12).toInt = 0) (h8 : M.1 173 8 = 0) : GI M0 M lt 1 := by
  have hp0 := hsk.1
  have hub : uR M0 p.toNat = c := by rw [uR_at (by omega), hb]
  unfold GI
  rw [h6, hub]
  refine ⟨hsk, hp, hm, chW_n (by omega), ?_, GRI.start (by omega) (by omega) h5 h12 h8⟩
  rcases hl with ⟨a, b⟩ | ⟨a, b⟩
  · exact Or.inl ⟨a, chL_iff.mpr b⟩
  · exact Or.inr ⟨a, chL_n (by omega), chD_iff.mpr b⟩
theorem GI.st {M0 M M' : JM} {lt gd gd' c : Int} (h : GI M0 M lt gd) (h0 : 0 ≤ M0.1 173 5) (hn : M0.1 173 3 ≤ 940) (hlt : M.1 173 5 < M0.1 173 3) (hc : M0.1 174 (M.1 173 5).toNat = c) (ha : 97 ≤ c ∧ c ≤ 122 ∨ 48 ≤ c ∧ c ≤ 57) (h6 : M'.1 173 6 = M.1 173 6) (h5 : M'.1 173 5 = M.1 173 5 + 1) (hg : gd' = 1 ↔ gd = 1 ∧ (lt = 1 ∧ 97 ≤ c ∧ c ≤ 122 ∨ lt = 0 ∧ ¬ (97 ≤ c ∧ c ≤ 122))) (hw : M.1 173 5 - M.1 173 6 < 7 → (M'.2 173 12).toInt = 27 * (M.2 173 12).toInt + c - 96) (hv : M.1 173 5 - M.1 173 6 < 3 → ∀ z : Int, M.1 173 8 = z → 0 ≤ z → z ≤ 999 → M'.1 173 8 = 10 * z + c - 48) : GI M0 M' lt gd' := by
  obtain ⟨g1, g2, g3, g4, g5, g6⟩ := h
  have hp0 := g1.1
  have h55 : M0.1 173 5 ≤ M.1 173 5 := by
    obtain ⟨k, e1, _⟩ := g6
    omega
  unfold GI
  rw [h6]
  refine ⟨g1, g2, g3, g4, g5, ?_⟩
  refine GRI.st (c := c) g6 (by omega) (by rw [uR_at (by omega), hc]) hlt (chA_iff.mpr ha) h5 ?_ hw (fun h3 => ?_)
  · have hL : chL c = true ↔ 97 ≤ c ∧ c ≤ 122 := chL_iff
    have hLf : chL c = false ↔ ¬ (97 ≤ c ∧ c ≤ 122) := by
      rw [← hL]
      exact (Bool.not_eq_true _).symm ▸ Iff.rfl
    rw [hg, hL, hLf]
  · obtain ⟨k, e1, e2, e3, e4, e5, e6⟩ := g6
    have hz := e6 (by omega)
    have hb := nv_b (uR M0) (M.1 173 6) (by omega) k (by omega) e3
    have h9 := hv h3 _ hz hb.1 hb.2
    rw [h9, hz]
theorem GI.wb {M0 M : JM} {lt gd : Int} (h : GI M0 M lt gd) (h0 : 0 ≤ M0.1 173 5) (hk : M.1 173 5 - M.1 173 6 < 7) : -2369225292 ≤ (M.2 173 12).toInt ∧ (M.2 173 12).toInt ≤ 2369225292 := by
  obtain ⟨g1, _, _, _, _, k, e1, e2, e3, e4, e5, e6⟩ := h
  have hp0 := g1.1
  have hb := wr_b (uR M0) (M.1 173 6) (by omega) k (by omega) e3
  have h7 := wbd_7 (t := (k : Int)) ⟨by omega, by omega⟩
  rw [e5 (by omega)]
  omega
theorem GI.fin {M0 M M' : JM} {lt gd : Int} (h : GI M0 M lt gd) (h0 : 0 ≤ M0.1 173 5) (hn : M0.1 173 3 ≤ 940) (hst : M.1 173 5 < M0.1 173 3 → (M0.1 174 (M.1 173 5).toNat < 97 ∨ 122 < M0.1 174 (M.1 173 5).toNat) ∧ (M0.1 174 (M.1 173 5).toNat < 48 ∨ 57 < M0.1 174 (M.1 173 5).toNat)) (hu : ∀ j, M'.1 174 j = M0.1 174 j) (e3 : M'.1 173 3 = M0.1 173 3) (e4 : M'.1 173 4 = M0.1 173 4) (e5 : M'.1 173 5 = M.1 173 5) (e6 : M'.1 173 6 = M.1 173 6) (e8 : M'.1 173 8 = M.1 173 8) (e12 : M'.2 173 12 = M.2 173 12) (e7 : (M'.1 173 7 = 1 ∧ (gd ≠ 1 ∨ (lt = 1 ∧ 7 < M.1 173 5 - M.1 173 6) ∨ (lt = 0 ∧ 3 < M.1 173 5 - M.1 173 6))) ∨ (M'.1 173 7 = 2 ∧ gd = 1 ∧ lt = 1 ∧ M.1 173 5 - M.1 173 6 ≤ 7) ∨ (M'.1 173 7 = 3 ∧ gd = 1 ∧ lt = 0 ∧ M.1 173 5 - M.1 173 6 ≤ 3)) : RTk M' (txR M0) (M0.1 173 5) := by
  obtain ⟨g1, g2, g3, g4, g5, g6⟩ := h
  have hp0 := g1.1
  have h55 : M0.1 173 5 ≤ M.1 173 5 := by
    obtain ⟨k, y1, _⟩ := g6
    omega
  refine rx_run g1 h0 g2 g3 g4 g5 g6 (fun hlt => ?_) hu e3 e4 e5 e6 e8 e12 e7
  rw [uR_at (by omega)]
  exact chA_n (hst hlt)
theorem rx_sgn {M0 M' : JM} {p c kd : Int} (h : SKR M0 p) (h0 : 0 ≤ M0.1 173 5) (hn : M0.1 173 3 ≤ 940) (hp : p < M0.1 173 3) (hm : ¬ (M0.1 173 4 < M0.1 173 3 ∧ M0.1 173 4 ≤ p)) (hb : M0.1 174 p.toNat = c) (hcw : c ≠ 32 ∧ c ≠ 10) (hca : (c < 97 ∨ 122 < c) ∧ (c < 48 ∨ 57 < c)) (hu : ∀ j, M'.1 174 j = M0.1 174 j) (e3 : M'.1 173 3 = M0.1 173 3) (e4 : M'.1 173 4 = M0.1 173 4) (e7 : M'.1 173 7 = kd) (hk : kd = 4 ∧ (c = 59 ∨ c = 60 ∨ c = 61 ∨ c = 62 ∨ c = 40 ∨ c = 41) ∨ kd = 1 ∧ ¬ (c = 59 ∨ c = 60 ∨ c = 61 ∨ c = 62 ∨ c = 40 ∨ c = 41)) (e6 : M'.1 173 6 = p) (e5 : M'.1 173 5 = p + 1) (e9 : M'.1 173 9 = c) : RTk M' (txR M0) (M0.1 173 5) := by
  refine rx_sign h h0 hn hp hm hb (chW_n hcw) (chA_n hca) hu e3 e4 ?_ e6 e5 e9
  rw [e7]
  rcases hk with ⟨a, b⟩ | ⟨a, b⟩
  · rw [if_pos (chS_iff.mpr b), a]
  · rw [if_neg (fun q => b (chS_iff.mp q)), a]
theorem iv_dg {a z1 z2 z3 b z : Int} (e1 : z1 = (Int32.ofInt 10 * Int32.ofInt a).toInt) (e2 : z2 = (Int32.ofInt z1 + Int32.ofInt b).toInt) (e3 : z3 = (Int32.ofInt z2 - Int32.ofInt 48).toInt) (ha : a = z) (h0 : 0 ≤ z) (h1 : z ≤ 999) (hb : 0 ≤ b ∧ b ≤ 255) : z3 = 10 * z + b - 48 := by
  have hz1 : z1 = 10 * a := by rw [e1, jml (by omega) (by omega)]
  have hz2 : z2 = z1 + b := by rw [e2, jad (by omega) (by omega)]
  rw [e3, hz2, hz1, jsb (by omega) (by omega)]
  omega
/-! The reference's reading at hand. -/
def RD (M : JM) (σ : PSt) : Prop := (∀ s : Nat, s < 3 → M.1 176 s = σ.2.1 s) ∧ (∀ k : Nat, k < 18 → ((k % 6 : Nat) : Int) < σ.2.1 (k / 6) → (M.2 181 k).toInt = σ.2.2.1 k) ∧ (∀ p : Nat, p < 36 → (M.1 176 (17 + p) = -1 ↔ σ.2.2.2 p = 0)) ∧ (∀ p : Nat, p < 36 → 0 ≤ M.1 176 (65 + p) ∧ (M.1 176 (65 + p) = 0 ↔ σ.2.2.2 (36 + p) = 0)) ∧ (M.1 173 24 = 0 ↔ σ.2.2.2 72 = 0) ∧ (M.1 173 25 = 0 ↔ σ.2.2.2 73 = 0)
def RS (M : JM) (t : TXT) (σ : PSt) : Prop := RTk M t σ.1 ∧ RD M σ ∧ PI t σ
def LRr (t : TXT) (r : RES) (v : Int) (M : JM) : Prop := (r.1 < 0 ∧ v = 1 ∧ RS M t r.2) ∨ (0 ≤ r.1 ∧ v = 0 ∧ M.1 173 11 = r.1)
theorem LRr.ok {t : TXT} {r : RES} {v : Int} {M : JM} (h : LRr t r v M) (hv : v ≠ 0) : r.1 < 0 ∧ RS M t r.2 := by
  rcases h with ⟨h1, h2, h3⟩ | ⟨h1, h2, h3⟩
  · exact ⟨h1, h3⟩
  · exact absurd h2 hv
theorem LRr.bad {t : TXT} {r : RES} {v : Int} {M : JM} (h : LRr t r v M) (hv : v = 0) : 0 ≤ r.1 ∧ M.1 173 11 = r.1 := by
  rcases h with ⟨h1, h2, h3⟩ | ⟨h1, h2, h3⟩
  · omega
  · exact ⟨h1, h3⟩
/-- frames that leave what was read be -/
def keepR (md ml : List (Nat × (Nat × Nat))) : Bool := md.all (fun q => !Nat.beq q.1 176 && !(Nat.beq q.1 173 && (Nat.ble q.2.1 25 && Nat.ble 24 q.2.2))) && ml.all (fun q => !Nat.beq q.1 181)
theorem RD.fr {md ml : List (Nat × (Nat × Nat))} {M M' : JM} {σ : PSt} (h : RD M σ) (hF : Fr md M M') (hL : LFr ml M M') (hk : keepR md ml = true) : RD M' σ := by
  unfold keepR at hk
  simp only [Bool.and_eq_true] at hk
  have g : ∀ i, M'.1 176 i = M.1 176 i := fun i => hF 176 i (jin_cell (List.all_eq_true.mpr (fun q hq => by
    have h1 := List.all_eq_true.mp hk.1 q hq
    simp only [Bool.and_eq_true] at h1
    exact h1.1)))
  have g2 : ∀ i, i = 24 ∨ i = 25 → M'.1 173 i = M.1 173 i := fun i hi => hF 173 i (by
    unfold jin
    rw [List.any_eq_false]
    intro q hq hc
    have h1 := List.all_eq_true.mp hk.1 q hq
    simp only [Bool.and_eq_true, Bool.not_eq_true', Bool.and_eq_false_iff] at h1 hc
    have h2 := h1.2
    rcases h2 with h2 | h2 | h2
    · rw [hc.1] at h2
      cases h2
    · have h3 := Nat.le_of_ble_eq_true hc.2.1
      have h4 : ¬ q.2.1 ≤ 25 := fun e => by rw [Nat.ble_eq_true_of_le e] at h2; cases h2
      omega
    · have h3 := Nat.le_of_ble_eq_true hc.2.2
      have h4 : ¬ 24 ≤ q.2.2 := fun e => by rw [Nat.ble_eq_true_of_le e] at h2; cases h2
      omega)
  have gl : ∀ i, M'.2 181 i = M.2 181 i := fun i => hL 181 i (jin_cell hk.2)
  obtain ⟨d1, d2, d3, d4, d5, d6⟩ := h
  refine ⟨fun s hs => ?_, fun k h1 h2 => ?_, fun p hp => ?_, fun p hp => ?_, ?_, ?_⟩
  · rw [g]
    exact d1 s hs
  · rw [gl]
    exact d2 k h1 h2
  · rw [g]
    exact d3 p hp
  · rw [g]
    exact d4 p hp
  · rw [g2 24 (by decide)]
    exact d5
  · rw [g2 25 (by decide)]
    exact d6
theorem RTk.tx {M : JM} {t : TXT} {i : Int} (h : RTk M t i) : txR M = t := by
  obtain ⟨h1, h2, h3, _⟩ := h
  show (uR M, (M.1 173 3, M.1 173 4)) = t
  rw [h1, h2, h3]
/-- go() over the token at hand -/
theorem RS.next {M M' : JM} {t : TXT} {σ : PSt} {md ml : List (Nat × (Nat × Nat))} (h : RS M t σ) (hk : 2 ≤ kK t σ) (hn : RTk M' (txR M) (M.1 173 5)) (hF : Fr md M M') (hL : LFr ml M M') (hkd : keepR md ml = true) : RS M' t (goS t σ) := by
  obtain ⟨c, d, p⟩ := h
  have hb := tE_le (u := t.1) (n := t.2.1) (m := t.2.2) p.1 hk
  have e5 : M.1 173 5 = tE t.1 t.2.1 σ.1 := c.2.2.2.2.2.1 hk
  rw [c.tx, e5] at hn
  exact ⟨hn, d.fr hF hL hkd, by show 0 ≤ tE t.1 t.2.1 σ.1; have := p.1; omega, hb.2, p.2.2⟩
section RSS
variable {M M0 M1 M' : JM} {t : TXT} {σ : PSt} {v v1 : Int} {md ml : List (Nat × (Nat × Nat))} {f g : PSt → RES}
theorem RS.kind (h : RS M0 t σ) : M0.1 173 7 = kK t σ := h.1.2.2.2.1
theorem RS.start (h : RS M0 t σ) : M0.1 173 6 = kF t σ := h.1.2.2.2.2.1
theorem RS.word (h : RS M0 t σ) (hk : kK t σ = 2) : (M0.2 173 12).toInt = kV t σ := h.1.2.2.2.2.2.2.1 hk
theorem RS.num (h : RS M0 t σ) (hk : kK t σ = 3) : M0.1 173 8 = kV t σ := h.1.2.2.2.2.2.2.2.1 hk
theorem RS.sgn (h : RS M0 t σ) (hk : kK t σ = 4) : M0.1 173 9 = kV t σ := h.1.2.2.2.2.2.2.2.2 hk
/-- stores where neither tokens nor readings say it, and longs that keep -/
def rlost (c i : Nat) : Bool := (Nat.beq c 174 || (Nat.beq c 176 && (Nat.ble i 2 || ((Nat.ble 17 i && Nat.ble i 52) || (Nat.ble 65 i && Nat.ble i 100))))) || (Nat.beq c 173 && ((Nat.ble 3 i && Nat.ble i 9) || (Nat.beq i 24 || Nat.beq i 25)))
theorem RS.cg (h : RS M0 t σ) (n : ∀ c' i', rlost c' i' = true → M'.1 c' i' = M0.1 c' i') (q : ∀ c' i', (c' = 173 ∧ i' = 12) ∨ c' = 181 → M'.2 c' i' = M0.2 c' i') : RS M' t σ := by
  have g : ∀ i', (Nat.ble 3 i' && Nat.ble i' 9) || (Nat.beq i' 24 || Nat.beq i' 25) → M'.1 173 i' = M0.1 173 i' := fun i' e => n 173 i' (by
    unfold rlost
    rw [e]
    rfl)
  have g6 : ∀ i', (Nat.ble i' 2 || ((Nat.ble 17 i' && Nat.ble i' 52) || (Nat.ble 65 i' && Nat.ble i' 100))) = true → M'.1 176 i' = M0.1 176 i' := fun i' e => n 176 i' (by
    unfold rlost
    rw [e]
    rfl)
  have g4 : ∀ i', M'.1 174 i' = M0.1 174 i' := fun i' => n 174 i' rfl
  obtain ⟨⟨c1, c2, c3, c4, c5, c6, c7, c8, c9⟩, ⟨d1, d2, d3, d4, d5, d6⟩, p⟩ := h
  refine ⟨⟨(uR_cg g4).trans c1, (g 3 rfl).trans c2, (g 4 rfl).trans c3, (g 7 rfl).trans c4, (g 6 rfl).trans c5, fun y => (g 5 rfl).trans (c6 y), fun y => by rw [q 173 12 (Or.inl ⟨rfl, rfl⟩)]; exact c7 y, fun y => (g 8 rfl).trans (c8 y), fun y => (g 9 rfl).trans (c9 y)⟩, ⟨fun s hs => ?_, fun k h1 h2 => by rw [q 181 k (Or.inr rfl)]; exact d2 k h1 h2, fun p hp => ?_, fun p hp => ?_, by rw [g 24 rfl]; exact d5, by rw [g 25 rfl]; exact d6⟩, p⟩
  · rw [g6 s (by rw [Nat.ble_eq_true_of_le (show s ≤ 2 by omega)]; rfl)]
    exact d1 s hs
  · rw [g6 (17 + p) (by rw [Nat.ble_eq_true_of_le (show 17 ≤ 17 + p by omega), Nat.ble_eq_true_of_le (show 17 + p ≤ 52 by omega)]; simp)]
    exact d3 p hp
  · rw [g6 (65 + p) (by rw [Nat.ble_eq_true_of_le (show 65 ≤ 65 + p by omega), Nat.ble_eq_true_of_le (show 65 + p ≤ 100 by omega)]; simp)]
    exact d4 p hp
theorem RS.st {c i : Nat} (h : RS M0 t σ) (n : ∀ c' i', ¬ (c' = c ∧ i' = i) → M'.1 c' i' = M0.1 c' i') (q : ∀ c' i', M'.2 c' i' = M0.2 c' i') (hc : rlost c i = false) : RS M' t σ := h.cg (fun c' i' e => n c' i' (fun e2 => by rw [e2.1, e2.2, hc] at e; cases e)) (fun c' i' _ => q c' i')
/-- a step that fails: the place of the fault -/
theorem LRr.no {r : RES} (hr : r = badS (kF t σ) σ) (h : RS M0 t σ) (hv : v = 0) (e11 : M'.1 173 11 = M0.1 173 6) : LRr t r v M' := by
  subst hr
  exact Or.inr ⟨tF_nn h.2.2, hv, e11.trans h.start⟩
theorem LRr.go {r : RES} (hr : r = okS (goS t σ)) (h : RS M0 t σ) (hk : 2 ≤ kK t σ) (hv : v = 1) (hn : RTk M' (txR M0) (M0.1 173 5)) (hF : Fr md M0 M') (hL : LFr ml M0 M') (hkd : keepR md ml = true) : LRr t r v M' := by
  subst hr
  exact Or.inl ⟨okS_lt, hv, h.next hk hn hF hL hkd⟩
theorem LRr.seqn (h : LRr t (f σ) v M) (hv : v = 0) : LRr t (seqS f g σ) v M := by
  rw [seq_bad (h.bad hv).1]
  exact h
theorem LRr.seqz (h : LRr t (f σ) v1 M) (hv : v1 = 0) : LRr t (seqS f g σ) 0 M := by
  subst hv
  exact h.seqn rfl
theorem LRr.seqg (h : LRr t (f σ) v1 M1) (hv : v1 ≠ 0) (k : (f σ).1 < 0 → RS M1 t (f σ).2 → LRr t (g (f σ).2) v M) : LRr t (seqS f g σ) v M := by
  rw [seq_ok (h.ok hv).1]
  exact k (h.ok hv).1 (h.ok hv).2
theorem LRr.z {r : RES} (h : LRr t r v1 M) (hv : v1 = 0) : LRr t r 0 M := hv ▸ h
theorem LRr.u {r : RES} (h : LRr t r v1 M) (hv : v1 ≠ 0) : LRr t r 1 M := by
  obtain ⟨h1, h2⟩ := h.ok hv
  exact Or.inl ⟨h1, rfl, h2⟩
theorem LRr.o {r : RES} (h : RS M t r.2) (hr : r.1 < 0) : LRr t r 1 M := Or.inl ⟨hr, rfl, h⟩
theorem LRr.eq {r r' : RES} (e : r = r') (h : LRr t r' v M) : LRr t r v M := e ▸ h
theorem LRr.vc {r : RES} {v' : Int} (h : LRr t r v M) (e : v = v') : LRr t r v' M := e ▸ h
/-- a failing step's place stays -/
theorem LRr.pl {r : RES} (h : LRr t r v M) (hv : v = 0) (e : M'.1 173 11 = M.1 173 11) : LRr t r 0 M' := by
  obtain ⟨h1, h2⟩ := h.bad hv
  exact Or.inr ⟨h1, rfl, e.trans h2⟩
theorem rnum_no {a b : Int} (h : RS M0 t σ) (hn : M0.1 173 7 ≠ 3 ∨ M0.1 173 8 < a ∨ b < M0.1 173 8) (hv : v = 0) (e11 : M'.1 173 11 = M0.1 173 6) : LRr t (numS t a b σ) v M' := by
  refine LRr.no ?_ h hv e11
  unfold numS
  refine if_neg (fun q => ?_)
  have h1 := h.kind
  have h2 := h.num q.1
  omega
theorem rnum_go {a b : Int} (h : RS M0 t σ) (h7 : M0.1 173 7 = 3) (h8 : a ≤ M0.1 173 8 ∧ M0.1 173 8 ≤ b) (h1 : RS M1 t σ) (hv : v = 1) (hn : RTk M' (txR M1) (M1.1 173 5)) (hF : Fr md M1 M') (hL : LFr ml M1 M') (hkd : keepR md ml = true) : LRr t (numS t a b σ) v M' := by
  have hk : kK t σ = 3 := h.kind.symm.trans h7
  refine LRr.go ?_ h1 (by omega) hv hn hF hL hkd
  unfold numS
  have := h.num hk
  exact if_pos ⟨hk, by omega, by omega⟩
theorem rend_no (h : RS M0 t σ) (hn : M0.1 173 7 ≠ 4 ∨ M0.1 173 9 ≠ 59) (hv : v = 0) (e11 : M'.1 173 11 = M0.1 173 6) : LRr t (endS t σ) v M' := by
  refine LRr.no ?_ h hv e11
  unfold endS
  refine if_neg (fun q => ?_)
  have h1 := h.kind
  have h2 := h.sgn q.1
  omega
theorem rend_go (h : RS M0 t σ) (h7 : M0.1 173 7 = 4) (h9 : M0.1 173 9 = 59) (hv : v = 1) (hn : RTk M' (txR M0) (M0.1 173 5)) (hF : Fr md M0 M') (hL : LFr ml M0 M') (hkd : keepR md ml = true) : LRr t (endS t σ) v M' := by
  have hk : kK t σ = 4 := h.kind.symm.trans h7
  refine LRr.go ?_ h (by omega) hv hn hF hL hkd
  unfold endS
  exact if_pos ⟨hk, (h.sgn hk).symm.trans h9⟩
theorem rfst_no {s : Nat} (h : RS M0 t σ) (hs : s < 3) (hc : M0.1 176 s = 6) (hv : v = 0) (e11 : M'.1 173 11 = M0.1 173 6) : LRr t (firstS t s σ) v M' := by
  refine LRr.no ?_ h hv e11
  unfold firstS
  exact if_neg (by rw [← h.2.1.1 s hs]; omega)
theorem rfst_go {s : Nat} (h : RS M0 t σ) (hk : 2 ≤ kK t σ) (hs : s < 3) (hc : M0.1 176 s < 6) (hv : v = 1) (hn : RTk M' (txR M0) (M0.1 173 5)) (hF : Fr md M0 M') (hL : LFr ml M0 M') (hkd : keepR md ml = true) : LRr t (firstS t s σ) v M' := by
  refine LRr.go ?_ h hk hv hn hF hL hkd
  unfold firstS
  exact if_pos (by rw [← h.2.1.1 s hs]; exact hc)
end RSS
/-! The reference's words and names. -/
def spx (v c : Int) : Int := if 0 < c then 27 * v + c - 96 else v
def spS (a b c d e f g : Int) : Int := spx (spx (spx (spx (spx (27 * (a - 96) + b - 96) c) d) e) f) g
theorem spx_y {v c W W' : Int} (h : W = v) (hc : 0 < c) (e : W' = 27 * W + c - 96) : W' = spx v c := by
  unfold spx
  rw [if_pos hc, e, h]
theorem spx_n {v c W W' : Int} (h : W = v) (hc : ¬ 0 < c) (e : W' = W) : W' = spx v c := by
  unfold spx
  rw [if_neg hc, e, h]
theorem keyN_s (r : Int) (k : Nat) : keyN r (k + 1) = if 0 ≤ keyN r k then keyN r k else if kwR.getD k 0 = r then (k : Int) else -1 := rfl
theorem fndN_s (σ : PSt) (r : Int) (k : Nat) : fndN σ r (k + 1) = if 0 ≤ fndN σ r k then fndN σ r k else if ((k % 6 : Nat) : Int) < σ.2.1 (k / 6) ∧ σ.2.2.1 k = r then (k : Int) else -1 := rfl
def kyB : Bool := (List.range 24).all (fun i => decide (keyS (kwR.getD i 0) = (i : Int)))
theorem kyB_ok : kyB = true := by decide +kernel
theorem ky_at {i : Nat} (h : i < 24) : keyS (kwR.getD i 0) = (i : Int) := of_decide_eq_true (List.all_eq_true.mp kyB_ok i (List.mem_range.mpr h))
theorem keyN_hit {r : Int} : ∀ {k : Nat}, 0 ≤ keyN r k → kwR.getD (keyN r k).toNat 0 = r ∧ keyN r k < (k : Int)
  | 0, h => by
    have h : (0 : Int) ≤ -1 := h
    omega
  | k + 1, h => by
    rw [keyN_s] at h ⊢
    by_cases c : 0 ≤ keyN r k
    · rw [if_pos c] at h ⊢
      have ih := keyN_hit c
      exact ⟨ih.1, by omega⟩
    · rw [if_neg c] at h ⊢
      by_cases c2 : kwR.getD k 0 = r
      · rw [if_pos c2]
        exact ⟨by rw [Int.toNat_natCast]; exact c2, by omega⟩
      · rw [if_neg c2] at h
        omega
theorem keyN_no {r : Int} : ∀ {k : Nat}, keyN r k < 0 → keyN r k = -1
  | 0, _ => rfl
  | k + 1, h => by
    rw [keyN_s] at h ⊢
    by_cases c : 0 ≤ keyN r k
    · rw [if_pos c] at h
      omega
    · rw [if_neg c] at h ⊢
      by_cases c2 : kwR.getD k 0 = r
      · rw [if_pos c2] at h
        omega
      · rw [if_neg c2]
theorem keyN_ne {r : Int} {i : Int} (h : keyN r i.toNat = -1) (hi : 0 ≤ i) (hr : kwR.getD i.toNat 0 ≠ r) : keyN r (i + 1).toNat = -1 := by
  rw [show (i + 1).toNat = i.toNat + 1 by omega, keyN_st h, if_neg hr]
theorem keyS_ge {r : Int} {i : Int} (hi : 0 ≤ i ∧ i < 24) (hr : kwR.getD i.toNat 0 = r) : keyS r = i := by
  have h := ky_at (i := i.toNat) (by omega)
  rw [hr] at h
  omega
theorem keyS_eq {r k : Int} (hk : 0 ≤ k) (h : keyS r = k) : kwR.getD k.toNat 0 = r := by
  have := keyN_hit (r := r) (k := 24) (by unfold keyS at h; omega)
  unfold keyS at h
  rw [h] at this
  exact this.1
theorem fnd_hit {σ : PSt} {r : Int} : ∀ {m : Nat}, 0 ≤ fndN σ r m → ∃ k : Nat, k < m ∧ fndN σ r m = (k : Int) ∧ ((k % 6 : Nat) : Int) < σ.2.1 (k / 6) ∧ σ.2.2.1 k = r
  | 0, h => by
    have h : (0 : Int) ≤ -1 := h
    omega
  | m + 1, h => by
    rw [fndN_s] at h ⊢
    by_cases c : 0 ≤ fndN σ r m
    · rw [if_pos c]
      obtain ⟨k, h1, h2, h3⟩ := fnd_hit c
      exact ⟨k, by omega, h2, h3⟩
    · rw [if_neg c] at h ⊢
      by_cases c2 : ((m % 6 : Nat) : Int) < σ.2.1 (m / 6) ∧ σ.2.2.1 m = r
      · rw [if_pos c2]
        exact ⟨m, by omega, rfl, c2.1, c2.2⟩
      · rw [if_neg c2] at h
        omega
theorem fnd_is {t : TXT} {σ : PSt} {r : Int} (hp : PI t σ) {k : Nat} (hk : k < 18) (hv : ((k % 6 : Nat) : Int) < σ.2.1 (k / 6)) (hn : σ.2.2.1 k = r) : fndS σ r = (k : Int) := by
  unfold fndS
  by_cases c : 0 ≤ fndN σ r 18
  · obtain ⟨k', h1, h2, h3, h4⟩ := fnd_hit c
    have e := hp.2.2.2.2.2 k' k h1 hk h3 hv (h4.trans hn.symm)
    rw [h2, e]
  · exact absurd hn (fnd_no (by omega) k hk hv)
def FIN (M : JM) (b n v : Int) (w : Int64) : Prop := -1 ≤ v ∧ (v = -1 ∨ M.2 181 (b + v).toNat = w) ∧ (v = -1 ∨ v < n) ∧ (v ≠ -1 ∨ ∀ k : Int, 0 ≤ k → k < n → M.2 181 (b + k).toNat ≠ w)
section RFN
variable {M M0 M1 M' : JM} {t : TXT} {σ : PSt} {v : Int} {a : Int} {w : Int64} {md ml : List (Nat × (Nat × Nat))} {g : Int → PSt → RES}
theorem fnd_all {r : Int} (h0 : fndS σ r < 0 ∨ fndS σ r / 6 ≠ 0) (h1 : fndS σ r < 0 ∨ fndS σ r / 6 ≠ 1) (h2 : fndS σ r < 0 ∨ fndS σ r / 6 ≠ 2) : fndS σ r < 0 := by
  by_cases c : 0 ≤ fndS σ r
  · obtain ⟨k, a1, a2, _⟩ := fnd_hit (σ := σ) (r := r) (m := 18) c
    have a2 : fndS σ r = (k : Int) := a2
    omega
  · omega
theorem FIN.hit {b n : Int} (h : RS M t σ) (ha : 0 ≤ a ∧ a < 3) (hf : FIN M b n v w) (hb : b = 6 * a) (hn : n = M.1 176 a.toNat) (hw : w.toInt = kV t σ) (hv : v ≠ -1) : fndS σ (kV t σ) = 6 * a + v ∧ 0 ≤ v ∧ v ≤ 5 := by
  subst hb
  subst hn
  obtain ⟨f1, f2, f3, f4⟩ := hf
  have e1 := f2.resolve_left hv
  have e2 := f3.resolve_left hv
  have hc := h.2.1.1 a.toNat (by omega)
  have hb := h.2.2.2.2.2.1 a.toNat (by omega)
  have e6 : (6 * a + v).toNat / 6 = a.toNat := by omega
  have e7 : (((6 * a + v).toNat % 6 : Nat) : Int) = v := by omega
  have ht : (((6 * a + v).toNat % 6 : Nat) : Int) < σ.2.1 ((6 * a + v).toNat / 6) := by
    rw [e6, e7]
    omega
  have hn := h.2.1.2.1 (6 * a + v).toNat (by omega) ht
  rw [e1, hw] at hn
  have := fnd_is h.2.2 (k := (6 * a + v).toNat) (by omega) ht hn.symm
  rw [this]
  omega
theorem FIN.miss {b n : Int} (h : RS M t σ) (ha : 0 ≤ a ∧ a < 3) (hf : FIN M b n v w) (hb : b = 6 * a) (hn : n = M.1 176 a.toNat) (hw : w.toInt = kV t σ) (hv : v = -1) : fndS σ (kV t σ) < 0 ∨ fndS σ (kV t σ) / 6 ≠ a := by
  subst hb
  subst hn
  obtain ⟨f1, f2, f3, f4⟩ := hf
  have e1 := f4.resolve_left (fun e => e hv)
  by_cases c : 0 ≤ fndS σ (kV t σ)
  · refine Or.inr (fun e => ?_)
    obtain ⟨k, h1, h2, h3, h4⟩ := fnd_hit (σ := σ) (r := kV t σ) (m := 18) c
    have h2 : fndS σ (kV t σ) = (k : Int) := h2
    have e6 : k / 6 = a.toNat := by omega
    have hc := h.2.1.1 a.toNat (by omega)
    have hn := h.2.1.2.1 k h1 h3
    rw [e6] at h3
    refine e1 ((k % 6 : Nat) : Int) (by omega) (by omega) ?_
    refine Int64.toInt_inj.mp ?_
    rw [show (6 * a + ((k % 6 : Nat) : Int)).toNat = k by omega, hn, h4, hw]
  · exact Or.inl (by omega)
theorem RS.isn (h : RS M0 t σ) : isNm t σ = true ↔ M0.1 173 7 = 2 ∧ keyS (M0.2 173 12).toInt = -1 := by
  unfold isNm
  simp only [Bool.and_eq_true, decide_eq_true_eq]
  rw [h.kind]
  constructor
  · intro q
    rw [h.word q.1]
    exact q
  · intro q
    rw [h.word q.1] at q
    exact q
theorem RS.nm {j : Nat} {r : Int} (h : RS M t σ) (hj : σ.2.1 (j / 6) ≤ ((j % 6 : Nat) : Int)) : RS M t (σ.1, (σ.2.1, (fupd σ.2.2.1 j r, σ.2.2.2))) := by
  obtain ⟨c, ⟨d1, d2, d3, d4, d5, d6⟩, p1, p2, p3, p4, p5, p6⟩ := h
  have g : ∀ k : Nat, ((k % 6 : Nat) : Int) < σ.2.1 (k / 6) → fupd σ.2.2.1 j r k = σ.2.2.1 k := fun k hk => by
    unfold fupd
    refine if_neg (fun e => ?_)
    rw [e] at hk
    omega
  refine ⟨c, ⟨d1, fun k h1 h2 => ?_, d3, d4, d5, d6⟩, p1, p2, p3, p4, fun k h1 h2 => ?_, fun k k' h1 h2 h3 h4 he => ?_⟩
  · show (M.2 181 k).toInt = fupd σ.2.2.1 j r k
    rw [g k h2]
    exact d2 k h1 h2
  · show wok 7 (fupd σ.2.2.1 j r k)
    rw [g k h2]
    exact p5 k h1 h2
  · have he : fupd σ.2.2.1 j r k = fupd σ.2.2.1 j r k' := he
    rw [g k h3, g k' h4] at he
    exact p6 k k' h1 h2 h3 h4 he
/-- a long stored where no name is told yet -/
theorem RS.putn {j : Nat} (h : RS M0 t σ) (n : ∀ c' i', M1.1 c' i' = M0.1 c' i') (g : ∀ c' i', ¬ (c' = 181 ∧ i' = j) → M1.2 c' i' = M0.2 c' i') (hj : σ.2.1 (j / 6) ≤ ((j % 6 : Nat) : Int)) : RS M1 t σ := by
  obtain ⟨⟨c1, c2, c3, c4, c5, c6, c7, c8, c9⟩, ⟨d1, d2, d3, d4, d5, d6⟩, p⟩ := h
  refine ⟨⟨(uR_cg (fun i => n 174 i)).trans c1, (n 173 3).trans c2, (n 173 4).trans c3, (n 173 7).trans c4, (n 173 6).trans c5, fun y => (n 173 5).trans (c6 y), fun y => by rw [g 173 12 (fun e => absurd e.1 (by decide))]; exact c7 y, fun y => (n 173 8).trans (c8 y), fun y => (n 173 9).trans (c9 y)⟩, ⟨fun s hs => by rw [n]; exact d1 s hs, fun k h1 h2 => ?_, fun p hp => by rw [n]; exact d3 p hp, fun p hp => by rw [n]; exact d4 p hp, by rw [n]; exact d5, by rw [n]; exact d6⟩, p⟩
  rw [g 181 k (fun e => by rw [e.2] at h2; omega)]
  exact d2 k h1 h2
theorem rnew_no {s : Nat} (h : RS M0 t σ) (hn : ¬ (M0.1 173 7 = 2 ∧ keyS (M0.2 173 12).toInt = -1) ∨ 0 ≤ fndS σ (kV t σ)) (hv : v = 0) (e11 : M'.1 173 11 = M0.1 173 6) : LRr t (newS t s σ) v M' := by
  refine LRr.no ?_ h hv e11
  unfold newS
  by_cases q : isNm t σ = true
  · rw [if_pos q]
    refine if_neg ?_
    rcases hn with e | e
    · exact absurd (h.isn.mp q) e
    · omega
  · exact if_neg q
theorem rnew_go {s : Nat} {j : Int} (h : RS M0 t σ) (hs : s < 3) (hc : σ.2.1 s < 6) (hN : M0.1 173 7 = 2 ∧ keyS (M0.2 173 12).toInt = -1) (hf : fndS σ (kV t σ) < 0) (hj : j = 6 * (s : Int) + σ.2.1 s) (n : ∀ c' i', M1.1 c' i' = M0.1 c' i') (q : ∀ c' i', ¬ (c' = 181 ∧ i' = j.toNat) → M1.2 c' i' = M0.2 c' i') (hv : v = 1) (hn : RTk M' (txR M1) (M1.1 173 5)) (hF : Fr md M1 M') (hL : LFr ml M1 M') (hkd : keepR md ml = true) : LRr t (newS t s σ) v M' := by
  have h0 := h.2.2.2.2.2.1 s hs
  have hk : kK t σ = 2 := h.kind.symm.trans hN.1
  have e6 : j.toNat / 6 = s := by omega
  have e7 : ((j.toNat % 6 : Nat) : Int) = σ.2.1 s := by omega
  have h1 : RS M1 t σ := h.putn n q (by rw [e6, e7]; exact Int.le_refl _)
  have hg := h1.next (by omega) hn hF hL hkd
  have e8 : 6 * s + (σ.2.1 s).toNat = j.toNat := by omega
  have hr : newS t s σ = okS (goS t (σ.1, (σ.2.1, (fupd σ.2.2.1 (6 * s + (σ.2.1 s).toNat) (kV t σ), σ.2.2.2)))) := by
    unfold newS
    rw [if_pos (h.isn.mpr hN), if_pos hf]
  rw [hr]
  refine Or.inl ⟨okS_lt, hv, hg.nm ?_⟩
  show σ.2.1 ((6 * s + (σ.2.1 s).toNat) / 6) ≤ _
  rw [e8, e6, e7]
  exact Int.le_refl _
def NMR (t : TXT) (a : Int) (g : Int → PSt → RES) (σ : PSt) (v : Int) (M : JM) : Prop := (v = 1 ∧ RS M t σ ∧ nameS t a g σ = g (M.1 173 13) (goS t σ) ∧ 0 ≤ M.1 173 13 ∧ M.1 173 13 ≤ 5 ∧ 2 ≤ kK t σ) ∨ (v = 0 ∧ nameS t a g σ = badS (kF t σ) σ ∧ 0 ≤ kF t σ ∧ M.1 173 11 = kF t σ)
theorem rone_no (h : RS M0 t σ) (hn : ¬ (M0.1 173 7 = 2 ∧ keyS (M0.2 173 12).toInt = -1) ∨ fndS σ (kV t σ) < 0 ∨ fndS σ (kV t σ) / 6 ≠ a) (hv : v = 0) (e11 : M'.1 173 11 = M0.1 173 6) : NMR t a g σ v M' := by
  refine Or.inr ⟨hv, ?_, tF_nn h.2.2, e11.trans h.start⟩
  unfold nameS
  refine if_neg (fun q => ?_)
  rcases hn with e | e | e
  · exact e (h.isn.mp q.1)
  · have := q.2.1
    omega
  · exact e q.2.2
theorem rone_go {z : Int} (h : RS M0 t σ) (hN : M0.1 173 7 = 2 ∧ keyS (M0.2 173 12).toInt = -1) (hz : fndS σ (kV t σ) = 6 * a + z ∧ 0 ≤ z ∧ z ≤ 5) (ha : 0 ≤ a ∧ a < 3) (hv : v = 1) (k13 : M'.1 173 13 = z) (n : ∀ c' i', ¬ (c' = 173 ∧ i' = 13) → M'.1 c' i' = M0.1 c' i') (q : ∀ c' i', M'.2 c' i' = M0.2 c' i') : NMR t a g σ v M' := by
  have hk : kK t σ = 2 := h.kind.symm.trans hN.1
  refine Or.inl ⟨hv, h.st n q rfl, ?_, by omega, by omega, by omega⟩
  unfold nameS
  rw [if_pos ⟨h.isn.mpr hN, by omega, by omega⟩, k13, hz.1, show (6 * a + z) % 6 = z by omega]
theorem NMR.ok (h : NMR t a g σ v M) (hv : v ≠ 0) : RS M t σ ∧ nameS t a g σ = g (M.1 173 13) (goS t σ) ∧ 0 ≤ M.1 173 13 ∧ M.1 173 13 ≤ 5 ∧ 2 ≤ kK t σ := by
  rcases h with ⟨_, h2⟩ | ⟨h1, _⟩
  · exact h2
  · exact absurd h1 hv
theorem NMR.bad (h : NMR t a g σ v M) (hv : v = 0) : LRr t (nameS t a g σ) 0 M := by
  rcases h with ⟨h1, _⟩ | ⟨_, h2, h3, h4⟩
  · omega
  · rw [h2]
    exact Or.inr ⟨h3, rfl, h4⟩
end RFN
/-! The reference's lines. -/
section RLI
variable {M M0 M1 M3 M4 M' : JM} {t : TXT} {σ σ1 σ3 : PSt} {v v1 : Int} {f g : PSt → RES}
theorem rl_176 {i : Nat} (h : 3 ≤ i ∧ i ≤ 16 ∨ 53 ≤ i ∧ i ≤ 64) : rlost 176 i = false := by
  cases e : rlost 176 i with
  | false => rfl
  | true =>
    unfold rlost at e
    simp only [Bool.or_eq_true, Bool.and_eq_true] at e
    rcases e with (e | ⟨_, e | ⟨e, e2⟩ | ⟨e, e2⟩⟩) | ⟨e, _⟩
    · cases e
    · have := Nat.le_of_ble_eq_true e
      omega
    · have := Nat.le_of_ble_eq_true e
      have := Nat.le_of_ble_eq_true e2
      omega
    · have := Nat.le_of_ble_eq_true e
      have := Nat.le_of_ble_eq_true e2
      omega
    · cases e
theorem LRr.put {i : Nat} {r : RES} (h : LRr t r v M) (n : ∀ c' i', ¬ (c' = 176 ∧ i' = i) → M'.1 c' i' = M.1 c' i') (q : ∀ c' i', M'.2 c' i' = M.2 c' i') (hi : 3 ≤ i ∧ i ≤ 16 ∨ 53 ≤ i ∧ i ≤ 64) (hv : v1 = v) : LRr t r v1 M' := by
  rcases h with ⟨h1, h2, h3⟩ | ⟨h1, h2, h3⟩
  · exact Or.inl ⟨h1, hv.trans h2, h3.st n q (rl_176 hi)⟩
  · exact Or.inr ⟨h1, hv.trans h2, (n 173 11 (fun e => absurd e.1 (by decide))).trans h3⟩
/-- one more is counted -/
theorem RS.add {s : Nat} (hs : s < 3) (h : RS M0 t σ) (hc : σ.2.1 s < 6) (hw : (M0.2 181 (6 * s + (σ.2.1 s).toNat)).toInt = σ.2.2.1 (6 * s + (σ.2.1 s).toNat)) (hk : wok 7 (σ.2.2.1 (6 * s + (σ.2.1 s).toNat))) (hn : ∀ k : Nat, k < 18 → ((k % 6 : Nat) : Int) < σ.2.1 (k / 6) → σ.2.2.1 k ≠ σ.2.2.1 (6 * s + (σ.2.1 s).toNat)) (k1 : M'.1 176 s = M0.1 176 s + 1) (n : ∀ c' i', ¬ (c' = 176 ∧ i' = s) → M'.1 c' i' = M0.1 c' i') (q : ∀ c' i', M'.2 c' i' = M0.2 c' i') : RS M' t (incS s σ).2 := by
  obtain ⟨⟨c1, c2, c3, c4, c5, c6, c7, c8, c9⟩, ⟨d1, d2, d3, d4, d5, d6⟩, p1, p2, p3, p4, p5, p6⟩ := h
  have hcs := p4 s hs
  have e28 := d1 s hs
  have n3 : ∀ i', M'.1 173 i' = M0.1 173 i' := fun i' => n 173 i' (fun e => absurd e.1 (by decide))
  have hval : ∀ k : Nat, k < 18 → ((k % 6 : Nat) : Int) < fupd σ.2.1 s (σ.2.1 s + 1) (k / 6) → (((k % 6 : Nat) : Int) < σ.2.1 (k / 6) ∧ k ≠ 6 * s + (σ.2.1 s).toNat) ∨ k = 6 * s + (σ.2.1 s).toNat := by
    intro k h1 h2
    unfold fupd at h2
    by_cases c : k / 6 = s
    · rw [if_pos c] at h2
      by_cases c2 : k = 6 * s + (σ.2.1 s).toNat
      · exact Or.inr c2
      · refine Or.inl ⟨?_, c2⟩
        rw [c]
        omega
    · rw [if_neg c] at h2
      refine Or.inl ⟨h2, fun e => c ?_⟩
      omega
  refine ⟨⟨(uR_cg (fun j => n 174 j (fun e => absurd e.1 (by decide)))).trans c1, (n3 3).trans c2, (n3 4).trans c3, (n3 7).trans c4, (n3 6).trans c5, fun y => (n3 5).trans (c6 y), fun y => by rw [q]; exact c7 y, fun y => (n3 8).trans (c8 y), fun y => (n3 9).trans (c9 y)⟩, ⟨fun s' hs' => ?_, fun k h1 h2 => ?_, fun p hp => ?_, fun p hp => ?_, ?_, ?_⟩, p1, p2, p3, fun s' hs' => ?_, fun k h1 h2 => ?_, fun k k' h1 h2 h3 h4 he => ?_⟩
  · show M'.1 176 s' = fupd σ.2.1 s (σ.2.1 s + 1) s'
    unfold fupd
    by_cases c : s' = s
    · rw [if_pos c, c, k1, e28]
    · rw [if_neg c, n 176 s' (fun e => c e.2)]
      exact d1 s' hs'
  · show (M'.2 181 k).toInt = σ.2.2.1 k
    rw [q]
    rcases hval k h1 h2 with ⟨q1, q2⟩ | q1
    · exact d2 k h1 q1
    · rw [q1]
      exact hw
  · rw [n 176 (17 + p) (fun e => by have := e.2; omega)]
    exact d3 p hp
  · rw [n 176 (65 + p) (fun e => by have := e.2; omega)]
    exact d4 p hp
  · rw [n3]
    exact d5
  · rw [n3]
    exact d6
  · show 0 ≤ fupd σ.2.1 s (σ.2.1 s + 1) s' ∧ fupd σ.2.1 s (σ.2.1 s + 1) s' ≤ 6
    unfold fupd
    by_cases c : s' = s
    · rw [if_pos c]
      omega
    · rw [if_neg c]
      exact p4 s' hs'
  · show wok 7 (σ.2.2.1 k)
    rcases hval k h1 h2 with ⟨q1, q2⟩ | q1
    · exact p5 k h1 q1
    · rw [q1]
      exact hk
  · have he : σ.2.2.1 k = σ.2.2.1 k' := he
    rcases hval k h1 h3 with ⟨q1, q2⟩ | q1
    · rcases hval k' h2 h4 with ⟨q3, q4⟩ | q3
      · exact p6 k k' h1 h2 q1 q3 he
      · rw [q3] at he
        exact absurd he (hn k h1 q1)
    · rcases hval k' h2 h4 with ⟨q3, q4⟩ | q3
      · rw [q1] at he
        exact absurd he.symm (hn k' h2 q3)
      · rw [q1, q3]
theorem radd_fin {s : Nat} {j : Int} (hs : s < 3) (h1 : RS M1 t σ1) (hc : σ1.2.1 s < 6) (hk : kK t σ1 = 2) (hf : fndS σ1 (kV t σ1) < 0) (l2 : (newS t s σ1).1 < 0) (e3 : σ3.2 = (newS t s σ1).2.2) (h3 : RS M3 t σ3) (hj : j = 6 * (s : Int) + σ1.2.1 s) (hw : (M3.2 181 j.toNat).toInt = kV t σ1) (k1 : M4.1 176 s = M3.1 176 s + 1) (n : ∀ c' i', ¬ (c' = 176 ∧ i' = s) → M4.1 c' i' = M3.1 c' i') (q : ∀ c' i', M4.2 c' i' = M3.2 c' i') : RS M4 t (incS s σ3).2 := by
  have e := new_lt h1.2.2 l2
  have e2 : σ3.2 = (σ1.2.1, (fupd σ1.2.2.1 (6 * s + (σ1.2.1 s).toNat) (kV t σ1), σ1.2.2.2)) := by
    rw [e3, e]
    rfl
  have h0 := h1.2.2.2.2.2.1 s hs
  have hn : σ3.2.2.1 (6 * s + (σ3.2.1 s).toNat) = kV t σ1 := by
    rw [e2]
    show fupd σ1.2.2.1 (6 * s + (σ1.2.1 s).toNat) (kV t σ1) (6 * s + (σ1.2.1 s).toNat) = kV t σ1
    unfold fupd
    rw [if_pos rfl]
  have hsl : 6 * s + (σ3.2.1 s).toNat = j.toNat := by
    rw [e2]
    show 6 * s + (σ1.2.1 s).toNat = j.toNat
    omega
  refine RS.add hs h3 (by rw [e2]; exact hc) (by rw [hn, hsl]; exact hw) (by rw [hn]; exact (tV_wok h1.2.2.1 hk).1) (fun k hk18 hv => ?_) k1 n q
  rw [hn]
  have hv1 : ((k % 6 : Nat) : Int) < σ1.2.1 (k / 6) := by
    have := hv
    rw [e2] at this
    exact this
  have hne : k ≠ 6 * s + (σ1.2.1 s).toNat := by
    intro e9
    have e6 : k / 6 = s := by omega
    rw [e6] at hv1
    omega
  have hnm : σ3.2.2.1 k = σ1.2.2.1 k := by
    rw [e2]
    show fupd σ1.2.2.1 (6 * s + (σ1.2.1 s).toNat) (kV t σ1) k = σ1.2.2.1 k
    unfold fupd
    rw [if_neg hne]
  rw [hnm]
  exact fnd_no hf k hk18 hv1
theorem RS.flagx {c i j : Nat} (h : RS M0 t σ) (n : ∀ c' i', ¬ (c' = c ∧ i' = i) → M'.1 c' i' = M0.1 c' i') (q : ∀ c' i', M'.2 c' i' = M0.2 c' i') (n1 : 174 ≠ c) (n2 : ∀ i' : Nat, i' < 10 → ¬ (173 = c ∧ i' = i)) (n3 : ∀ i' : Nat, i' < 3 → ¬ (176 = c ∧ i' = i)) (F3 : ∀ p : Nat, p < 36 → (M'.1 176 (17 + p) = -1 ↔ fupd σ.2.2.2 j 1 p = 0)) (F4 : ∀ p : Nat, p < 36 → 0 ≤ M'.1 176 (65 + p) ∧ (M'.1 176 (65 + p) = 0 ↔ fupd σ.2.2.2 j 1 (36 + p) = 0)) (F5 : M'.1 173 24 = 0 ↔ fupd σ.2.2.2 j 1 72 = 0) (F6 : M'.1 173 25 = 0 ↔ fupd σ.2.2.2 j 1 73 = 0) : RS M' t (setS j σ).2 := by
  have g : ∀ c' i', c' ≠ c → M'.1 c' i' = M0.1 c' i' := fun c' i' e => n c' i' (fun e2 => e e2.1)
  have g3 : ∀ i', i' < 10 → M'.1 173 i' = M0.1 173 i' := fun i' e => n 173 i' (n2 i' e)
  have g6 : ∀ i', i' < 3 → M'.1 176 i' = M0.1 176 i' := fun i' e => n 176 i' (n3 i' e)
  obtain ⟨⟨c1, c2, c3, c4, c5, c6, c7, c8, c9⟩, ⟨d1, d2, d3, d4, d5, d6⟩, p⟩ := h
  exact ⟨⟨(uR_cg (fun j => g 174 j n1)).trans c1, (g3 3 (by decide)).trans c2, (g3 4 (by decide)).trans c3, (g3 7 (by decide)).trans c4, (g3 6 (by decide)).trans c5, fun y => (g3 5 (by decide)).trans (c6 y), fun y => by rw [q]; exact c7 y, fun y => (g3 8 (by decide)).trans (c8 y), fun y => (g3 9 (by decide)).trans (c9 y)⟩, ⟨fun s hs => by rw [g6 s hs]; exact d1 s hs, fun k h1 h2 => by rw [q]; exact d2 k h1 h2, F3, F4, F5, F6⟩, p⟩
/-- a flag of what was read is set -/
theorem RS.flag {c i j : Nat} (h : RS M0 t σ) (n : ∀ c' i', ¬ (c' = c ∧ i' = i) → M'.1 c' i' = M0.1 c' i') (q : ∀ c' i', M'.2 c' i' = M0.2 c' i') (hc : (c = 176 ∧ 17 ≤ i ∧ i < 53 ∧ j + 17 = i ∧ M'.1 c i ≠ -1) ∨ (c = 176 ∧ 65 ≤ i ∧ i < 101 ∧ j + 29 = i ∧ 0 < M'.1 c i) ∨ (c = 173 ∧ i = 24 ∧ j = 72 ∧ M'.1 c i ≠ 0) ∨ (c = 173 ∧ i = 25 ∧ j = 73 ∧ M'.1 c i ≠ 0)) : RS M' t (setS j σ).2 := by
  have d3 := h.2.1.2.2.1
  have d4 := h.2.1.2.2.2.1
  have d5 := h.2.1.2.2.2.2.1
  have d6 := h.2.1.2.2.2.2.2
  rcases hc with ⟨rfl, hi, hi2, hj, y⟩ | ⟨rfl, hi, hi2, hj, y⟩ | ⟨rfl, rfl, rfl, y⟩ | ⟨rfl, rfl, rfl, y⟩
  · refine RS.flagx h n q (by decide) (fun i' _ e => absurd e.1 (by decide)) (fun i' hi' e => by have := e.2; omega) (fun p hp => ?_) (fun p hp => ?_) ?_ ?_
    · by_cases e : p = j
      · rw [e, show 17 + j = i by omega]; exact fup_set y
      · rw [fup_ne e, n 176 (17 + p) (fun e2 => e (by have := e2.2; omega))]; exact d3 p hp
    · rw [fup_ne (by omega), n 176 (65 + p) (fun e2 => by have := e2.2; omega)]; exact d4 p hp
    · rw [fup_ne (by omega), n 173 24 (fun e2 => absurd e2.1 (by decide))]; exact d5
    · rw [fup_ne (by omega), n 173 25 (fun e2 => absurd e2.1 (by decide))]; exact d6
  · refine RS.flagx h n q (by decide) (fun i' _ e => absurd e.1 (by decide)) (fun i' hi' e => by have := e.2; omega) (fun p hp => ?_) (fun p hp => ?_) ?_ ?_
    · rw [fup_ne (by omega), n 176 (17 + p) (fun e2 => by have := e2.2; omega)]; exact d3 p hp
    · by_cases e : 36 + p = j
      · rw [e, show 65 + p = i by omega]; exact ⟨by omega, fup_set (by omega)⟩
      · rw [fup_ne e, n 176 (65 + p) (fun e2 => e (by have := e2.2; omega))]; exact d4 p hp
    · rw [fup_ne (by omega), n 173 24 (fun e2 => absurd e2.1 (by decide))]; exact d5
    · rw [fup_ne (by omega), n 173 25 (fun e2 => absurd e2.1 (by decide))]; exact d6
  · refine RS.flagx h n q (by decide) (fun i' hi' e => by have := e.2; omega) (fun i' _ e => absurd e.1 (by decide)) (fun p hp => ?_) (fun p hp => ?_) ?_ ?_
    · rw [fup_ne (by omega), n 176 (17 + p) (fun e2 => absurd e2.1 (by decide))]; exact d3 p hp
    · rw [fup_ne (by omega), n 176 (65 + p) (fun e2 => absurd e2.1 (by decide))]; exact d4 p hp
    · exact fup_set y
    · rw [fup_ne (by decide), n 173 25 (fun e2 => absurd e2.2 (by decide))]; exact d6
  · refine RS.flagx h n q (by decide) (fun i' hi' e => by have := e.2; omega) (fun i' _ e => absurd e.1 (by decide)) (fun p hp => ?_) (fun p hp => ?_) ?_ ?_
    · rw [fup_ne (by omega), n 176 (17 + p) (fun e2 => absurd e2.1 (by decide))]; exact d3 p hp
    · rw [fup_ne (by omega), n 176 (65 + p) (fun e2 => absurd e2.1 (by decide))]; exact d4 p hp
    · rw [fup_ne (by decide), n 173 24 (fun e2 => absurd e2.2 (by decide))]; exact d5
    · exact fup_set y
/-- a number is read and put where a flag lies -/
theorem rset_fin {a b : Int} {i j : Nat} (h : LRr t (numS t a b σ) v M) (hv : v1 = v) (n : ∀ c' i', ¬ (c' = 176 ∧ i' = i) → M'.1 c' i' = M.1 c' i') (q : ∀ c' i', M'.2 c' i' = M.2 c' i') (hs : v ≠ 0 → (17 ≤ i ∧ i < 53 ∧ j + 17 = i ∧ M'.1 176 i ≠ -1) ∨ (65 ≤ i ∧ i < 101 ∧ j + 29 = i ∧ 0 < M'.1 176 i)) : LRr t (seqS (numS t a b) (setS j) σ) v1 M' := by
  by_cases c : v = 0
  · rw [seq_bad (h.bad c).1]
    exact Or.inr ⟨(h.bad c).1, hv.trans c, (n 173 11 (fun e => absurd e.1 (by decide))).trans (h.bad c).2⟩
  · rw [seq_ok (h.ok c).1]
    have hv2 : v = 1 := by
      rcases h with ⟨_, h2, _⟩ | ⟨_, h2, _⟩
      · exact h2
      · exact absurd h2 c
    refine Or.inl ⟨okS_lt, hv.trans hv2, RS.flag (c := 176) (i := i) (h.ok c).2 n q ?_⟩
    rcases hs c with e | e
    · exact Or.inl ⟨rfl, e⟩
    · exact Or.inr (Or.inl ⟨rfl, e⟩)
theorem wm_cv {j : Nat} {a b : Int} (h : LRr t (numS t a b (goS t (setS j σ).2)) v M) : LRr t (seqS (numS t a b) (setS j) (goS t σ)) v M := by
  unfold numS at h
  by_cases c : kK t (goS t σ) = 3 ∧ a ≤ kV t (goS t σ) ∧ kV t (goS t σ) ≤ b
  · have c' : kK t (goS t (setS j σ).2) = 3 ∧ a ≤ kV t (goS t (setS j σ).2) ∧ kV t (goS t (setS j σ).2) ≤ b := c
    rw [if_pos c'] at h
    have e : numS t a b (goS t σ) = okS (goS t (goS t σ)) := if_pos c
    rw [seq_ok (by rw [e]; exact okS_lt), e]
    exact h
  · have c' : ¬ (kK t (goS t (setS j σ).2) = 3 ∧ a ≤ kV t (goS t (setS j σ).2) ∧ kV t (goS t (setS j σ).2) ≤ b) := c
    rw [if_neg c'] at h
    have e : numS t a b (goS t σ) = badS (kF t (goS t σ)) (goS t σ) := if_neg c
    have hb : 0 ≤ kF t (goS t σ) := by
      rcases h with ⟨_, _, h3⟩ | ⟨h1, _⟩
      · have h4 : 0 ≤ kF t (goS t (setS j σ).2) := tF_nn h3.2.2
        exact h4
      · exact h1
    rw [seq_bad (by rw [e]; exact hb), e]
    rcases h with ⟨h1, _⟩ | ⟨h1, h2, h3⟩
    · have h1 : kF t (goS t σ) < 0 := h1
      omega
    · exact Or.inr ⟨h1, h2, h3⟩
theorem rwm_no {i j : Nat} (hi : i = 24 ∧ j = 72 ∨ i = 25 ∧ j = 73) (h : RS M0 t σ) (hw : M0.1 173 i ≠ 0) (hv : v = 0) (e11 : M'.1 173 11 = M0.1 173 6) : LRr t (wmS t j σ) v M' := by
  refine LRr.no ?_ h hv e11
  unfold wmS
  refine if_pos ?_
  rcases hi with ⟨rfl, rfl⟩ | ⟨rfl, rfl⟩
  · exact fun e => hw (h.2.1.2.2.2.2.1.mpr e)
  · exact fun e => hw (h.2.1.2.2.2.2.2.mpr e)
theorem rwm_eq {i j : Nat} (hi : i = 24 ∧ j = 72 ∨ i = 25 ∧ j = 73) (h : RS M0 t σ) (hw : M0.1 173 i = 0) : wmS t j σ = seqS (numS t 0 9) (setS j) (goS t σ) := by
  unfold wmS
  refine if_neg ?_
  rcases hi with ⟨rfl, rfl⟩ | ⟨rfl, rfl⟩
  · exact fun e => e (h.2.1.2.2.2.2.1.mp hw)
  · exact fun e => e (h.2.1.2.2.2.2.2.mp hw)
theorem rfl_m {x y : Int} (h : RS M t σ) (hx : 0 ≤ x ∧ x < 36) (hy : y = 17 + x) : M.1 176 y.toNat = -1 ↔ σ.2.2.2 x.toNat = 0 := by
  have := h.2.1.2.2.1 x.toNat (by omega)
  rw [show y.toNat = 17 + x.toNat by omega]
  exact this
theorem rfl_o {x y z : Int} (h : RS M t σ) (hx : 0 ≤ x ∧ x < 36) (hy : y = 65 + x) (hz : z = 36 + x) : 0 ≤ M.1 176 y.toNat ∧ (M.1 176 y.toNat = 0 ↔ σ.2.2.2 z.toNat = 0) := by
  have := h.2.1.2.2.2.1 x.toNat (by omega)
  rw [show y.toNat = 65 + x.toNat by omega, show z.toNat = 36 + x.toNat by omega]
  exact this
/-- a line by its first word -/
def WD (M : JM) (k : Int) : Prop := M.1 173 7 = 2 ∧ (M.2 173 12).toInt = kwR.getD k.toNat 0
theorem WD.y {k : Int} (h : RS M t σ) (hw : WD M k) (hk : 0 ≤ k ∧ k < 24) : kK t σ = 2 ∧ keyS (kV t σ) = k := by
  have h2 : kK t σ = 2 := h.kind.symm.trans hw.1
  refine ⟨h2, keyS_ge hk ?_⟩
  rw [← h.word h2]
  exact hw.2.symm
theorem WD.n {k : Int} (h : RS M t σ) (hw : ¬ WD M k) (hk : 0 ≤ k) : ¬ (kK t σ = 2 ∧ keyS (kV t σ) = k) := fun e => hw ⟨h.kind.trans e.1, by rw [h.word e.1]; exact (keyS_eq hk e.2).symm⟩
theorem rl_0 (h : RS M t σ) (w0 : WD M 0) : lineS t σ = manS t σ := by
  unfold lineS
  rw [if_pos (w0.y h (by decide))]
theorem rl_1 (h : RS M t σ) (n0 : ¬ WD M 0) (w1 : WD M 1) : lineS t σ = forS t σ := by
  unfold lineS
  rw [if_neg (WD.n h n0 (by decide)), if_pos (w1.y h (by decide))]
theorem rl_2 (h : RS M t σ) (n0 : ¬ WD M 0) (n1 : ¬ WD M 1) (w1 : WD M 2) : lineS t σ = minS t σ := by
  unfold lineS
  rw [if_neg (WD.n h n0 (by decide)), if_neg (WD.n h n1 (by decide)), if_pos (w1.y h (by decide))]
theorem rl_3 (h : RS M t σ) (n0 : ¬ WD M 0) (n1 : ¬ WD M 1) (n2 : ¬ WD M 2) (w1 : WD M 3) : lineS t σ = gooS t σ := by
  unfold lineS
  rw [if_neg (WD.n h n0 (by decide)), if_neg (WD.n h n1 (by decide)), if_neg (WD.n h n2 (by decide)), if_pos (w1.y h (by decide))]
theorem rl_4 (h : RS M t σ) (n0 : ¬ WD M 0) (n1 : ¬ WD M 1) (n2 : ¬ WD M 2) (n3 : ¬ WD M 3) (w1 : WD M 4) : lineS t σ = oweS t σ := by
  unfold lineS
  rw [if_neg (WD.n h n0 (by decide)), if_neg (WD.n h n1 (by decide)), if_neg (WD.n h n2 (by decide)), if_neg (WD.n h n3 (by decide)), if_pos (w1.y h (by decide))]
theorem rl_5 (h : RS M t σ) (n0 : ¬ WD M 0) (n1 : ¬ WD M 1) (n2 : ¬ WD M 2) (n3 : ¬ WD M 3) (n4 : ¬ WD M 4) (w1 : WD M 5) : lineS t σ = wmS t 72 σ := by
  unfold lineS
  rw [if_neg (WD.n h n0 (by decide)), if_neg (WD.n h n1 (by decide)), if_neg (WD.n h n2 (by decide)), if_neg (WD.n h n3 (by decide)), if_neg (WD.n h n4 (by decide)), if_pos (w1.y h (by decide))]
theorem rl_6 (h : RS M t σ) (n0 : ¬ WD M 0) (n1 : ¬ WD M 1) (n2 : ¬ WD M 2) (n3 : ¬ WD M 3) (n4 : ¬ WD M 4) (n5 : ¬ WD M 5) (w1 : WD M 6) : lineS t σ = wmS t 73 σ := by
  unfold lineS
  rw [if_neg (WD.n h n0 (by decide)), if_neg (WD.n h n1 (by decide)), if_neg (WD.n h n2 (by decide)), if_neg (WD.n h n3 (by decide)), if_neg (WD.n h n4 (by decide)), if_neg (WD.n h n5 (by decide)), if_pos (w1.y h (by decide))]
theorem rl_no (h : RS M t σ) (n0 : ¬ WD M 0) (n1 : ¬ WD M 1) (n2 : ¬ WD M 2) (n3 : ¬ WD M 3) (n4 : ¬ WD M 4) (n5 : ¬ WD M 5) (n6 : ¬ WD M 6) : lineS t σ = badS (kF t σ) σ := by
  unfold lineS
  rw [if_neg (WD.n h n0 (by decide)), if_neg (WD.n h n1 (by decide)), if_neg (WD.n h n2 (by decide)), if_neg (WD.n h n3 (by decide)), if_neg (WD.n h n4 (by decide)), if_neg (WD.n h n5 (by decide)), if_neg (WD.n h n6 (by decide))]
/-- the loop over the lines -/
def RLr (t : TXT) (M : JM) (n : Int) : Prop := 0 ≤ n ∧ ∃ σ : PSt, RS M t σ ∧ 2 * n ≤ σ.1 ∧ allS t 1000 0 st0 = allS t (1000 - n).toNat n σ
theorem RLr.bd {n : Int} (h : RLr t M n) : n ≤ 470 := by
  obtain ⟨_, σ, h1, h2, _⟩ := h
  have := h1.2.2.2.1
  have := h1.2.2.2.2.1.1
  omega
theorem RLr.no {n : Int} (h : RLr t M n) (h7 : M.1 173 7 ≠ 0) (hl : ∀ σ : PSt, RS M t σ → LRr t (oneS t σ) 0 M') : -1 - M'.1 173 11 = allS t 1000 0 st0 := by
  have hb := h.bd
  obtain ⟨h0, σ, h1, h2, h3⟩ := h
  have hk : kK t σ ≠ 0 := fun e => h7 (h1.kind.trans e)
  obtain ⟨b1, b2⟩ := (hl σ h1).bad rfl
  rw [h3, show (1000 - n).toNat = (999 - n).toNat + 1 by omega, allS_st hk, if_neg (by omega), b2]
theorem RLr.go {n : Int} (h : RLr t M n) (h7 : M.1 173 7 ≠ 0) (hl : ∀ σ : PSt, RS M t σ → LRr t (oneS t σ) 1 M') : RLr t M' (n + 1) := by
  have hb := h.bd
  obtain ⟨h0, σ, h1, h2, h3⟩ := h
  have hk : kK t σ ≠ 0 := fun e => h7 (h1.kind.trans e)
  obtain ⟨b1, b2⟩ := (hl σ h1).ok (by decide)
  have hm := one_mo h1.2.2.2.2.1.2 h1.2.2.1 b1
  refine ⟨by omega, (oneS t σ).2, b2, by omega, ?_⟩
  rw [h3, show (1000 - n).toNat = (999 - n).toNat + 1 by omega, allS_st hk, if_pos b1, show (1000 - (n + 1)).toNat = (999 - n).toNat by omega]
theorem RLr.fin {n : Int} (h : RLr t M n) (h7 : M.1 173 7 = 0) : n = allS t 1000 0 st0 := by
  have hb := h.bd
  obtain ⟨h0, σ, h1, h2, h3⟩ := h
  rw [h3, show (1000 - n).toNat = (999 - n).toNat + 1 by omega]
  show n = if kK t σ = 0 then n else _
  rw [if_pos (h1.kind.symm.trans h7)]
def RZ (M : JM) (b : Int) : Prop := (∀ j : Nat, j < 3 → M.1 176 j = 0) ∧ (∀ p : Nat, p < 36 → M.1 176 (65 + p) = 0) ∧ ∀ p : Nat, (p : Int) < b → M.1 176 (17 + p) = -1
theorem RZ.start (h : FLP 176 0 101 M) : RZ M 0 := ⟨fun j hj => h j (by omega), fun p hp => h (65 + p) (by omega), fun p hp => absurd hp (by omega)⟩
theorem RZ.st {b : Int} {i : Nat} (h : RZ M b) (hb : 0 ≤ b ∧ b < 36) (hi : i = (17 + b).toNat) (k : M'.1 176 i = -1) (n : ∀ c' i', ¬ (c' = 176 ∧ i' = i) → M'.1 c' i' = M.1 c' i') : RZ M' (b + 1) := by
  obtain ⟨h1, h2, h3⟩ := h
  refine ⟨fun j hj => (n 176 j (fun e => by have := e.2; omega)).trans (h1 j hj), fun p hp => (n 176 (65 + p) (fun e => by have := e.2; omega)).trans (h2 p hp), fun p hp => ?_⟩
  by_cases e : (p : Int) = b
  · rw [show 17 + p = i by omega]
    exact k
  · exact (n 176 (17 + p) (fun e2 => e (by have := e2.2; omega))).trans (h3 p (by omega))
theorem RTk.cg {i : Int} (h : RTk M t i) (u : ∀ j, M'.1 174 j = M.1 174 j) (n : ∀ j, 3 ≤ j ∧ j ≤ 9 → M'.1 173 j = M.1 173 j) (q : M'.2 173 12 = M.2 173 12) : RTk M' t i := by
  obtain ⟨c1, c2, c3, c4, c5, c6, c7, c8, c9⟩ := h
  exact ⟨(uR_cg u).trans c1, (n 3 (by decide)).trans c2, (n 4 (by decide)).trans c3, (n 7 (by decide)).trans c4, (n 6 (by decide)).trans c5, fun y => (n 5 (by decide)).trans (c6 y), fun y => by rw [q]; exact c7 y, fun y => (n 8 (by decide)).trans (c8 y), fun y => (n 9 (by decide)).trans (c9 y)⟩
theorem RLr.start (hc : RTk M t 0) (hz : RZ M 36) (h24 : M.1 173 24 = 0) (h25 : M.1 173 25 = 0) (hn : 0 ≤ t.2.1 ∧ t.2.1 ≤ 940) (hm : 0 ≤ t.2.2) : RLr t M 0 := by
  refine ⟨Int.le_refl _, st0, ⟨hc, ⟨fun s hs => hz.1 s hs, fun k h1 h2 => ?_, fun p hp => ⟨fun _ => rfl, fun _ => hz.2.2 p (by omega)⟩, fun p hp => ⟨by rw [hz.2.1 p hp]; exact Int.le_refl _, ⟨fun _ => rfl, fun _ => hz.2.1 p hp⟩⟩, ⟨fun _ => rfl, fun _ => h24⟩, ⟨fun _ => rfl, fun _ => h25⟩⟩, PI.zero hn hm⟩, by show 2 * 0 ≤ (0 : Int); decide, rfl⟩
  have h2 : ((k % 6 : Nat) : Int) < 0 := h2
  omega
end RLI
theorem be_tx {M0 M5 M6 : JM} {n m : Int} (h : RTk M6 (txR M5) (M5.1 173 5)) (u : ∀ j, M5.1 174 j = M0.1 174 j) (e2 : M5.1 173 3 = n) (e3 : M5.1 173 4 = m) (e4 : M5.1 173 5 = 0) : RTk M6 (uR M0, (n, m)) 0 := by
  have e : txR M5 = (uR M0, (n, m)) := by
    show (uR M5, (M5.1 173 3, M5.1 173 4)) = _
    rw [uR_cg u, e2, e3]
  rw [e, e4] at h
  exact h
