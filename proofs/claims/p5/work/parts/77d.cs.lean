/-! The class's reading at hand: its tokens and its draft against what the text says. -/
theorem tE_le {u : Nat → Int} {n m i : Int} (hi : 0 ≤ i) (hk : 2 ≤ tK u n m i) : i < tE u n i ∧ tE u n i ≤ n := by
  have hP := tP_ok (u := u) (n := n) hi
  have hQ := tQ_ok (u := u) (n := n) hi
  have h1 := hP.1
  have h2 := hQ.1
  have hlt : tP u n i < n := by
    unfold tK at hk
    by_cases c1 : m < n ∧ m ≤ tP u n i
    · rw [if_pos c1] at hk
      omega
    · rw [if_neg c1] at hk
      by_cases c2 : n ≤ tP u n i
      · rw [if_pos c2] at hk
        omega
      · omega
  unfold tE
  have h3 := hQ.2.1
  by_cases c : tQ u n i = tP u n i
  · rw [if_pos c]
    omega
  · rw [if_neg c]
    omega
theorem okS_lt {σ : PSt} : (okS σ).1 < 0 := show (-1 : Int) < 0 by decide
def PI (t : TXT) (σ : PSt) : Prop := 0 ≤ σ.1 ∧ σ.1 ≤ t.2.1 ∧ (t.2.1 ≤ 940 ∧ 0 ≤ t.2.2) ∧ (∀ s : Nat, s < 3 → 0 ≤ σ.2.1 s ∧ σ.2.1 s ≤ 6) ∧ (∀ k : Nat, k < 18 → ((k % 6 : Nat) : Int) < σ.2.1 (k / 6) → wok 7 (σ.2.2.1 k)) ∧ (∀ k k' : Nat, k < 18 → k' < 18 → ((k % 6 : Nat) : Int) < σ.2.1 (k / 6) → ((k' % 6 : Nat) : Int) < σ.2.1 (k' / 6) → σ.2.2.1 k = σ.2.2.1 k' → k = k')
def DR (M : JM) (σ : PSt) : Prop := (∀ s : Nat, s < 3 → M.1 28 s = σ.2.1 s) ∧ (∀ k : Nat, k < 18 → ((k % 6 : Nat) : Int) < σ.2.1 (k / 6) → (M.2 29 k).toInt = cw (σ.2.2.1 k)) ∧ (∀ p : Nat, p < 36 → (M.1 32 p = -1 ↔ σ.2.2.2 p = 0)) ∧ (∀ p : Nat, p < 36 → (M.1 39 p = 0 ↔ σ.2.2.2 (36 + p) = 0)) ∧ (M.1 27 6 = -1 ↔ σ.2.2.2 72 = 0) ∧ (M.1 27 7 = -1 ↔ σ.2.2.2 73 = 0)
def CS (M : JM) (t : TXT) (σ : PSt) : Prop := CTk M t σ.1 ∧ M.1 1 12 = 0 ∧ DR M σ ∧ PI t σ
def LRc (t : TXT) (r : RES) (v : Int) (M : JM) : Prop := (r.1 < 0 ∧ v = 1 ∧ CS M t r.2) ∨ (0 ≤ r.1 ∧ v = 0 ∧ M.1 1 12 ≠ 0 ∧ M.1 1 13 = r.1)
theorem LRc.ok {t : TXT} {r : RES} {v : Int} {M : JM} (h : LRc t r v M) (hv : v ≠ 0) : r.1 < 0 ∧ CS M t r.2 := by
  rcases h with ⟨h1, h2, h3⟩ | ⟨h1, h2, h3⟩
  · exact ⟨h1, h3⟩
  · exact absurd h2 hv
theorem LRc.bad {t : TXT} {r : RES} {v : Int} {M : JM} (h : LRc t r v M) (hv : v = 0) : 0 ≤ r.1 ∧ M.1 1 12 ≠ 0 ∧ M.1 1 13 = r.1 := by
  rcases h with ⟨h1, h2, h3⟩ | ⟨h1, h2, h3⟩
  · omega
  · exact ⟨h1, h3⟩
/-- frames that leave the draft be -/
def keepD (md ml : List (Nat × (Nat × Nat))) : Bool := md.all (fun q => !(Nat.beq q.1 27 || (Nat.beq q.1 28 || (Nat.beq q.1 32 || Nat.beq q.1 39)))) && ml.all (fun q => !Nat.beq q.1 29)
theorem jin_cell {md : List (Nat × (Nat × Nat))} {c i : Nat} (h : md.all (fun q => !Nat.beq q.1 c) = true) : jin md c i = false := by
  unfold jin
  rw [List.any_eq_false]
  intro q hq hc
  have h1 := List.all_eq_true.mp h q hq
  simp only [Bool.and_eq_true] at hc
  rw [hc.1] at h1
  cases h1
theorem DR.fr {md ml : List (Nat × (Nat × Nat))} {M M' : JM} {σ : PSt} (h : DR M σ) (hF : Fr md M M') (hL : LFr ml M M') (hk : keepD md ml = true) : DR M' σ := by
  unfold keepD at hk
  simp only [Bool.and_eq_true] at hk
  have g : ∀ c : Nat, (c = 27 ∨ c = 28 ∨ c = 32 ∨ c = 39) → ∀ i, M'.1 c i = M.1 c i := fun c hc i => hF c i (jin_cell (List.all_eq_true.mpr (fun q hq => by
    have h1 := List.all_eq_true.mp hk.1 q hq
    simp only [Bool.not_eq_true', Bool.or_eq_false_iff] at h1 ⊢
    rcases hc with rfl | rfl | rfl | rfl
    · exact h1.1
    · exact h1.2.1
    · exact h1.2.2.1
    · exact h1.2.2.2)))
  have gl : ∀ i, M'.2 29 i = M.2 29 i := fun i => hL 29 i (jin_cell hk.2)
  obtain ⟨d1, d2, d3, d4, d5, d6⟩ := h
  refine ⟨fun s hs => ?_, fun k h1 h2 => ?_, fun p hp => ?_, fun p hp => ?_, ?_, ?_⟩
  · rw [g 28 (by omega)]
    exact d1 s hs
  · rw [gl]
    exact d2 k h1 h2
  · rw [g 32 (by omega)]
    exact d3 p hp
  · rw [g 39 (by omega)]
    exact d4 p hp
  · rw [g 27 (by omega)]
    exact d5
  · rw [g 27 (by omega)]
    exact d6
theorem CTk.tx {M : JM} {t : TXT} {i : Int} (h : CTk M t i) : txC M = t := by
  obtain ⟨h1, h2, h3, -⟩ := h
  show (uC M, (M.1 1 2, M.1 1 3)) = t
  rw [h1, h2, h3]
/-- the next token -/
theorem CS.next {md ml : List (Nat × (Nat × Nat))} {M M' : JM} {t : TXT} {σ : PSt} (h : CS M t σ) (hk : 2 ≤ kK t σ) (hn : M.1 1 4 ≤ M.1 1 2 → CTk M' (txC M) (M.1 1 4)) (hf : M'.1 1 12 = M.1 1 12) (hF : Fr md M M') (hL : LFr ml M M') (hkd : keepD md ml = true) : CS M' t (goS t σ) := by
  obtain ⟨c, f0, d, p⟩ := h
  have hb := tE_le (u := t.1) (n := t.2.1) (m := t.2.2) p.1 hk
  have e4 : M.1 1 4 = tE t.1 t.2.1 σ.1 := c.2.2.2.2.2.2.1 hk
  have hc := hn (by rw [e4, c.2.1]; exact hb.2)
  rw [c.tx, e4] at hc
  exact ⟨hc, by rw [hf]; exact f0, d.fr hF hL hkd, by show 0 ≤ tE t.1 t.2.1 σ.1; have := p.1; omega, hb.2, p.2.2⟩
/-! The class's steps over a token. -/
theorem tK_rng (u : Nat → Int) (n m i : Int) : 0 ≤ tK u n m i ∧ tK u n m i ≤ 4 := by
  unfold tK
  split
  · omega
  · split
    · omega
    · split
      · split <;> omega
      · split
        · split <;> omega
        · split <;> omega
theorem kC_inj {a b : Int} (ha : 0 ≤ a ∧ a ≤ 4) (hb : 0 ≤ b ∧ b ≤ 4) (h : kC a = kC b) : a = b := by
  unfold kC at h
  split at h <;> split at h <;> (try split at h) <;> (try split at h) <;> omega
theorem kC_eq {k : Int} (h : 0 ≤ k ∧ k ≤ 4) : (kC k = 0 ↔ k = 0) ∧ (kC k = 4 ↔ k = 1) ∧ (kC k = 1 ↔ k = 2) ∧ (kC k = 2 ↔ k = 3) ∧ (kC k = 3 ↔ k = 4) := by
  unfold kC
  split
  · omega
  · split <;> omega
theorem tF_nn {t : TXT} {σ : PSt} (h : PI t σ) : 0 ≤ kF t σ := by
  unfold kF tF
  have h1 := tP_ge (u := t.1) (n := t.2.1) h.1
  have h2 := h.2.2.1.2
  have h3 := h.1
  split <;> omega
def sgnS (t : TXT) (c : Int) (σ : PSt) : RES := if kK t σ = 4 ∧ kV t σ = c then okS (goS t σ) else badS (kF t σ) σ
theorem endS_eq (t : TXT) : endS t = sgnS t 59 := rfl
section CST
variable {M0 M1 M' : JM} {t : TXT} {σ : PSt} {v : Int} {md ml : List (Nat × (Nat × Nat))}
theorem CS.kind (h : CS M0 t σ) : (M0.1 1 6 = 0 ↔ kK t σ = 0) ∧ (M0.1 1 6 = 4 ↔ kK t σ = 1) ∧ (M0.1 1 6 = 1 ↔ kK t σ = 2) ∧ (M0.1 1 6 = 2 ↔ kK t σ = 3) ∧ (M0.1 1 6 = 3 ↔ kK t σ = 4) := by
  have e : M0.1 1 6 = kC (kK t σ) := h.1.2.2.2.1
  rw [e]
  exact kC_eq (tK_rng _ _ _ _)
theorem CS.start (h : CS M0 t σ) : M0.1 1 5 = kF t σ := h.1.2.2.2.2.1
theorem CS.val (h : CS M0 t σ) (hk : 3 ≤ kK t σ) : M0.1 1 9 = kV t σ := h.1.2.2.2.2.2.2.2.2 hk
theorem CS.word (h : CS M0 t σ) (hk : kK t σ = 2) : (M0.2 1 8).toInt = cw (kV t σ) := h.1.2.2.2.2.2.2.2.1 hk
theorem CS.key (h : CS M0 t σ) : M0.1 1 7 = (if kK t σ = 2 then keyS (kV t σ) else -1) := h.1.2.2.2.2.2.1
/-- a step that fails: the fault stands, and its place -/
theorem LRc.no {r : RES} (hr : r = badS (kF t σ) σ) (h : CS M0 t σ) (hv : v = 0) (e12 : M'.1 1 12 ≠ 0) (e13 : M'.1 1 13 = M0.1 1 5) : LRc t r v M' := by
  subst hr
  exact Or.inr ⟨tF_nn h.2.2.2, hv, e12, e13.trans h.start⟩
/-- a step that goes on to the next token -/
theorem LRc.go {r : RES} (hr : r = okS (goS t σ)) (h : CS M0 t σ) (hk : 2 ≤ kK t σ) (hv : v = 1) (hn : M0.1 1 4 ≤ M0.1 1 2 → CTk M' (txC M0) (M0.1 1 4)) (hf : M'.1 1 12 = M0.1 1 12) (hF : Fr md M0 M') (hL : LFr ml M0 M') (hkd : keepD md ml = true) : LRc t r v M' := by
  subst hr
  exact Or.inl ⟨okS_lt, hv, h.next hk hn hf hF hL hkd⟩
theorem sgn_no {a : Int} (h : CS M0 t σ) (hn : M0.1 1 6 ≠ 3 ∨ M0.1 1 9 ≠ a) (hv : v = 0) (e12 : M'.1 1 12 ≠ 0) (e13 : M'.1 1 13 = M0.1 1 5) : LRc t (sgnS t a σ) v M' := by
  refine LRc.no ?_ h hv e12 e13
  unfold sgnS
  refine if_neg (fun q => ?_)
  have h1 := h.kind.2.2.2.2.mpr q.1
  have h2 := h.val (by omega)
  rcases hn with e | e
  · exact e h1
  · exact e (h2.trans q.2)
theorem sgn_go {a : Int} (h : CS M0 t σ) (h6 : M0.1 1 6 = 3) (h9 : M0.1 1 9 = a) (hv : v = 1) (hn : M0.1 1 4 ≤ M0.1 1 2 → CTk M' (txC M0) (M0.1 1 4)) (hf : M'.1 1 12 = M0.1 1 12) (hF : Fr md M0 M') (hL : LFr ml M0 M') (hkd : keepD md ml = true) : LRc t (sgnS t a σ) v M' := by
  have hk := h.kind.2.2.2.2.mp h6
  refine LRc.go ?_ h (by omega) hv hn hf hF hL hkd
  unfold sgnS
  exact if_pos ⟨hk, (h.val (by omega)).symm.trans h9⟩
/-- a store into what no token says (taken) -/
theorem CS.put {i : Nat} (hi : i = 11) (h : CS M0 t σ) (n : ∀ c' i', ¬ (c' = 1 ∧ i' = i) → M1.1 c' i' = M0.1 c' i') (q : ∀ c' i', M1.2 c' i' = M0.2 c' i') : CS M1 t σ := by
  subst hi
  obtain ⟨⟨c1, c2, c3, c4, c5, c6, c7, c8, c9⟩, f, d, p⟩ := h
  have g : ∀ i', i' ≠ 11 → M1.1 1 i' = M0.1 1 i' := fun i' h1 => n 1 i' (fun e => h1 e.2)
  have g2 : ∀ c' i', c' ≠ 1 → M1.1 c' i' = M0.1 c' i' := fun c' i' h1 => n c' i' (fun e => h1 e.1)
  refine ⟨⟨(uC_cg (fun j => g2 2 j (by decide))).trans c1, (g 2 (by decide)).trans c2, (g 3 (by decide)).trans c3, (g 6 (by decide)).trans c4, (g 5 (by decide)).trans c5, (g 7 (by decide)).trans c6, fun hk => (g 4 (by decide)).trans (c7 hk), fun hk => by rw [q]; exact c8 hk, fun hk => (g 9 (by decide)).trans (c9 hk)⟩, (g 12 (by decide)).trans f, ?_, p⟩
  obtain ⟨d1, d2, d3, d4, d5, d6⟩ := d
  refine ⟨fun s hs => by rw [g2 28 s (by decide)]; exact d1 s hs, fun k h1 h2 => by rw [q]; exact d2 k h1 h2, fun p hp => by rw [g2 32 p (by decide)]; exact d3 p hp, fun p hp => by rw [g2 39 p (by decide)]; exact d4 p hp, by rw [g2 27 6 (by decide)]; exact d5, by rw [g2 27 7 (by decide)]; exact d6⟩
theorem num_no {a b : Int} (h : CS M0 t σ) (hn : M0.1 1 6 ≠ 2 ∨ M0.1 1 9 < a ∨ b < M0.1 1 9) (hv : v = 0) (e12 : M'.1 1 12 ≠ 0) (e13 : M'.1 1 13 = M0.1 1 5) : LRc t (numS t a b σ) v M' := by
  refine LRc.no ?_ h hv e12 e13
  unfold numS
  refine if_neg (fun q => ?_)
  have h1 := h.kind.2.2.2.1.mpr q.1
  have h2 := h.val (by omega)
  omega
theorem num_go {a b : Int} (h : CS M0 t σ) (h6 : M0.1 1 6 = 2) (h9 : a ≤ M0.1 1 9 ∧ M0.1 1 9 ≤ b) (h1 : CS M1 t σ) (hv : v = 1) (hn : M1.1 1 4 ≤ M1.1 1 2 → CTk M' (txC M1) (M1.1 1 4)) (hf : M'.1 1 12 = M1.1 1 12) (hF : Fr md M1 M') (hL : LFr ml M1 M') (hkd : keepD md ml = true) : LRc t (numS t a b σ) v M' := by
  have hk := h.kind.2.2.2.1.mp h6
  refine LRc.go ?_ h1 (by omega) hv hn hf hF hL hkd
  unfold numS
  have := h.val (by omega)
  exact if_pos ⟨hk, by omega, by omega⟩
end CST
/-! Names told: the class's search. -/
theorem fndN_up {σ : PSt} {r : Int} {k : Nat} (h : 0 ≤ fndN σ r k) : ∀ m : Nat, fndN σ r (k + m) = fndN σ r k
  | 0 => rfl
  | m + 1 => by
    have ih := fndN_up h m
    have e : fndN σ r (k + (m + 1)) = if 0 ≤ fndN σ r (k + m) then fndN σ r (k + m) else if (((k + m) % 6 : Nat) : Int) < σ.2.1 ((k + m) / 6) ∧ σ.2.2.1 (k + m) = r then ((k + m : Nat) : Int) else -1 := rfl
    rw [e, ih, if_pos h]
theorem fndN_st {σ : PSt} {r : Int} {k : Nat} (h : fndN σ r k = -1) : fndN σ r (k + 1) = if ((k % 6 : Nat) : Int) < σ.2.1 (k / 6) ∧ σ.2.2.1 k = r then (k : Int) else -1 := by
  show (if 0 ≤ fndN σ r k then fndN σ r k else if ((k % 6 : Nat) : Int) < σ.2.1 (k / 6) ∧ σ.2.2.1 k = r then (k : Int) else -1) = _
  rw [h]
  rfl
def FNI (M0 : JM) (w : Int64) (j : Int) : Prop := ∀ (t : TXT) (σ : PSt), DR M0 σ → PI t σ → ∀ r : Int, wok 7 r → w.toInt = cw r → fndN σ r j.toNat = -1
theorem FNI.start {M0 : JM} {w : Int64} : FNI M0 w (6 * 0) := fun _ _ _ _ _ _ _ => rfl
theorem FNI.cg {M0 : JM} {w : Int64} {j j' : Int} (h : FNI M0 w j) (e : j = j') : FNI M0 w j' := e ▸ h
section FNS
variable {M0 : JM} {w : Int64} {s i : Int}
theorem FNI.st (h : FNI M0 w (6 * s + i)) (hs : 0 ≤ s ∧ s < 3) (hi : 0 ≤ i ∧ i < 6) (hn : M0.1 28 s.toNat ≤ i ∨ M0.2 29 (6 * s + i).toNat ≠ w) : FNI M0 w (6 * s + (i + 1)) := by
  intro t σ hd hp r h1 h2
  rw [show (6 * s + (i + 1)).toNat = (6 * s + i).toNat + 1 by omega, fndN_st (h t σ hd hp r h1 h2)]
  refine if_neg (fun q => ?_)
  have e6 : (6 * s + i).toNat / 6 = s.toNat := by omega
  have e7 : (((6 * s + i).toNat % 6 : Nat) : Int) = i := by omega
  have hv := q.1
  rw [e6, e7, ← hd.1 s.toNat (by omega)] at hv
  rcases hn with hn | hn
  · omega
  · apply hn
    refine Int64.toInt_inj.mp ?_
    rw [hd.2.1 (6 * s + i).toNat (by omega) q.1, q.2, h2]
theorem FNI.row : ∀ (n : Nat) (i : Int), i + (n : Int) = 6 → 0 ≤ i → FNI M0 w (6 * s + i) → 0 ≤ s ∧ s < 3 → M0.1 28 s.toNat ≤ i → FNI M0 w (6 * (s + 1))
  | 0, i, hn, _, h, _, _ => h.cg (by have : ((0 : Nat) : Int) = 0 := rfl; omega)
  | n + 1, i, hn, h0, h, hs, hc => FNI.row n (i + 1) (by omega) (by omega) (h.st hs ⟨h0, by omega⟩ (Or.inl hc)) hs (by omega)
theorem FNI.done (h : FNI M0 w (6 * s + i)) (hs : 0 ≤ s ∧ s < 3) (hi : 0 ≤ i ∧ i ≤ 6) (hc : M0.1 28 s.toNat ≤ i) : FNI M0 w (6 * (s + 1)) := FNI.row (6 - i).toNat i (by omega) hi.1 h hs hc
theorem FNI.hit (h : FNI M0 w (6 * s + i)) (hs : 0 ≤ s ∧ s < 3) (hi : 0 ≤ i ∧ i < 6) (hc : i < M0.1 28 s.toNat) (he : M0.2 29 (6 * s + i).toNat = w) : ∀ (t : TXT) (σ : PSt), DR M0 σ → PI t σ → ∀ r : Int, wok 7 r → w.toInt = cw r → 6 * s + i = fndS σ r := by
  intro t σ hd hp r h1 h2
  have e6 : (6 * s + i).toNat / 6 = s.toNat := by omega
  have e7 : (((6 * s + i).toNat % 6 : Nat) : Int) = i := by omega
  have hv : (((6 * s + i).toNat % 6 : Nat) : Int) < σ.2.1 ((6 * s + i).toNat / 6) := by
    rw [e6, e7, ← hd.1 s.toNat (by omega)]
    exact hc
  have hnm : σ.2.2.1 (6 * s + i).toNat = r := by
    refine cw_inj (k := 7) (Nat.le_refl _) (hp.2.2.2.2.1 (6 * s + i).toNat (by omega) hv) h1 ?_
    rw [← hd.2.1 (6 * s + i).toNat (by omega) hv, he, h2]
  have e := fndN_st (h t σ hd hp r h1 h2)
  rw [if_pos ⟨hv, hnm⟩] at e
  have e2 := fndN_up (σ := σ) (r := r) (k := (6 * s + i).toNat + 1) (by omega) (17 - (6 * s + i).toNat)
  unfold fndS
  rw [show (6 * s + i).toNat + 1 + (17 - (6 * s + i).toNat) = 18 by omega] at e2
  rw [e2, e]
  omega
theorem FNI.none (h : FNI M0 w (6 * s)) (hs : s = 3) : ∀ (t : TXT) (σ : PSt), DR M0 σ → PI t σ → ∀ r : Int, wok 7 r → w.toInt = cw r → -1 = fndS σ r := by
  intro t σ hd hp r h1 h2
  have := h t σ hd hp r h1 h2
  rw [hs] at this
  exact this.symm
end FNS
/-! Names: a new one, one that was told. -/
theorem CS.isn {M0 : JM} {t : TXT} {σ : PSt} (h : CS M0 t σ) : isNm t σ = true ↔ M0.1 1 6 = 1 ∧ M0.1 1 7 = -1 := by
  unfold isNm
  simp only [Bool.and_eq_true, decide_eq_true_eq]
  rw [h.kind.2.2.1, h.key]
  constructor
  · intro q
    rw [if_pos q.1]
    exact q
  · intro q
    rw [if_pos q.1] at q
    exact q
theorem CS.wkk {M0 : JM} {t : TXT} {σ : PSt} (h : CS M0 t σ) (hk : kK t σ = 2) : wok 7 (kV t σ) := (tV_wok h.2.2.2.1 hk).1
/-- a name at a place that isn't told yet says nothing -/
theorem CS.nm {M : JM} {t : TXT} {σ : PSt} {j : Nat} {w : Int} (h : CS M t σ) (hj : σ.2.1 (j / 6) ≤ ((j % 6 : Nat) : Int)) : CS M t (σ.1, (σ.2.1, (fupd σ.2.2.1 j w, σ.2.2.2))) := by
  obtain ⟨c, f, ⟨d1, d2, d3, d4, d5, d6⟩, p1, p2, p3, p4, p5, p6⟩ := h
  have g : ∀ k : Nat, ((k % 6 : Nat) : Int) < σ.2.1 (k / 6) → fupd σ.2.2.1 j w k = σ.2.2.1 k := fun k hk => by
    unfold fupd
    refine if_neg (fun e => ?_)
    rw [e] at hk
    omega
  refine ⟨c, f, ⟨d1, fun k h1 h2 => ?_, d3, d4, d5, d6⟩, p1, p2, p3, p4, fun k h1 h2 => ?_, fun k k' h1 h2 h3 h4 he => ?_⟩
  · show (M.2 29 k).toInt = cw (fupd σ.2.2.1 j w k)
    rw [g k h2]
    exact d2 k h1 h2
  · show wok 7 (fupd σ.2.2.1 j w k)
    rw [g k h2]
    exact p5 k h1 h2
  · have he : fupd σ.2.2.1 j w k = fupd σ.2.2.1 j w k' := he
    rw [g k h3, g k' h4] at he
    exact p6 k k' h1 h2 h3 h4 he
/-- a long stored where no token says it (takenWord) -/
theorem CS.putl {M0 M1 : JM} {t : TXT} {σ : PSt} (h : CS M0 t σ) (n : ∀ c' i', M1.1 c' i' = M0.1 c' i') (g : ∀ c' i', ¬ (c' = 1 ∧ i' = 10) → M1.2 c' i' = M0.2 c' i') : CS M1 t σ := by
  obtain ⟨⟨c1, c2, c3, c4, c5, c6, c7, c8, c9⟩, f, ⟨d1, d2, d3, d4, d5, d6⟩, p⟩ := h
  refine ⟨⟨(uC_cg (fun j => n 2 j)).trans c1, (n 1 2).trans c2, (n 1 3).trans c3, (n 1 6).trans c4, (n 1 5).trans c5, (n 1 7).trans c6, fun hk => (n 1 4).trans (c7 hk), fun hk => by rw [g 1 8 (by decide)]; exact c8 hk, fun hk => (n 1 9).trans (c9 hk)⟩, (n 1 12).trans f, ⟨fun s hs => by rw [n]; exact d1 s hs, fun k h1 h2 => by rw [g 29 k (fun e => absurd e.1 (by decide))]; exact d2 k h1 h2, fun p hp => by rw [n]; exact d3 p hp, fun p hp => by rw [n]; exact d4 p hp, by rw [n]; exact d5, by rw [n]; exact d6⟩, p⟩
section CSN
variable {M0 M1 M' : JM} {t : TXT} {σ : PSt} {v : Int} {md ml : List (Nat × (Nat × Nat))}
theorem new_no {s : Nat} (h : CS M0 t σ) (hn : ¬ (M0.1 1 6 = 1 ∧ M0.1 1 7 = -1) ∨ 0 ≤ fndS σ (kV t σ)) (hv : v = 0) (e12 : M'.1 1 12 ≠ 0) (e13 : M'.1 1 13 = M0.1 1 5) : LRc t (newS t s σ) v M' := by
  refine LRc.no ?_ h hv e12 e13
  unfold newS
  by_cases q : isNm t σ = true
  · rw [if_pos q]
    refine if_neg ?_
    rcases hn with e | e
    · exact absurd (h.isn.mp q) e
    · omega
  · exact if_neg q
theorem new_go {s : Nat} (h : CS M0 t σ) (hs : s < 3) (hc : σ.2.1 s < 6) (h6 : M0.1 1 6 = 1) (h7 : M0.1 1 7 = -1) (hf : fndS σ (kV t σ) < 0) (h1 : CS M1 t σ) (hv : v = 1) (hn : M1.1 1 4 ≤ M1.1 1 2 → CTk M' (txC M1) (M1.1 1 4)) (hf2 : M'.1 1 12 = M1.1 1 12) (hF : Fr md M1 M') (hL : LFr ml M1 M') (hkd : keepD md ml = true) : LRc t (newS t s σ) v M' := by
  have hk := h.kind.2.2.1.mp h6
  have hg := (h1.next (by omega) hn hf2 hF hL hkd)
  have h0 := h.2.2.2.2.2.2.1 s hs
  have hj : (goS t σ).2.1 ((6 * s + (σ.2.1 s).toNat) / 6) ≤ (((6 * s + (σ.2.1 s).toNat) % 6 : Nat) : Int) := by
    show σ.2.1 ((6 * s + (σ.2.1 s).toNat) / 6) ≤ _
    rw [show (6 * s + (σ.2.1 s).toNat) / 6 = s by omega]
    omega
  have hr : newS t s σ = okS (goS t (σ.1, (σ.2.1, (fupd σ.2.2.1 (6 * s + (σ.2.1 s).toNat) (kV t σ), σ.2.2.2)))) := by
    unfold newS
    rw [if_pos (h.isn.mpr ⟨h6, h7⟩), if_pos hf]
  rw [hr]
  exact Or.inl ⟨okS_lt, hv, hg.nm hj⟩
end CSN
/-! One that was told; the first word of a line; a name added. -/
def NMP (t : TXT) (a : Int) (g : Int → PSt → RES) (σ : PSt) (v : Int) (M : JM) : Prop := (v = 1 ∧ CS M t (goS t σ) ∧ nameS t a g σ = g (M.1 1 11) (goS t σ) ∧ 0 ≤ M.1 1 11 ∧ M.1 1 11 ≤ 5) ∨ (v = 0 ∧ nameS t a g σ = badS (kF t σ) σ ∧ 0 ≤ kF t σ ∧ M.1 1 12 ≠ 0 ∧ M.1 1 13 = kF t σ)
section NMS
variable {M0 M1 M' : JM} {t : TXT} {σ : PSt} {v : Int} {md ml : List (Nat × (Nat × Nat))} {g : Int → PSt → RES} {a : Int}
theorem nam_no (h : CS M0 t σ) (hn : ¬ (M0.1 1 6 = 1 ∧ M0.1 1 7 = -1) ∨ fndS σ (kV t σ) < 0 ∨ fndS σ (kV t σ) / 6 ≠ a) (hv : v = 0) (e12 : M'.1 1 12 ≠ 0) (e13 : M'.1 1 13 = M0.1 1 5) : NMP t a g σ v M' := by
  refine Or.inr ⟨hv, ?_, tF_nn h.2.2.2, e12, e13.trans h.start⟩
  unfold nameS
  refine if_neg (fun q => ?_)
  rcases hn with e | e | e
  · exact e (h.isn.mp q.1)
  · have := q.2.1
    omega
  · exact e q.2.2
theorem nam_go {z : Int} (h : CS M0 t σ) (h6 : M0.1 1 6 = 1) (h7 : M0.1 1 7 = -1) (hz : z = fndS σ (kV t σ)) (hz0 : 0 ≤ z) (hza : z / 6 = a) (h1 : CS M1 t σ) (hv : v = 1) (h11 : M'.1 1 11 = z % 6) (hn : M1.1 1 4 ≤ M1.1 1 2 → CTk M' (txC M1) (M1.1 1 4)) (hf2 : M'.1 1 12 = M1.1 1 12) (hF : Fr md M1 M') (hL : LFr ml M1 M') (hkd : keepD md ml = true) : NMP t a g σ v M' := by
  have hk := h.kind.2.2.1.mp h6
  refine Or.inl ⟨hv, h1.next (by omega) hn hf2 hF hL hkd, ?_, by omega, by omega⟩
  unfold nameS
  rw [if_pos ⟨h.isn.mpr ⟨h6, h7⟩, by omega, by omega⟩, h11, hz]
theorem fst_no {s : Nat} (h : CS M0 t σ) (hs : s < 3) (hc : ¬ M0.1 28 s < 6) (hv : v = 0) (e12 : M'.1 1 12 ≠ 0) (e13 : M'.1 1 13 = M0.1 1 5) : LRc t (firstS t s σ) v M' := by
  refine LRc.no ?_ h hv e12 e13
  unfold firstS
  exact if_neg (by rw [← h.2.2.1.1 s hs]; exact hc)
theorem fst_go {s : Nat} (h : CS M0 t σ) (hk : 2 ≤ kK t σ) (hs : s < 3) (hc : M0.1 28 s < 6) (hv : v = 1) (hn : M0.1 1 4 ≤ M0.1 1 2 → CTk M' (txC M0) (M0.1 1 4)) (hf : M'.1 1 12 = M0.1 1 12) (hF : Fr md M0 M') (hL : LFr ml M0 M') (hkd : keepD md ml = true) : LRc t (firstS t s σ) v M' := by
  refine LRc.go ?_ h hk hv hn hf hF hL hkd
  unfold firstS
  exact if_pos (by rw [← h.2.2.1.1 s hs]; exact hc)
end NMS
/-! Steps one behind another; a name is added; flags. -/
section SEQ
variable {M M0 M1 M' : JM} {t : TXT} {σ : PSt} {v v1 : Int} {f g : PSt → RES}
theorem LRc.seqn (h : LRc t (f σ) v M) (hv : v = 0) : LRc t (seqS f g σ) v M := by
  rw [seq_bad (h.bad hv).1]
  exact h
theorem LRc.seqg (h : LRc t (f σ) v1 M1) (hv : v1 ≠ 0) (k : (f σ).1 < 0 → CS M1 t (f σ).2 → LRc t (g (f σ).2) v M) : LRc t (seqS f g σ) v M := by
  rw [seq_ok (h.ok hv).1]
  exact k (h.ok hv).1 (h.ok hv).2
theorem fst_lt {s : Nat} (hp : PI t σ) (h : (firstS t s σ).1 < 0) : (firstS t s σ).2 = goS t σ ∧ σ.2.1 s < 6 := by
  have h0 := tF_nn hp
  unfold firstS at h ⊢
  by_cases c : σ.2.1 s < 6
  · rw [if_pos c]
    exact ⟨rfl, c⟩
  · rw [if_neg c] at h
    have h : kF t σ < 0 := h
    omega
theorem new_lt {s : Nat} (hp : PI t σ) (h : (newS t s σ).1 < 0) : (newS t s σ).2 = goS t (σ.1, (σ.2.1, (fupd σ.2.2.1 (6 * s + (σ.2.1 s).toNat) (kV t σ), σ.2.2.2))) := by
  have h0 := tF_nn hp
  unfold newS at h ⊢
  by_cases c : isNm t σ = true
  · rw [if_pos c] at h ⊢
    by_cases c2 : fndS σ (kV t σ) < 0
    · rw [if_pos c2]
      rfl
    · rw [if_neg c2] at h
      have h : kF t σ < 0 := h
      omega
  · rw [if_neg c] at h
    have h : kF t σ < 0 := h
    omega
theorem num_lt {a b : Int} (hp : PI t σ) (h : (numS t a b σ).1 < 0) : (numS t a b σ).2 = goS t σ := by
  have h0 := tF_nn hp
  unfold numS at h ⊢
  by_cases c : kK t σ = 3 ∧ a ≤ kV t σ ∧ kV t σ ≤ b
  · rw [if_pos c]
    rfl
  · rw [if_neg c] at h
    have h : kF t σ < 0 := h
    omega
/-- what is found is told; what isn't found isn't -/
theorem fnd_no {r : Int} : ∀ {m : Nat}, fndN σ r m < 0 → ∀ k : Nat, k < m → ((k % 6 : Nat) : Int) < σ.2.1 (k / 6) → σ.2.2.1 k ≠ r
  | 0, _, k, hk, _ => by omega
  | m + 1, h, k, hk, hv => by
    have hm : fndN σ r m < 0 := by
      by_cases c : 0 ≤ fndN σ r m
      · have := fndN_up c 1
        omega
      · omega
    have h1 : fndN σ r m = -1 := by
      cases m with
      | zero => rfl
      | succ m =>
        by_cases c : 0 ≤ fndN σ r m
        · have := fndN_up c 1
          have e : fndN σ r (m + 1) = fndN σ r m := this
          omega
        · have e : fndN σ r (m + 1) = if ((m % 6 : Nat) : Int) < σ.2.1 (m / 6) ∧ σ.2.2.1 m = r then (m : Int) else -1 := by
            show (if 0 ≤ fndN σ r m then fndN σ r m else _) = _
            rw [if_neg c]
          rw [e] at hm ⊢
          split at hm
          · omega
          · rename_i q
            rw [if_neg q]
    by_cases c : k = m
    · subst c
      intro e
      rw [fndN_st h1, if_pos ⟨hv, e⟩] at h
      omega
    · exact fnd_no hm k (by omega) hv
def ADP (M0 M' : JM) (s : Nat) (w : Int64) : Prop := M'.1 28 s = M0.1 28 s + 1 ∧ (∀ s' : Nat, s' ≠ s → M'.1 28 s' = M0.1 28 s') ∧ M'.2 29 (6 * s + (M0.1 28 s).toNat) = w ∧ (∀ c i : Nat, ¬ (c = 29 ∧ i = 6 * s + (M0.1 28 s).toNat) → M'.2 c i = M0.2 c i) ∧ ∀ c i : Nat, c ≠ 28 → M'.1 c i = M0.1 c i
/-- a name is added: the draft, with one more -/
theorem CS.add {s : Nat} {w : Int64} (hs : s < 3) (h : CS M0 t σ) (hc : σ.2.1 s < 6) (hw : w.toInt = cw (σ.2.2.1 (6 * s + (σ.2.1 s).toNat))) (hk : wok 7 (σ.2.2.1 (6 * s + (σ.2.1 s).toNat))) (hn : ∀ k : Nat, k < 18 → ((k % 6 : Nat) : Int) < σ.2.1 (k / 6) → σ.2.2.1 k ≠ σ.2.2.1 (6 * s + (σ.2.1 s).toNat)) (ha : ADP M0 M' s w) : CS M' t (incS s σ).2 := by
  obtain ⟨⟨c1, c2, c3, c4, c5, c6, c7, c8, c9⟩, f0, ⟨d1, d2, d3, d4, d5, d6⟩, p1, p2, p3, p4, p5, p6⟩ := h
  obtain ⟨a1, a2, a3, a4, a5⟩ := ha
  have hcs := p4 s hs
  have e28 := d1 s hs
  rw [e28] at a1 a3 a4
  -- which slots are told now
  have hval : ∀ k : Nat, k < 18 → ((k % 6 : Nat) : Int) < fupd σ.2.1 s (σ.2.1 s + 1) (k / 6) → (((k % 6 : Nat) : Int) < σ.2.1 (k / 6) ∧ k ≠ 6 * s + (σ.2.1 s).toNat) ∨ k = 6 * s + (σ.2.1 s).toNat := by
    intro k h1 h2
    unfold fupd at h2
    by_cases c : k / 6 = s
    · rw [if_pos c] at h2
      by_cases c2 : k = 6 * s + (σ.2.1 s).toNat
      · exact Or.inr c2
      · refine Or.inl ⟨?_, c2⟩
        rw [c]
        omega
    · rw [if_neg c] at h2
      refine Or.inl ⟨h2, fun e => c ?_⟩
      omega
  refine ⟨⟨(uC_cg (fun j => a5 2 j (by decide))).trans c1, (a5 1 2 (by decide)).trans c2, (a5 1 3 (by decide)).trans c3, (a5 1 6 (by decide)).trans c4, (a5 1 5 (by decide)).trans c5, (a5 1 7 (by decide)).trans c6, fun q => (a5 1 4 (by decide)).trans (c7 q), fun q => by rw [a4 1 8 (fun e => absurd e.1 (by decide))]; exact c8 q, fun q => (a5 1 9 (by decide)).trans (c9 q)⟩, (a5 1 12 (by decide)).trans f0, ⟨fun s' hs' => ?_, fun k h1 h2 => ?_, fun p hp => ?_, fun p hp => ?_, ?_, ?_⟩, p1, p2, p3, fun s' hs' => ?_, fun k h1 h2 => ?_, fun k k' h1 h2 h3 h4 he => ?_⟩
  · show M'.1 28 s' = fupd σ.2.1 s (σ.2.1 s + 1) s'
    unfold fupd
    by_cases c : s' = s
    · rw [if_pos c, c, a1]
    · rw [if_neg c, a2 s' c]
      exact d1 s' hs'
  · show (M'.2 29 k).toInt = cw (σ.2.2.1 k)
    rcases hval k h1 h2 with ⟨q1, q2⟩ | q
    · rw [a4 29 k (fun e => q2 e.2)]
      exact d2 k h1 q1
    · rw [q, a3]
      exact hw
  · rw [a5 32 p (by decide)]
    exact d3 p hp
  · rw [a5 39 p (by decide)]
    exact d4 p hp
  · rw [a5 27 6 (by decide)]
    exact d5
  · rw [a5 27 7 (by decide)]
    exact d6
  · show 0 ≤ fupd σ.2.1 s (σ.2.1 s + 1) s' ∧ fupd σ.2.1 s (σ.2.1 s + 1) s' ≤ 6
    unfold fupd
    by_cases c : s' = s
    · rw [if_pos c]
      omega
    · rw [if_neg c]
      exact p4 s' hs'
  · show wok 7 (σ.2.2.1 k)
    rcases hval k h1 h2 with ⟨q1, q2⟩ | q
    · exact p5 k h1 q1
    · rw [q]
      exact hk
  · have he : σ.2.2.1 k = σ.2.2.1 k' := he
    rcases hval k h1 h3 with ⟨q1, q2⟩ | q
    · rcases hval k' h2 h4 with ⟨q3, q4⟩ | q3
      · exact p6 k k' h1 h2 q1 q3 he
      · rw [q3] at he
        exact absurd he (hn k h1 q1)
    · rcases hval k' h2 h4 with ⟨q3, q4⟩ | q3
      · rw [q] at he
        exact absurd he.symm (hn k' h2 q3)
      · rw [q, q3]
/-- a store where neither tokens nor draft say it -/
theorem CS.st {c i : Nat} (h : CS M0 t σ) (n : ∀ c' i', ¬ (c' = c ∧ i' = i) → M'.1 c' i' = M0.1 c' i') (q : ∀ c' i', M'.2 c' i' = M0.2 c' i') (hc : (Nat.beq c 1 || (Nat.beq c 2 || (Nat.beq c 27 || (Nat.beq c 28 || (Nat.beq c 32 || Nat.beq c 39))))) = false) : CS M' t σ := by
  simp only [Bool.or_eq_false_iff] at hc
  have g : ∀ c' i', Nat.beq c c' = false → M'.1 c' i' = M0.1 c' i' := fun c' i' e => n c' i' (fun e2 => by rw [e2.1, Nat.beq_refl] at e; cases e)
  obtain ⟨⟨c1, c2, c3, c4, c5, c6, c7, c8, c9⟩, f0, ⟨d1, d2, d3, d4, d5, d6⟩, p⟩ := h
  refine ⟨⟨(uC_cg (fun j => g 2 j hc.2.1)).trans c1, (g 1 2 hc.1).trans c2, (g 1 3 hc.1).trans c3, (g 1 6 hc.1).trans c4, (g 1 5 hc.1).trans c5, (g 1 7 hc.1).trans c6, fun y => (g 1 4 hc.1).trans (c7 y), fun y => by rw [q]; exact c8 y, fun y => (g 1 9 hc.1).trans (c9 y)⟩, (g 1 12 hc.1).trans f0, ⟨fun s hs => by rw [g 28 s hc.2.2.2.1]; exact d1 s hs, fun k h1 h2 => by rw [q]; exact d2 k h1 h2, fun p hp => by rw [g 32 p hc.2.2.2.2.1]; exact d3 p hp, fun p hp => by rw [g 39 p hc.2.2.2.2.2]; exact d4 p hp, by rw [g 27 6 hc.2.2.1]; exact d5, by rw [g 27 7 hc.2.2.1]; exact d6⟩, p⟩
end SEQ
/-! A line that adds a name. -/
section LIN
variable {M M0 M1 M3 M4 M' : JM} {t : TXT} {σ σ1 σ3 : PSt} {v v1 : Int} {f g : PSt → RES}
theorem LRc.seqz (h : LRc t (f σ) v1 M) (hv : v1 = 0) : LRc t (seqS f g σ) 0 M := by
  subst hv
  exact h.seqn rfl
theorem LRc.z {r : RES} (h : LRc t r v1 M) (hv : v1 = 0) : LRc t r 0 M := hv ▸ h
theorem LRc.o {r : RES} (h : CS M t r.2) (hr : r.1 < 0) : LRc t r 1 M := Or.inl ⟨hr, rfl, h⟩
theorem add_fin {s : Nat} {w : Int64} (hs : s < 3) (h1 : CS M1 t σ1) (hc : σ1.2.1 s < 6) (hk : kK t σ1 = 2) (hf : fndS σ1 (kV t σ1) < 0) (l2 : (newS t s σ1).1 < 0) (e3 : σ3.2 = (newS t s σ1).2.2) (h3 : CS M3 t σ3) (hw : w.toInt = cw (kV t σ1)) (ha : ADP M3 M4 s w) : CS M4 t (incS s σ3).2 := by
  have e := new_lt h1.2.2.2 l2
  have e2 : σ3.2 = (σ1.2.1, (fupd σ1.2.2.1 (6 * s + (σ1.2.1 s).toNat) (kV t σ1), σ1.2.2.2)) := by
    rw [e3, e]
    rfl
  have hn : σ3.2.2.1 (6 * s + (σ3.2.1 s).toNat) = kV t σ1 := by
    rw [e2]
    show fupd σ1.2.2.1 (6 * s + (σ1.2.1 s).toNat) (kV t σ1) (6 * s + (σ1.2.1 s).toNat) = kV t σ1
    unfold fupd
    rw [if_pos rfl]
  refine CS.add hs h3 (by rw [e2]; exact hc) (by rw [hn]; exact hw) (by rw [hn]; exact h1.wkk hk) (fun k hk18 hv => ?_) ha
  rw [hn]
  have hv1 : ((k % 6 : Nat) : Int) < σ1.2.1 (k / 6) := by
    have := hv
    rw [e2] at this
    exact this
  have hne : k ≠ 6 * s + (σ1.2.1 s).toNat := by
    intro e9
    have h0 := h1.2.2.2.2.2.2.1 s hs
    have e6 : k / 6 = s := by omega
    rw [e6] at hv1
    omega
  have hnm : σ3.2.2.1 k = σ1.2.2.1 k := by
    rw [e2]
    show fupd σ1.2.2.1 (6 * s + (σ1.2.1 s).toNat) (kV t σ1) k = σ1.2.2.1 k
    unfold fupd
    rw [if_neg hne]
  rw [hnm]
  exact fnd_no hf k hk18 hv1
theorem num_e3 {a b : Int} (hp : PI t σ) (h : (numS t a b σ).1 < 0) : (numS t a b σ).2.2 = σ.2 := by
  rw [num_lt hp h]
  rfl
theorem add_cnt {s : Nat} (hs : s < 3) (h1 : CS M1 t σ1) (hc : σ1.2.1 s < 6) (l2 : (newS t s σ1).1 < 0) (e3 : σ3.2 = (newS t s σ1).2.2) (h3 : CS M3 t σ3) : M3.1 28 s ≤ 5 := by
  have e := new_lt h1.2.2.2 l2
  have e2 : σ3.2.1 = σ1.2.1 := by
    rw [e3, e]
    rfl
  have := h3.2.2.1.1 s hs
  rw [e2] at this
  omega
end LIN
/-! Lines that tell of what was named; wears, mends. -/
section WM
variable {M M0 M1 M2 M' : JM} {t : TXT} {σ : PSt} {v v1 : Int} {g : Int → PSt → RES} {a : Int}
theorem NMP.ok (h : NMP t a g σ v M) (hv : v ≠ 0) : CS M t (goS t σ) ∧ nameS t a g σ = g (M.1 1 11) (goS t σ) ∧ 0 ≤ M.1 1 11 ∧ M.1 1 11 ≤ 5 := by
  rcases h with ⟨_, h2⟩ | ⟨h1, _⟩
  · exact h2
  · exact absurd h1 hv
theorem NMP.bad (h : NMP t a g σ v M) (hv : v = 0) : LRc t (nameS t a g σ) 0 M := by
  rcases h with ⟨h1, _⟩ | ⟨_, h2, h3, h4, h5⟩
  · omega
  · rw [h2]
    exact Or.inr ⟨h3, rfl, h4, h5⟩
theorem LRc.eq {r r' : RES} (e : r = r') (h : LRc t r' v M) : LRc t r v M := e ▸ h
theorem CS.flagx {c i j : Nat} (h : CS M0 t σ) (n : ∀ c' i', ¬ (c' = c ∧ i' = i) → M'.1 c' i' = M0.1 c' i') (q : ∀ c' i', M'.2 c' i' = M0.2 c' i') (n1 : 1 ≠ c) (n2 : 2 ≠ c) (n3 : 28 ≠ c) (F3 : ∀ p : Nat, p < 36 → (M'.1 32 p = -1 ↔ fupd σ.2.2.2 j 1 p = 0)) (F4 : ∀ p : Nat, p < 36 → (M'.1 39 p = 0 ↔ fupd σ.2.2.2 j 1 (36 + p) = 0)) (F5 : M'.1 27 6 = -1 ↔ fupd σ.2.2.2 j 1 72 = 0) (F6 : M'.1 27 7 = -1 ↔ fupd σ.2.2.2 j 1 73 = 0) : CS M' t (setS j σ).2 := by
  have g : ∀ c' i', c' ≠ c → M'.1 c' i' = M0.1 c' i' := fun c' i' e => n c' i' (fun e2 => e e2.1)
  obtain ⟨⟨c1, c2, c3, c4, c5, c6, c7, c8, c9⟩, f0, ⟨d1, d2, d3, d4, d5, d6⟩, p⟩ := h
  exact ⟨⟨(uC_cg (fun j => g 2 j n2)).trans c1, (g 1 2 n1).trans c2, (g 1 3 n1).trans c3, (g 1 6 n1).trans c4, (g 1 5 n1).trans c5, (g 1 7 n1).trans c6, fun y => (g 1 4 n1).trans (c7 y), fun y => by rw [q]; exact c8 y, fun y => (g 1 9 n1).trans (c9 y)⟩, (g 1 12 n1).trans f0, ⟨fun s hs => by rw [g 28 s n3]; exact d1 s hs, fun k h1 h2 => by rw [q]; exact d2 k h1 h2, F3, F4, F5, F6⟩, p⟩
theorem fup_ne {f : Nat → Int} {j k : Nat} {v : Int} (h : k ≠ j) : fupd f j v k = f k := if_neg h
theorem fup_at {f : Nat → Int} {j : Nat} {v : Int} : fupd f j v j = v := if_pos rfl
theorem fup_set {f : Nat → Int} {j : Nat} {z y : Int} (h : z ≠ y) : z = y ↔ fupd f j 1 j = 0 := by
  rw [fup_at]
  exact ⟨fun y2 => absurd y2 h, fun y2 => absurd y2 (by decide)⟩
/-- a flag of the draft is set -/
theorem CS.flag {c i j : Nat} (h : CS M0 t σ) (n : ∀ c' i', ¬ (c' = c ∧ i' = i) → M'.1 c' i' = M0.1 c' i') (q : ∀ c' i', M'.2 c' i' = M0.2 c' i') (hc : (c = 32 ∧ i < 36 ∧ j = i ∧ M'.1 32 i ≠ -1) ∨ (c = 39 ∧ i < 36 ∧ j = 36 + i ∧ M'.1 39 i ≠ 0) ∨ (c = 27 ∧ i = 6 ∧ j = 72 ∧ M'.1 27 6 ≠ -1) ∨ (c = 27 ∧ i = 7 ∧ j = 73 ∧ M'.1 27 7 ≠ -1)) : CS M' t (setS j σ).2 := by
  have d3 := h.2.2.1.2.2.1
  have d4 := h.2.2.1.2.2.2.1
  have d5 := h.2.2.1.2.2.2.2.1
  have d6 := h.2.2.1.2.2.2.2.2
  rcases hc with ⟨rfl, hi, rfl, y⟩ | ⟨rfl, hi, rfl, y⟩ | ⟨rfl, rfl, rfl, y⟩ | ⟨rfl, rfl, rfl, y⟩
  · refine CS.flagx h n q (by decide) (by decide) (by decide) (fun p hp => ?_) (fun p hp => ?_) ?_ ?_
    · by_cases e : p = j
      · rw [e]; exact fup_set y
      · rw [fup_ne e, n 32 p (fun e2 => e e2.2)]; exact d3 p hp
    · rw [fup_ne (by omega), n 39 p (fun e2 => absurd e2.1 (by decide))]; exact d4 p hp
    · rw [fup_ne (by omega), n 27 6 (fun e2 => absurd e2.1 (by decide))]; exact d5
    · rw [fup_ne (by omega), n 27 7 (fun e2 => absurd e2.1 (by decide))]; exact d6
  · refine CS.flagx h n q (by decide) (by decide) (by decide) (fun p hp => ?_) (fun p hp => ?_) ?_ ?_
    · rw [fup_ne (by omega), n 32 p (fun e2 => absurd e2.1 (by decide))]; exact d3 p hp
    · by_cases e : p = i
      · rw [e]; exact fup_set y
      · rw [fup_ne (by omega), n 39 p (fun e2 => e e2.2)]; exact d4 p hp
    · rw [fup_ne (by omega), n 27 6 (fun e2 => absurd e2.1 (by decide))]; exact d5
    · rw [fup_ne (by omega), n 27 7 (fun e2 => absurd e2.1 (by decide))]; exact d6
  · refine CS.flagx h n q (by decide) (by decide) (by decide) (fun p hp => ?_) (fun p hp => ?_) ?_ ?_
    · rw [fup_ne (by omega), n 32 p (fun e2 => absurd e2.1 (by decide))]; exact d3 p hp
    · rw [fup_ne (by omega), n 39 p (fun e2 => absurd e2.1 (by decide))]; exact d4 p hp
    · exact fup_set y
    · rw [fup_ne (by decide), n 27 7 (fun e2 => absurd e2.2 (by decide))]; exact d6
  · refine CS.flagx h n q (by decide) (by decide) (by decide) (fun p hp => ?_) (fun p hp => ?_) ?_ ?_
    · rw [fup_ne (by omega), n 32 p (fun e2 => absurd e2.1 (by decide))]; exact d3 p hp
    · rw [fup_ne (by omega), n 39 p (fun e2 => absurd e2.1 (by decide))]; exact d4 p hp
    · rw [fup_ne (by decide), n 27 6 (fun e2 => absurd e2.2 (by decide))]; exact d5
    · exact fup_set y
theorem wm_no {i : Nat} (hi : i = 6 ∨ i = 7) (h : CS M0 t σ) (hw : M0.1 27 i ≠ -1) (hv : v = 0) (e12 : M'.1 1 12 ≠ 0) (e13 : M'.1 1 13 = M0.1 1 5) : LRc t (wmS t (66 + i) σ) v M' := by
  refine LRc.no ?_ h hv e12 e13
  unfold wmS
  refine if_pos ?_
  rcases hi with rfl | rfl
  · exact fun e => hw (h.2.2.1.2.2.2.2.1.mpr e)
  · exact fun e => hw (h.2.2.1.2.2.2.2.2.mpr e)
theorem wm_eq {i : Nat} (hi : i = 6 ∨ i = 7) (h : CS M0 t σ) (hw : M0.1 27 i = -1) : wmS t (66 + i) σ = seqS (numS t 0 9) (setS (66 + i)) (goS t σ) := by
  unfold wmS
  refine if_neg ?_
  rcases hi with rfl | rfl
  · exact fun e => e (h.2.2.1.2.2.2.2.1.mp hw)
  · exact fun e => e (h.2.2.1.2.2.2.2.2.mp hw)
end WM
theorem fl_m {M : JM} {t : TXT} {σ : PSt} {x : Int} (h : CS M t σ) (hx : 0 ≤ x ∧ x < 36) : M.1 32 x.toNat = -1 ↔ σ.2.2.2 x.toNat = 0 := h.2.2.1.2.2.1 x.toNat (by omega)
theorem fl_o {M : JM} {t : TXT} {σ : PSt} {x y : Int} (h : CS M t σ) (hx : 0 ≤ x ∧ x < 36) (hy : y = 36 + x) : M.1 39 x.toNat = 0 ↔ σ.2.2.2 y.toNat = 0 := by
  have := h.2.2.1.2.2.2.1 x.toNat (by omega)
  rw [show y.toNat = 36 + x.toNat by omega]
  exact this
/-! A line by its first word; that a line goes on. -/
section LNE
variable {M0 M' : JM} {t : TXT} {σ : PSt} {v : Int}
theorem ln_key {k : Int} (h : CS M0 t σ) (hk : M0.1 1 7 = k) (h0 : 0 ≤ k) : kK t σ = 2 ∧ keyS (kV t σ) = k := by
  have e := h.key
  by_cases c : kK t σ = 2
  · rw [if_pos c] at e
    exact ⟨c, by omega⟩
  · rw [if_neg c] at e
    omega
theorem ln_0 (h : CS M0 t σ) (hk : M0.1 1 7 = 0) : lineS t σ = manS t σ := by
  obtain ⟨a, b⟩ := ln_key h hk (by decide)
  unfold lineS
  rw [if_pos ⟨a, b⟩]
theorem ln_1 (h : CS M0 t σ) (hk : M0.1 1 7 = 1) : lineS t σ = forS t σ := by
  obtain ⟨a, b⟩ := ln_key h hk (by decide)
  unfold lineS
  rw [if_neg (by omega), if_pos ⟨a, b⟩]
theorem ln_2 (h : CS M0 t σ) (hk : M0.1 1 7 = 2) : lineS t σ = minS t σ := by
  obtain ⟨a, b⟩ := ln_key h hk (by decide)
  unfold lineS
  rw [if_neg (by omega), if_neg (by omega), if_pos ⟨a, b⟩]
theorem ln_3 (h : CS M0 t σ) (hk : M0.1 1 7 = 3) : lineS t σ = gooS t σ := by
  obtain ⟨a, b⟩ := ln_key h hk (by decide)
  unfold lineS
  rw [if_neg (by omega), if_neg (by omega), if_neg (by omega), if_pos ⟨a, b⟩]
theorem ln_4 (h : CS M0 t σ) (hk : M0.1 1 7 = 4) : lineS t σ = oweS t σ := by
  obtain ⟨a, b⟩ := ln_key h hk (by decide)
  unfold lineS
  rw [if_neg (by omega), if_neg (by omega), if_neg (by omega), if_neg (by omega), if_pos ⟨a, b⟩]
theorem ln_5 (h : CS M0 t σ) (hk : M0.1 1 7 = 5) : lineS t σ = wmS t 72 σ := by
  obtain ⟨a, b⟩ := ln_key h hk (by decide)
  unfold lineS
  rw [if_neg (by omega), if_neg (by omega), if_neg (by omega), if_neg (by omega), if_neg (by omega), if_pos ⟨a, b⟩]
theorem ln_6 (h : CS M0 t σ) (hk : M0.1 1 7 = 6) : lineS t σ = wmS t 73 σ := by
  obtain ⟨a, b⟩ := ln_key h hk (by decide)
  unfold lineS
  rw [if_neg (by omega), if_neg (by omega), if_neg (by omega), if_neg (by omega), if_neg (by omega), if_neg (by omega), if_pos ⟨a, b⟩]
theorem ln_no (h : CS M0 t σ) (hk : M0.1 1 7 < 0 ∨ 6 < M0.1 1 7) (hv : v = 0) (e12 : M'.1 1 12 ≠ 0) (e13 : M'.1 1 13 = M0.1 1 5) : LRc t (lineS t σ) v M' := by
  refine LRc.no ?_ h hv e12 e13
  have g : ∀ k : Int, 0 ≤ k → k ≤ 6 → ¬ (kK t σ = 2 ∧ keyS (kV t σ) = k) := by
    intro k h1 h2 q
    have e := h.key
    rw [if_pos q.1, q.2] at e
    omega
  unfold lineS
  rw [if_neg (g 0 (by decide) (by decide)), if_neg (g 1 (by decide) (by decide)), if_neg (g 2 (by decide) (by decide)), if_neg (g 3 (by decide) (by decide)), if_neg (g 4 (by decide) (by decide)), if_neg (g 5 (by decide) (by decide)), if_neg (g 6 (by decide) (by decide))]
end LNE
/-! The start of a reading. -/
def FLP (c : Nat) (a n : Int) (M : JM) : Prop := ∀ j : Nat, (j : Int) < n → M.1 c j = a
theorem FLP.start {c : Nat} {a : Int} {M : JM} : FLP c a 0 M := fun j hj => absurd hj (by omega)
theorem FLP.st {c : Nat} {a b : Int} {M M' : JM} (h : FLP c a b M) (hb : 0 ≤ b) (k : M'.1 c b.toNat = a) (n : ∀ c' i', ¬ (c' = c ∧ i' = b.toNat) → M'.1 c' i' = M.1 c' i') : FLP c a (b + 1) M' := fun j hj => by
  by_cases e : (j : Int) = b
  · have : j = b.toNat := by omega
    rw [this]
    exact k
  · exact (n c j (fun e2 => e (by have := e2.2; omega))).trans (h j (by omega))
theorem FLP.le {c : Nat} {a n n' : Int} {M : JM} (h : FLP c a n M) (hn : n' ≤ n) : FLP c a n' M := fun j hj => h j (by omega)
theorem FLP.cg {c : Nat} {a n : Int} {M M' : JM} (h : FLP c a n M) (e : ∀ j : Nat, M'.1 c j = M.1 c j) : FLP c a n M' := fun j hj => (e j).trans (h j hj)
theorem st_tx {M0 M5 M6 : JM} {n m : Int} (h : CTk M6 (txC M5) (M5.1 1 4)) (u : ∀ j, M5.1 2 j = M0.1 2 j) (e2 : M5.1 1 2 = n) (e3 : M5.1 1 3 = m) (e4 : M5.1 1 4 = 0) : CTk M6 (uC M0, (n, m)) 0 := by
  have e : txC M5 = (uC M0, (n, m)) := by
    show (uC M5, (M5.1 1 2, M5.1 1 3)) = _
    rw [uC_cg u, e2, e3]
  rw [e, e4] at h
  exact h
/-- the draft is empty -/
theorem DR.zero {M : JM} (h28 : FLP 28 0 3 M) (h32 : FLP 32 (-1) 36 M) (h39 : FLP 39 0 36 M) (h6 : M.1 27 6 = -1) (h7 : M.1 27 7 = -1) : DR M st0 := by
  refine ⟨fun s hs => h28 s (by omega), fun k h1 h2 => ?_, fun p hp => ⟨fun _ => rfl, fun _ => h32 p (by omega)⟩, fun p hp => ⟨fun _ => rfl, fun _ => h39 p (by omega)⟩, ⟨fun _ => rfl, fun _ => h6⟩, ⟨fun _ => rfl, fun _ => h7⟩⟩
  have h2 : ((k % 6 : Nat) : Int) < 0 := h2
  omega
theorem PI.zero {t : TXT} (hn : 0 ≤ t.2.1 ∧ t.2.1 ≤ 940) (hm : 0 ≤ t.2.2) : PI t st0 := by
  refine ⟨Int.le_refl _, hn.1, ⟨hn.2, hm⟩, fun s hs => ⟨Int.le_refl _, show (0 : Int) ≤ 6 by decide⟩, fun k h1 h2 => ?_, fun k k' h1 h2 h3 h4 he => ?_⟩
  · have h2 : ((k % 6 : Nat) : Int) < 0 := h2
    omega
  · have h3 : ((k % 6 : Nat) : Int) < 0 := h3
    omega
def ml_0 : List (Nat × (Nat × Nat)) := []
/-! The loop over the lines. -/
section MON
variable {t : TXT} {σ : PSt} {f g : PSt → RES}
def MO (f : PSt → RES) : Prop := ∀ σ : PSt, 0 ≤ σ.1 → (f σ).1 < 0 → σ.1 ≤ (f σ).2.1
theorem MO.seq (hf : MO f) (hg : MO g) : MO (seqS f g) := by
  intro σ h0 h
  by_cases c : (f σ).1 < 0
  · rw [seq_ok c] at h ⊢
    have h1 := hf σ h0 c
    have h2 := hg _ (by omega) h
    omega
  · rw [seq_bad (by omega)] at h
    omega
theorem kF_nn (hm : 0 ≤ t.2.2) (h0 : 0 ≤ σ.1) : 0 ≤ kF t σ := by
  unfold kF tF
  have h1 := tP_ge (u := t.1) (n := t.2.1) h0
  split <;> omega
theorem go_lt (h0 : 0 ≤ σ.1) (hk : 2 ≤ kK t σ) : σ.1 < (goS t σ).1 := (tE_le (u := t.1) (n := t.2.1) (m := t.2.2) h0 hk).1
theorem go_ge (h0 : 0 ≤ σ.1) : σ.1 ≤ (goS t σ).1 := by
  show σ.1 ≤ tE t.1 t.2.1 σ.1
  have h1 := tP_ge (u := t.1) (n := t.2.1) h0
  have h2 := (tQ_ok (u := t.1) (n := t.2.1) h0).1
  unfold tE
  split <;> omega
theorem MO.num (hm : 0 ≤ t.2.2) {a b : Int} : MO (numS t a b) := by
  intro σ h0 h
  have hF := kF_nn (σ := σ) hm h0
  unfold numS at h ⊢
  by_cases c : kK t σ = 3 ∧ a ≤ kV t σ ∧ kV t σ ≤ b
  · rw [if_pos c]
    have := go_lt (t := t) h0 (by omega)
    show σ.1 ≤ (goS t σ).1
    omega
  · rw [if_neg c] at h
    have h : kF t σ < 0 := h
    omega
theorem MO.new (hm : 0 ≤ t.2.2) {s : Nat} : MO (newS t s) := by
  intro σ h0 h
  have hF := kF_nn (σ := σ) hm h0
  unfold newS at h ⊢
  by_cases c : isNm t σ = true
  · rw [if_pos c] at h ⊢
    have hk : kK t σ = 2 := by
      unfold isNm at c
      simp only [Bool.and_eq_true, decide_eq_true_eq] at c
      exact c.1
    by_cases c2 : fndS σ (kV t σ) < 0
    · rw [if_pos c2]
      have := go_lt (t := t) h0 (by omega)
      show σ.1 ≤ (goS t σ).1
      omega
    · rw [if_neg c2] at h
      have h : kF t σ < 0 := h
      omega
  · rw [if_neg c] at h
    have h : kF t σ < 0 := h
    omega
theorem MO.inc {s : Nat} : MO (incS s) := fun _ _ _ => Int.le_refl _
theorem MO.set {j : Nat} : MO (setS j) := fun _ _ _ => Int.le_refl _
theorem nam_mo (hm : 0 ≤ t.2.2) {a : Int} {G : Int → PSt → RES} (h0 : 0 ≤ σ.1) (hG : ∀ m, (G m (goS t σ)).1 < 0 → (goS t σ).1 ≤ (G m (goS t σ)).2.1) (h : (nameS t a G σ).1 < 0) : σ.1 ≤ (nameS t a G σ).2.1 := by
  have hF := kF_nn (σ := σ) hm h0
  unfold nameS at h ⊢
  by_cases c : isNm t σ = true ∧ 0 ≤ fndS σ (kV t σ) ∧ fndS σ (kV t σ) / 6 = a
  · rw [if_pos c] at h ⊢
    have hk : kK t σ = 2 := by
      have := c.1
      unfold isNm at this
      simp only [Bool.and_eq_true, decide_eq_true_eq] at this
      exact this.1
    have h1 := go_lt (t := t) h0 (by omega)
    have h2 := hG _ h
    omega
  · rw [if_neg c] at h
    have h : kF t σ < 0 := h
    omega
theorem pair_mo (hm : 0 ≤ t.2.2) {P : Prop} [Decidable P] {a b p : Int} {j : Nat} (h0 : 0 ≤ σ.1) (hp : 0 ≤ p) (h : (if P then badS p σ else seqS (numS t a b) (setS j) σ).1 < 0) : σ.1 ≤ (if P then badS p σ else seqS (numS t a b) (setS j) σ).2.1 := by
  by_cases c : P
  · rw [if_pos c] at h
    have h : p < 0 := h
    omega
  · rw [if_neg c] at h ⊢
    exact MO.seq (MO.num hm) MO.set σ h0 h
theorem line_mo (hm : 0 ≤ t.2.2) (h0 : 0 ≤ σ.1) (h : (lineS t σ).1 < 0) : σ.1 < (lineS t σ).2.1 := by
  have hF := kF_nn (σ := σ) hm h0
  have fst : ∀ (s : Nat) (r : PSt → RES), MO r → kK t σ = 2 → (seqS (firstS t s) r σ).1 < 0 → σ.1 < (seqS (firstS t s) r σ).2.1 := by
    intro s r hr hk h9
    have h1 := go_lt (t := t) h0 (by omega)
    by_cases c : σ.2.1 s < 6
    · have e : firstS t s σ = okS (goS t σ) := if_pos c
      have hl : (firstS t s σ).1 < 0 := by rw [e]; exact okS_lt
      rw [seq_ok hl, e] at h9 ⊢
      have h9 : (r (goS t σ)).1 < 0 := h9
      have := hr (goS t σ) (by omega) h9
      show σ.1 < (r (goS t σ)).2.1
      omega
    · have e : firstS t s σ = badS (kF t σ) σ := if_neg c
      have hl : 0 ≤ (firstS t s σ).1 := by rw [e]; exact hF
      rw [seq_bad hl, e] at h9
      have h9 : kF t σ < 0 := h9
      omega
  have wm : ∀ j : Nat, kK t σ = 2 → (wmS t j σ).1 < 0 → σ.1 < (wmS t j σ).2.1 := by
    intro j hk h9
    have h1 := go_lt (t := t) h0 (by omega)
    unfold wmS at h9 ⊢
    by_cases c : σ.2.2.2 j ≠ 0
    · rw [if_pos c] at h9
      have h9 : kF t σ < 0 := h9
      omega
    · rw [if_neg c] at h9 ⊢
      have := MO.seq (MO.num hm (a := 0) (b := 9)) (MO.set (j := j)) (goS t σ) (by omega) h9
      omega
  unfold lineS at h ⊢
  by_cases c0 : kK t σ = 2 ∧ keyS (kV t σ) = 0
  · rw [if_pos c0] at h ⊢
    exact fst 0 _ (MO.seq (MO.new hm) (MO.seq (MO.num hm) MO.inc)) c0.1 h
  rw [if_neg c0] at h ⊢
  by_cases c1 : kK t σ = 2 ∧ keyS (kV t σ) = 1
  · rw [if_pos c1] at h ⊢
    exact fst 1 _ (MO.seq (MO.new hm) (MO.seq (MO.num hm) MO.inc)) c1.1 h
  rw [if_neg c1] at h ⊢
  by_cases c2 : kK t σ = 2 ∧ keyS (kV t σ) = 2
  · rw [if_pos c2] at h ⊢
    have h1 := go_lt (t := t) h0 (by omega)
    unfold minS at h ⊢
    have g2 := go_ge (t := t) (σ := goS t σ) (by omega)
    have g3 := go_ge (t := t) (σ := goS t (goS t σ)) (by omega)
    have k2 := kF_nn (t := t) (σ := goS t (goS t σ)) hm (by omega)
    refine Int.lt_of_lt_of_le h1 (nam_mo (t := t) (σ := goS t σ) hm (by omega) (fun m h3 => ?_) h)
    refine nam_mo (t := t) (σ := goS t (goS t σ)) hm (by omega) (fun k h4 => ?_) h3
    exact pair_mo hm (by omega) k2 h4
  rw [if_neg c2] at h ⊢
  by_cases c3 : kK t σ = 2 ∧ keyS (kV t σ) = 3
  · rw [if_pos c3] at h ⊢
    exact fst 2 _ (MO.seq (MO.new hm) (MO.seq (MO.num hm) (MO.seq (MO.num hm) MO.inc))) c3.1 h
  rw [if_neg c3] at h ⊢
  by_cases c4 : kK t σ = 2 ∧ keyS (kV t σ) = 4
  · rw [if_pos c4] at h ⊢
    have h1 := go_lt (t := t) h0 (by omega)
    unfold oweS at h ⊢
    have g2 := go_ge (t := t) (σ := goS t σ) (by omega)
    have g3 := go_ge (t := t) (σ := goS t (goS t σ)) (by omega)
    have k2 := kF_nn (t := t) (σ := goS t (goS t σ)) hm (by omega)
    refine Int.lt_of_lt_of_le h1 (nam_mo (t := t) (σ := goS t σ) hm (by omega) (fun m h3 => ?_) h)
    refine nam_mo (t := t) (σ := goS t (goS t σ)) hm (by omega) (fun k h4 => ?_) h3
    exact pair_mo hm (by omega) k2 h4
  rw [if_neg c4] at h ⊢
  by_cases c5 : kK t σ = 2 ∧ keyS (kV t σ) = 5
  · rw [if_pos c5] at h ⊢
    exact wm 72 c5.1 h
  rw [if_neg c5] at h ⊢
  by_cases c6 : kK t σ = 2 ∧ keyS (kV t σ) = 6
  · rw [if_pos c6] at h ⊢
    exact wm 73 c6.1 h
  rw [if_neg c6] at h
  have h : kF t σ < 0 := h
  omega
theorem one_mo (hm : 0 ≤ t.2.2) (h0 : 0 ≤ σ.1) (h : (oneS t σ).1 < 0) : σ.1 + 2 ≤ (oneS t σ).2.1 := by
  unfold oneS at h ⊢
  have hF := kF_nn (σ := (lineS t σ).2) hm
  by_cases c : (lineS t σ).1 < 0
  · have h1 := line_mo hm h0 c
    rw [seq_ok c] at h ⊢
    unfold endS at h ⊢
    by_cases c2 : kK t (lineS t σ).2 = 4 ∧ kV t (lineS t σ).2 = 59
    · rw [if_pos c2]
      have := go_lt (t := t) (σ := (lineS t σ).2) (by omega) (by omega)
      show σ.1 + 2 ≤ (goS t (lineS t σ).2).1
      omega
    · rw [if_neg c2] at h
      have h : kF t (lineS t σ).2 < 0 := h
      have := hF (by omega)
      omega
  · rw [seq_bad (by omega)] at h
    omega
end MON
/-- how far the lines have been read -/
def RLn (t : TXT) (M : JM) (n i : Int) : Prop := (M.1 1 12 = 0 ∧ ∃ σ : PSt, CS M t σ ∧ 2 * i ≤ σ.1 ∧ allS t 1000 0 st0 = allS t (1000 - i).toNat n σ) ∨ (M.1 1 12 ≠ 0 ∧ allS t 1000 0 st0 = -1 - M.1 1 13)
section RLS
variable {t : TXT} {M M1 M2 M' : JM} {n i v v1 : Int}
theorem allS_st {k : Nat} {σ : PSt} (hk : kK t σ ≠ 0) : allS t (k + 1) n σ = if (oneS t σ).1 < 0 then allS t k (n + 1) (oneS t σ).2 else -1 - (oneS t σ).1 := by
  show (if kK t σ = 0 then n else _) = _
  rw [if_neg hk]
theorem RLn.start (hc : CTk M t 0) (h12 : M.1 1 12 = 0) (hd : DR M st0) (hp : PI t st0) : RLn t M 0 0 := Or.inl ⟨h12, st0, ⟨hc, h12, hd, hp⟩, by show 2 * 0 ≤ 0; decide, rfl⟩
theorem RLn.bd (h : RLn t M n i) (h12 : M.1 1 12 = 0) : i ≤ 470 := by
  rcases h with ⟨_, σ, h1, h2, _⟩ | ⟨h1, _⟩
  · have := h1.2.2.2.2.1
    have := h1.2.2.2.2.2.1.1
    omega
  · exact absurd h12 h1
/-- the line, or its end, isn't read -/
theorem RLn.no (h : RLn t M n i) (h12 : M.1 1 12 = 0) (hi : 0 ≤ i) (h6 : M.1 1 6 ≠ 0) (hl : ∀ σ : PSt, CS M t σ → LRc t (oneS t σ) 0 M') : RLn t M' n (i + 1) := by
  have hb := h.bd h12
  rcases h with ⟨_, σ, h1, h2, h3⟩ | ⟨h1, _⟩
  · have hk : kK t σ ≠ 0 := fun e => h6 (h1.kind.1.mpr e)
    obtain ⟨b1, b2, b3⟩ := (hl σ h1).bad rfl
    refine Or.inr ⟨b2, ?_⟩
    rw [h3, show (1000 - i).toNat = (999 - i).toNat + 1 by omega, allS_st hk, if_neg (by omega), b3]
  · exact absurd h12 h1
theorem RLn.go (h : RLn t M n i) (h12 : M.1 1 12 = 0) (hi : 0 ≤ i) (h6 : M.1 1 6 ≠ 0) (hl : ∀ σ : PSt, CS M t σ → LRc t (oneS t σ) 1 M') : RLn t M' (n + 1) (i + 1) := by
  have hb := h.bd h12
  rcases h with ⟨_, σ, h1, h2, h3⟩ | ⟨h1, _⟩
  · have hk : kK t σ ≠ 0 := fun e => h6 (h1.kind.1.mpr e)
    obtain ⟨b1, b2⟩ := (hl σ h1).ok (by decide)
    have hm := one_mo h1.2.2.2.2.2.1.2 h1.2.2.2.1 b1
    refine Or.inl ⟨b2.2.1, (oneS t σ).2, b2, by omega, ?_⟩
    rw [h3, show (1000 - i).toNat = (999 - i).toNat + 1 by omega, allS_st hk, if_pos b1, show (1000 - (i + 1)).toNat = (999 - i).toNat by omega]
  · exact absurd h12 h1
theorem RLn.fin (h : RLn t M n i) (hi : 0 ≤ i) (hc : 900 ≤ i ∨ M.1 1 12 ≠ 0 ∨ M.1 1 6 = 0) (f12 : M'.1 1 12 = M.1 1 12) (f13 : M'.1 1 13 = M.1 1 13) : (M'.1 1 12 = 0 ∧ n = allS t 1000 0 st0) ∨ (M'.1 1 12 ≠ 0 ∧ -1 - M'.1 1 13 = allS t 1000 0 st0) := by
  rw [f12, f13]
  by_cases h12 : M.1 1 12 = 0
  · have hb := h.bd h12
    rcases h with ⟨_, σ, h1, h2, h3⟩ | ⟨h1, _⟩
    · refine Or.inl ⟨h12, ?_⟩
      have h6 : M.1 1 6 = 0 := by
        rcases hc with e | e | e
        · omega
        · exact absurd h12 e
        · exact e
      rw [h3, show (1000 - i).toNat = (999 - i).toNat + 1 by omega]
      show n = if kK t σ = 0 then n else _
      rw [if_pos (h1.kind.1.mp h6)]
    · exact absurd h12 h1
  · rcases h with ⟨h1, _⟩ | ⟨_, h3⟩
    · exact absurd h1 h12
    · exact Or.inr ⟨h12, h3.symm⟩
end RLS
theorem CTk.cg {M M' : JM} {t : TXT} {i : Int} (h : CTk M t i) (u : ∀ j, M'.1 2 j = M.1 2 j) (n : ∀ j, M'.1 1 j = M.1 1 j) (q : ∀ j, M'.2 1 j = M.2 1 j) : CTk M' t i := by
  obtain ⟨c1, c2, c3, c4, c5, c6, c7, c8, c9⟩ := h
  exact ⟨(uC_cg u).trans c1, (n 2).trans c2, (n 3).trans c3, (n 6).trans c4, (n 5).trans c5, (n 7).trans c6, fun hk => (n 4).trans (c7 hk), fun hk => by rw [q]; exact c8 hk, fun hk => (n 9).trans (c9 hk)⟩
theorem LRc.u {M : JM} {t : TXT} {r : RES} {v : Int} (h : LRc t r v M) (hv : v ≠ 0) : LRc t r 1 M := by
  obtain ⟨h1, h2⟩ := h.ok hv
  exact Or.inl ⟨h1, rfl, h2⟩
