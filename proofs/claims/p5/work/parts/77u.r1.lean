/-! The reference's reading of a SENTENCE: its tokens, and the names at hand. -/
def CR (M : JM) (t : TXT) (σ : PSt) : Prop := RTk M t σ.1 ∧ HN M 175 0 180 0 σ ∧ M.1 173 10 = 0 ∧ PI t σ
def LTr (t : TXT) (r : QR) (v : Int) (M : JM) : Prop := (r.1 = 0 ∧ v = 1 ∧ CR M t r.2.2.1) ∨ (r.1 ≠ 0 ∧ v = 0 ∧ M.1 173 10 = r.1 ∧ M.1 173 11 = r.2.1)
section CRS
variable {M M0 M1 M' : JM} {t : TXT} {σ : PSt} {v n k : Int} {r r' : QR}
theorem LTr.ok (h : LTr t r v M) (hv : v ≠ 0) : r.1 = 0 ∧ CR M t r.2.2.1 := by
  rcases h with ⟨h1, h2, h3⟩ | ⟨h1, h2, h3⟩
  · exact ⟨h1, h3⟩
  · exact absurd h2 hv
theorem LTr.bad (h : LTr t r v M) (hv : v = 0) : r.1 ≠ 0 ∧ M.1 173 10 = r.1 ∧ M.1 173 11 = r.2.1 := by
  rcases h with ⟨h1, h2, h3⟩ | ⟨h1, h2, h3⟩
  · omega
  · exact ⟨h1, h3⟩
theorem LTr.eq (e : r = r') (h : LTr t r' v M) : LTr t r v M := e ▸ h
theorem LTr.vc {v' : Int} (h : LTr t r v M) (e : v = v') : LTr t r v' M := e ▸ h
theorem LTr.o (h : CR M t r.2.2.1) (hr : r.1 = 0) (hv : v = 1) : LTr t r v M := Or.inl ⟨hr, hv, h⟩
theorem LTr.pl {v' : Int} (h : LTr t r v M) (hv : v = 0) (hv' : v' = 0) (e10 : M'.1 173 10 = M.1 173 10) (e11 : M'.1 173 11 = M.1 173 11) : LTr t r v' M' := by
  obtain ⟨h1, h2, h3⟩ := h.bad hv
  exact Or.inr ⟨h1, hv', e10.trans h2, e11.trans h3⟩
theorem CR.kind (h : CR M0 t σ) : M0.1 173 7 = kK t σ := h.1.2.2.2.1
theorem CR.start (h : CR M0 t σ) : M0.1 173 6 = kF t σ := h.1.2.2.2.2.1
theorem CR.word (h : CR M0 t σ) (hk : kK t σ = 2) : (M0.2 173 12).toInt = kV t σ := h.1.2.2.2.2.2.2.1 hk
theorem CR.num (h : CR M0 t σ) (hk : kK t σ = 3) : M0.1 173 8 = kV t σ := h.1.2.2.2.2.2.2.2.1 hk
theorem CR.sgn (h : CR M0 t σ) (hk : kK t σ = 4) : M0.1 173 9 = kV t σ := h.1.2.2.2.2.2.2.2.2 hk
theorem CR.br (h : CR M0 t σ) (h1 : M0.1 173 7 = 4 ∧ M0.1 173 9 = 40) : brQ t (σ, n) := by
  have hk := h.kind.symm.trans h1.1
  exact ⟨hk, (h.sgn hk).symm.trans h1.2⟩
theorem CR.nobr (h : CR M0 t σ) (h1 : M0.1 173 7 ≠ 4 ∨ M0.1 173 9 ≠ 40) : ¬ brQ t (σ, n) := fun e => by
  have e1 : kK t σ = 4 := e.1
  have e2 : kV t σ = 40 := e.2
  have h2 := h.kind
  have h3 := h.sgn e1
  omega
theorem CR.ky (h : CR M0 t σ) (hw : WD M0 k) (hk : 0 ≤ k ∧ k < 24) : kyQ t (σ, n) k := by
  have h2 : kK t σ = 2 := h.kind.symm.trans hw.1
  exact ⟨h2, keyS_ge hk (by rw [← h.word h2]; exact hw.2.symm)⟩
theorem CR.noky (h : CR M0 t σ) (hw : ¬ WD M0 k) (hk : 0 ≤ k) : ¬ kyQ t (σ, n) k := fun e => hw ⟨h.kind.trans e.1, by rw [h.word e.1]; exact (keyS_eq hk e.2).symm⟩
/-- go() over the token at hand -/
theorem CR.next (h : CR M t σ) (hk : 2 ≤ kK t σ) (hn : RTk M' (txR M) (M.1 173 5)) (hf : M'.1 173 10 = M.1 173 10) (h5 : ∀ j, M'.1 175 j = M.1 175 j) (h8 : ∀ k, M'.2 180 k = M.2 180 k) : CR M' t (goS t σ) := by
  obtain ⟨c, d, f, p⟩ := h
  have hb := tE_le (u := t.1) (n := t.2.1) (m := t.2.2) p.1 hk
  have e5 : M.1 173 5 = tE t.1 t.2.1 σ.1 := c.2.2.2.2.2.1 hk
  rw [c.tx, e5] at hn
  exact ⟨hn, HN.cp (σ := goS t σ) d (fun j _ => h5 _) (fun k _ => h8 _), hf.trans f, by show 0 ≤ tE t.1 t.2.1 σ.1; have := p.1; omega, hb.2, p.2.2⟩
theorem CR.cg (h : CR M t σ) (u : ∀ j, M'.1 174 j = M.1 174 j) (g : ∀ j, 3 ≤ j ∧ j ≤ 9 → M'.1 173 j = M.1 173 j) (q : M'.2 173 12 = M.2 173 12) (hf : M'.1 173 10 = M.1 173 10) (h5 : ∀ j, M'.1 175 j = M.1 175 j) (h8 : ∀ k, M'.2 180 k = M.2 180 k) : CR M' t σ := ⟨RTk.cg h.1 u g q, HN.cp h.2.1 (fun j _ => h5 _) (fun k _ => h8 _), hf.trans h.2.2.1, h.2.2.2⟩
theorem LTr.no (hr : r = noQ t k (σ, n)) (hk : k ≠ 0) (h : CR M0 t σ) (hv : v = 0) (e10 : M'.1 173 10 = k) (e11 : M'.1 173 11 = M0.1 173 6) : LTr t r v M' := by
  subst hr
  exact Or.inr ⟨hk, hv, e10, e11.trans h.start⟩
theorem LTr.go (hr : r = okQ (goQ t (σ, n))) (h : CR M0 t σ) (hk : 2 ≤ kK t σ) (hv : v = 1) (hn : RTk M' (txR M0) (M0.1 173 5)) (hf : M'.1 173 10 = M0.1 173 10) (h5 : ∀ j, M'.1 175 j = M0.1 175 j) (h8 : ∀ k, M'.2 180 k = M0.2 180 k) : LTr t r v M' := by
  subst hr
  exact Or.inl ⟨rfl, hv, h.next hk hn hf h5 h8⟩
theorem rsgn_no {a : Int} (h : CR M0 t σ) (hn : M0.1 173 7 ≠ 4 ∨ M0.1 173 9 ≠ a) (hv : v = 0) (e10 : M'.1 173 10 = 1) (e11 : M'.1 173 11 = M0.1 173 6) : LTr t (sgnQ t a (σ, n)) v M' := by
  refine LTr.no (k := 1) (n := n) ?_ (by decide) h hv e10 e11
  unfold sgnQ
  refine if_neg (fun q => ?_)
  have q1 : kK t σ = 4 := q.1
  have q2 : kV t σ = a := q.2
  have h1 := h.kind
  have h2 := h.sgn q1
  omega
theorem rsgn_go {a : Int} (h : CR M0 t σ) (h7 : M0.1 173 7 = 4) (h9 : M0.1 173 9 = a) (hv : v = 1) (hn : RTk M' (txR M0) (M0.1 173 5)) (hf : M'.1 173 10 = M0.1 173 10) (h5 : ∀ j, M'.1 175 j = M0.1 175 j) (h8 : ∀ k, M'.2 180 k = M0.2 180 k) : LTr t (sgnQ t a (σ, n)) v M' := by
  have hk := h.kind.symm.trans h7
  refine LTr.go (n := n) ?_ h (by omega) hv hn hf h5 h8
  unfold sgnQ
  exact if_pos ⟨hk, (h.sgn hk).symm.trans h9⟩
theorem rnq_no1 {a b : Int} (h : CR M0 t σ) (hn : M0.1 173 7 ≠ 3) (hv : v = 0) (e10 : M'.1 173 10 = 1) (e11 : M'.1 173 11 = M0.1 173 6) : LTr t (numQ t a b (σ, n)) v M' := by
  refine LTr.no (k := 1) (n := n) ?_ (by decide) h hv e10 e11
  unfold numQ
  exact if_neg (fun q => hn (h.kind.trans q))
theorem rnq_no2 {a b : Int} (h : CR M0 t σ) (h7 : M0.1 173 7 = 3) (hn : M0.1 173 8 < a ∨ b < M0.1 173 8) (hv : v = 0) (e10 : M'.1 173 10 = 2) (e11 : M'.1 173 11 = M0.1 173 6) : LTr t (numQ t a b (σ, n)) v M' := by
  have hk := h.kind.symm.trans h7
  have h2 := h.num hk
  refine LTr.no (k := 2) (n := n) ?_ (by decide) h hv e10 e11
  unfold numQ
  have c1 : kK t (σ, n).1 = 3 := hk
  rw [if_pos c1, if_neg (fun q => by have q1 : a ≤ kV t σ := q.1; have q2 : kV t σ ≤ b := q.2; omega)]
theorem rnq_go {a b : Int} (h : CR M0 t σ) (h7 : M0.1 173 7 = 3) (h9 : a ≤ M0.1 173 8 ∧ M0.1 173 8 ≤ b) (h1 : CR M1 t σ) (hv : v = 1) (hn : RTk M' (txR M1) (M1.1 173 5)) (hf : M'.1 173 10 = M1.1 173 10) (h5 : ∀ j, M'.1 175 j = M1.1 175 j) (h8 : ∀ k, M'.2 180 k = M1.2 180 k) : LTr t (numQ t a b (σ, n)) v M' := by
  have hk := h.kind.symm.trans h7
  have h2 := h.num hk
  refine LTr.go (n := n) ?_ h1 (by omega) hv hn hf h5 h8
  unfold numQ
  have c1 : kK t (σ, n).1 = 3 := hk
  rw [if_pos c1, if_pos ⟨show a ≤ kV t σ by omega, show kV t σ ≤ b by omega⟩]
theorem rcmp_no (h : CR M0 t σ) (hn : M0.1 173 7 ≠ 4 ∨ (M0.1 173 9 ≠ 60 ∧ M0.1 173 9 ≠ 61 ∧ M0.1 173 9 ≠ 62)) : (cmpQ t (σ, n)).1 ≠ 0 ∧ cmpQ t (σ, n) = noQ t 1 (σ, n) := by
  have e : cmpQ t (σ, n) = noQ t 1 (σ, n) := by
    unfold cmpQ
    refine if_neg (fun q => ?_)
    have q1 : kK t σ = 4 := q.1
    have q2 : kV t σ = 60 ∨ kV t σ = 61 ∨ kV t σ = 62 := q.2
    have h1 := h.kind
    have h2 := h.sgn q1
    omega
  rw [e]
  exact ⟨show (1 : Int) ≠ 0 by decide, rfl⟩
theorem rcmp_k (h : CR M0 t σ) (h1 : M0.1 173 7 = 4) : 2 ≤ kK t σ := by
  have := h.kind
  omega
theorem rcmp_ok (h : CR M0 t σ) (h1 : M0.1 173 7 = 4 ∧ (M0.1 173 9 = 60 ∨ M0.1 173 9 = 61 ∨ M0.1 173 9 = 62)) : seqQ (cmpQ t (σ, n)) (numQ t 0 999) = numQ t 0 999 (goS t σ, n) := by
  have hk := h.kind.symm.trans h1.1
  have hv := h.sgn hk
  have e : cmpQ t (σ, n) = okQ (goQ t (σ, n)) := by
    unfold cmpQ
    exact if_pos ⟨hk, show kV t σ = 60 ∨ kV t σ = 61 ∨ kV t σ = 62 by omega⟩
  rw [e]
  rfl
end CRS
/-- names, found by the reference in a DUCHY at hand -/
def FNR (M : JM) (b n v : Int) (w : Int64) : Prop := -1 ≤ v ∧ (v = -1 ∨ M.2 180 (b + v).toNat = w) ∧ (v = -1 ∨ v < n) ∧ (v ≠ -1 ∨ ∀ k : Int, 0 ≤ k → k < n → M.2 180 (b + k).toNat ≠ w)
section FNRS
variable {M M0 M1 M' : JM} {t : TXT} {σ : PSt} {v n a : Int} {w : Int64}
theorem hnn (h : HN M 175 0 180 0 σ) {s : Nat} (hs : s < 3) : M.1 175 s = σ.2.1 s := by
  have h1 := h.1 s hs
  rw [Nat.zero_add] at h1
  exact h1
theorem hnl (h : HN M 175 0 180 0 σ) {k : Nat} (hk : k < 18) (hl : ((k % 6 : Nat) : Int) < σ.2.1 (k / 6)) : (M.2 180 k).toInt = σ.2.2.1 k := by
  have h1 := h.2 k hk hl
  rw [Nat.zero_add] at h1
  exact h1
theorem FNR.hit {b m : Int} (h : CR M t σ) (ha : 0 ≤ a ∧ a < 3) (hf : FNR M b m v w) (hb : b = 6 * a) (hm : m = M.1 175 a.toNat) (hw : w.toInt = kV t σ) (hv : v ≠ -1) : fndS σ (kV t σ) = 6 * a + v ∧ 0 ≤ v ∧ v ≤ 5 := by
  subst hb
  subst hm
  obtain ⟨f1, f2, f3, f4⟩ := hf
  have e1 := f2.resolve_left hv
  have e2 := f3.resolve_left hv
  have hc := hnn h.2.1 (s := a.toNat) (by omega)
  have hb := h.2.2.2.2.2.2.1 a.toNat (by omega)
  have e6 : (6 * a + v).toNat / 6 = a.toNat := by omega
  have e7 : (((6 * a + v).toNat % 6 : Nat) : Int) = v := by omega
  have ht : (((6 * a + v).toNat % 6 : Nat) : Int) < σ.2.1 ((6 * a + v).toNat / 6) := by
    rw [e6, e7]
    omega
  have hn := hnl h.2.1 (k := (6 * a + v).toNat) (by omega) ht
  rw [e1, hw] at hn
  have := fnd_is h.2.2.2 (k := (6 * a + v).toNat) (by omega) ht hn.symm
  rw [this]
  omega
theorem FNR.miss {b m : Int} (h : CR M t σ) (ha : 0 ≤ a ∧ a < 3) (hf : FNR M b m v w) (hb : b = 6 * a) (hm : m = M.1 175 a.toNat) (hw : w.toInt = kV t σ) (hv : v = -1) : fndS σ (kV t σ) < 0 ∨ fndS σ (kV t σ) / 6 ≠ a := by
  subst hb
  subst hm
  obtain ⟨f1, f2, f3, f4⟩ := hf
  have e1 := f4.resolve_left (fun e => e hv)
  by_cases c : 0 ≤ fndS σ (kV t σ)
  · refine Or.inr (fun e => ?_)
    obtain ⟨k, h1, h2, h3, h4⟩ := fnd_hit (σ := σ) (r := kV t σ) (m := 18) c
    have h2 : fndS σ (kV t σ) = (k : Int) := h2
    have e6 : k / 6 = a.toNat := by omega
    have hc := hnn h.2.1 (s := a.toNat) (by omega)
    have hn := hnl h.2.1 h1 h3
    rw [e6] at h3
    refine e1 ((k % 6 : Nat) : Int) (by omega) (by omega) ?_
    refine Int64.toInt_inj.mp ?_
    rw [show (6 * a + ((k % 6 : Nat) : Int)).toNat = k by omega, hn, h4, hw]
  · exact Or.inl (by omega)
theorem CR.isn (h : CR M0 t σ) : isNm t σ = true ↔ M0.1 173 7 = 2 ∧ keyS (M0.2 173 12).toInt = -1 := by
  unfold isNm
  simp only [Bool.and_eq_true, decide_eq_true_eq]
  rw [h.kind]
  constructor
  · intro q
    rw [h.word q.1]
    exact q
  · intro q
    rw [h.word q.1] at q
    exact q
theorem rnmq_no1 (h : CR M0 t σ) (hn : ¬ (M0.1 173 7 = 2 ∧ keyS (M0.2 173 12).toInt = -1)) (hv : v = 0) (e10 : M'.1 173 10 = 1) (e11 : M'.1 173 11 = M0.1 173 6) : LTr t (namQ t a (σ, n)) v M' := by
  refine LTr.no (k := 1) (n := n) ?_ (by decide) h hv e10 e11
  unfold namQ
  exact if_neg (fun q => hn (h.isn.mp q))
theorem rnmq_no3 (h : CR M0 t σ) (h1 : M0.1 173 7 = 2 ∧ keyS (M0.2 173 12).toInt = -1) (hn : fndS σ (kV t σ) < 0 ∨ fndS σ (kV t σ) / 6 ≠ a) (hv : v = 0) (e10 : M'.1 173 10 = 3) (e11 : M'.1 173 11 = M0.1 173 6) : LTr t (namQ t a (σ, n)) v M' := by
  refine LTr.no (k := 3) (n := n) ?_ (by decide) h hv e10 e11
  unfold namQ
  have c1 : isNm t (σ, n).1 = true := h.isn.mpr h1
  rw [if_pos c1, if_neg (fun q => by have q1 : 0 ≤ fndS σ (kV t σ) := q.1; have q2 : fndS σ (kV t σ) / 6 = a := q.2; omega)]
theorem rnmq_go {z : Int} (h : CR M0 t σ) (h1' : M0.1 173 7 = 2 ∧ keyS (M0.2 173 12).toInt = -1) (hz : fndS σ (kV t σ) = 6 * a + z ∧ 0 ≤ z ∧ z ≤ 5) (ha : 0 ≤ a) (h1 : CR M1 t σ) (hv : v = 1) (hn : RTk M' (txR M1) (M1.1 173 5)) (hf : M'.1 173 10 = M1.1 173 10) (h5 : ∀ j, M'.1 175 j = M1.1 175 j) (h8 : ∀ k, M'.2 180 k = M1.2 180 k) : LTr t (namQ t a (σ, n)) v M' := by
  have hk : kK t σ = 2 := h.kind.symm.trans h1'.1
  refine LTr.go (n := n) ?_ h1 (by omega) hv hn hf h5 h8
  unfold namQ
  have c1 : isNm t (σ, n).1 = true := h.isn.mpr h1'
  rw [if_pos c1, if_pos ⟨show 0 ≤ fndS σ (kV t σ) by omega, show fndS σ (kV t σ) / 6 = a by omega⟩]
end FNRS
/-- what a method says: of a ONE or a row by the class's rules (QP), of rows by the reference's (QO) -/
def OneR (P : TXT → Nat → Int → SSt → QR → Prop) (t : TXT) (q : Nat) (d : Int) (s : SSt) (v : Int) (M : JM) : Prop := ∃ r : QR, P t q d s r ∧ LTr t r v M ∧ (r.1 = 0 → r.2.2.2 = M.1 173 50)
/-- the loops over ands (q = 1 into 0) and ors (q = 3 into 2) -/
def RowR (t : TXT) (q q0 : Nat) (d : Int) (s0 : SSt) (M : JM) : Prop := ∃ s : SSt, CR M t s.1 ∧ s.2 = M.1 173 50 ∧ ∀ r : QR, QO t q d s r → QO t q0 d s0 r
/-- a bracket's inside and its end -/
def BrR (t : TXT) (d : Int) (s : SSt) (v : Int) (M : JM) : Prop := ∃ r : QR, QP t 1 d s r ∧ LTr t (seqQ r (sgnQ t 41)) v M ∧ ((seqQ r (sgnQ t 41)).1 = 0 → (seqQ r (sgnQ t 41)).2.2.2 = M.1 173 50)
/-- no word from w0 on up to w -/
def NW (M : JM) (w : Int) : Prop := ∀ k : Int, 15 ≤ k → k < w → ¬ WD M k
def WQ (M : JM) (w : Int) : Prop := (w = 24 ∧ NW M 24) ∨ ((15 ≤ w ∧ w ≤ 23) ∧ WD M w)
section ORS
variable {P : TXT → Nat → Int → SSt → QR → Prop} {M M0 M1 M2 M' : JM} {t : TXT} {σ : PSt} {v v1 v2 n k d m dd : Int} {s s0 : SSt} {r : QR} {q q0 : Nat}
theorem NW.start {w : Int} (h : w ≤ 15) : NW M w := fun k h1 h2 => by omega
theorem NW.st {w w' : Int} (h : NW M w) (hw : ¬ WD M w) (e : w' = w + 1) : NW M w' := fun k h1 h2 => by
  by_cases c : k = w
  · rw [c]
    exact hw
  · exact h k h1 (by omega)
theorem WQ.no {w : Int} (h : NW M w) (e : w = 24) : WQ M w := Or.inl ⟨e, e ▸ h⟩
theorem WQ.yes {w : Int} (h : WD M w) (e : 15 ≤ w ∧ w ≤ 23) : WQ M w := Or.inr ⟨e, h⟩
theorem WQ.wd {w : Int} (h : WQ M w) (e : w ≤ 23) : (15 ≤ w ∧ w ≤ 23) ∧ WD M w := by
  rcases h with ⟨h1, h2⟩ | h
  · omega
  · exact h
theorem CR.noany {w : Int} (h : CR M0 t σ) (hw : WQ M0 w) (e : 23 < w) : ¬ anyQ t (σ, n) := fun q => by
  rcases hw with ⟨_, h2⟩ | ⟨h1, _⟩
  · have q1 : kK t σ = 2 := q.1
    have q2 : 15 ≤ keyS (kV t σ) := q.2
    have h3 := keyN_hit (r := kV t σ) (k := 24) (by show 0 ≤ keyS (kV t σ); omega)
    have h4 : keyS (kV t σ) < 24 := h3.2
    exact (h.noky (n := n) (h2 _ q2 h4) (by omega)) ⟨q1, rfl⟩
  · omega
theorem CR.many {w : Int} (h : CR M0 t σ) (hw : WQ M0 w) (e : (M0.1 173 7 = 4 ∧ M0.1 173 9 = 40) ∨ w ≤ 23) : brQ t (σ, n) ∨ anyQ t (σ, n) := by
  rcases e with e | e
  · exact Or.inl (h.br e)
  · obtain ⟨h1, h2⟩ := hw.wd e
    have h3 := h.ky (n := n) h2 (by omega)
    exact Or.inr (kyany h3 h1.1)
theorem LTr.fr (h : LTr t r v M) (k : ∀ σ : PSt, CR M t σ → CR M' t σ) (e10 : M'.1 173 10 = M.1 173 10) (e11 : M'.1 173 11 = M.1 173 11) : LTr t r v M' := by
  rcases h with ⟨h1, h2, h3⟩ | ⟨h1, h2, h3, h4⟩
  · exact Or.inl ⟨h1, h2, k _ h3⟩
  · exact Or.inr ⟨h1, h2, e10.trans h3, e11.trans h4⟩
theorem OneR.fr (h : OneR P t q d s v M) (k : ∀ σ : PSt, CR M t σ → CR M' t σ) (e10 : M'.1 173 10 = M.1 173 10) (e11 : M'.1 173 11 = M.1 173 11) (e50 : M'.1 173 50 = M.1 173 50) : OneR P t q d s v M' := by
  obtain ⟨r, h1, h2, h3⟩ := h
  exact ⟨r, h1, h2.fr k e10 e11, fun e => (h3 e).trans e50.symm⟩
/-- done, and then what leaves the tokens be -/
theorem OneR.ok (h : OneR P t q d s v1 M) (hv : v1 ≠ 0) (hv' : v = 1) (k : ∀ σ : PSt, CR M t σ → CR M' t σ) (e50 : M'.1 173 50 = M.1 173 50) : OneR P t q d s v M' := by
  obtain ⟨r, h1, h2, h3⟩ := h
  obtain ⟨b1, b2⟩ := h2.ok hv
  exact ⟨r, h1, LTr.o (k _ b2) b1 hv', fun e => (h3 e).trans e50.symm⟩
theorem OneR.vc (h : OneR P t q d s v1 M) (e : v1 = v) : OneR P t q d s v M := e ▸ h
theorem OneR.no1 {w : Int} (h : CR M0 t σ) (hw : WQ M0 w) (h1 : M0.1 173 7 ≠ 4 ∨ M0.1 173 9 ≠ 40) (h2 : 23 < w) (hv : v = 0) (e10 : M'.1 173 10 = 1) (e11 : M'.1 173 11 = M0.1 173 6) : OneR QP t 0 d (σ, n) v M' :=
  ⟨_, QP.one_no (h.nobr h1) (h.noany hw h2), LTr.no (k := 1) (n := n) rfl (by decide) h hv e10 e11, fun e => absurd e (show (1 : Int) ≠ 0 by decide)⟩
theorem OneR.no4 {w : Int} (h : CR M0 t σ) (hw : WQ M0 w) (h1 : (M0.1 173 7 = 4 ∧ M0.1 173 9 = 40) ∨ w ≤ 23) (h2 : 20 ≤ n ∨ 8 < d) (hv : v = 0) (e10 : M'.1 173 10 = 4) (e11 : M'.1 173 11 = M0.1 173 6) : OneR QP t 0 d (σ, n) v M' :=
  ⟨_, QP.one_many (h.many hw h1) h2, LTr.no (k := 4) (n := n) rfl (by decide) h hv e10 e11, fun e => absurd e (show (4 : Int) ≠ 0 by decide)⟩
theorem OneR.br (h : CR M0 t σ) (h1 : M0.1 173 7 = 4 ∧ M0.1 173 9 = 40) (h2 : n < 20 ∧ d ≤ 8) (p : BrR t dd (goS t σ, m) v M) (hm : m = n + 1) (hd : dd = d + 1) : OneR QP t 0 d (σ, n) v M := by
  subst hm hd
  obtain ⟨r, q1, l1, e1⟩ := p
  exact ⟨_, QP.one_br (s := (σ, n)) (h.br h1) h2 q1, l1, e1⟩
theorem OneR.nt {w : Int} (h : CR M0 t σ) (hw : WQ M0 w) (h1 : w = 15) (h2 : n < 20 ∧ d ≤ 8) (p : OneR QP t 0 dd (goS t σ, m) v M) (hm : m = n + 1) (hd : dd = d + 1) : OneR QP t 0 d (σ, n) v M := by
  subst hm hd
  obtain ⟨r, q1, l1, e1⟩ := p
  obtain ⟨_, h3⟩ := hw.wd (by omega)
  subst h1
  exact ⟨r, QP.one_not (s := (σ, n)) (h.ky h3 (by omega)) h2 q1, l1, e1⟩
theorem OneR.pl {w : Int} (h : CR M0 t σ) (hw : WQ M0 w) (h1 : 16 ≤ w ∧ w ≤ 23) (h2 : n < 20 ∧ d ≤ 8) (p : LTr t (plnQ t w (goS t σ, m)) v M) (hm : m = n + 1) (e50 : M.1 173 50 = n + 1) : OneR QP t 0 d (σ, n) v M := by
  subst hm
  obtain ⟨_, h3⟩ := hw.wd h1.2
  exact ⟨_, QP.one_pl (s := (σ, n)) (h.ky h3 (by omega)) h2 h1.1, p, fun _ => by rw [plnQ_n, e50]; rfl⟩
theorem RowR.no0 (p : OneR QP t 0 d s0 v1 M) (hv1 : v1 = 0) (hv : v = 0) : OneR QO t 0 d s0 v M := by
  obtain ⟨r, q1, l1, e1⟩ := p
  exact ⟨r, QO.and_no q1 (l1.bad hv1).1, l1.vc (hv1.trans hv.symm), e1⟩
theorem RowR.no2 (p : OneR QO t 0 d s0 v1 M) (hv1 : v1 = 0) (hv : v = 0) : OneR QO t 2 d s0 v M := by
  obtain ⟨r, q1, l1, e1⟩ := p
  exact ⟨r, QO.or_no q1 (l1.bad hv1).1, l1.vc (hv1.trans hv.symm), e1⟩
theorem RowR.start0 (p : OneR QP t 0 d s0 v1 M) (hv1 : v1 ≠ 0) : RowR t 1 0 d s0 M := by
  obtain ⟨r, q1, l1, e1⟩ := p
  obtain ⟨b1, b2⟩ := l1.ok hv1
  exact ⟨r.2.2, b2, e1 b1, fun r2 h2 => QO.and_ok q1 b1 h2⟩
theorem RowR.start2 (p : OneR QO t 0 d s0 v1 M) (hv1 : v1 ≠ 0) : RowR t 3 2 d s0 M := by
  obtain ⟨r, q1, l1, e1⟩ := p
  obtain ⟨b1, b2⟩ := l1.ok hv1
  exact ⟨r.2.2, b2, e1 b1, fun r2 h2 => QO.or_ok q1 b1 h2⟩
theorem RowR.cg (h : RowR t q q0 d s0 M) (k : ∀ σ : PSt, CR M t σ → CR M' t σ) (e50 : M'.1 173 50 = M.1 173 50) : RowR t q q0 d s0 M' := by
  obtain ⟨s, c1, c2, c3⟩ := h
  exact ⟨s, k _ c1, c2.trans e50.symm, c3⟩
theorem RowR.bad0 (h : RowR t 1 0 d s0 M) (hw : WD M 14) (k : ∀ σ : PSt, CR M t σ → 2 ≤ kK t σ → CR M1 t (goS t σ)) (e50 : M1.1 173 50 = M.1 173 50) (hd : dd = d) (p : ∀ σ : PSt, CR M1 t σ → OneR QP t 0 dd (σ, M1.1 173 50) v1 M') (hv1 : v1 = 0) (hv : v = 0) : OneR QO t 0 d s0 v M' := by
  subst hd
  obtain ⟨s, c1, c2, c3⟩ := h
  have ho := c1.ky (n := s.2) hw (by omega)
  obtain ⟨r, q1, l1, e1⟩ := p _ (k s.1 c1 ho.k2)
  rw [e50, ← c2] at q1
  exact ⟨r, c3 _ (QO.am_no ho q1 (l1.bad hv1).1), l1.vc (hv1.trans hv.symm), e1⟩
theorem RowR.go0 (h : RowR t 1 0 d s0 M) (hw : WD M 14) (k : ∀ σ : PSt, CR M t σ → 2 ≤ kK t σ → CR M1 t (goS t σ)) (e50 : M1.1 173 50 = M.1 173 50) (hd : dd = d) (p : ∀ σ : PSt, CR M1 t σ → OneR QP t 0 dd (σ, M1.1 173 50) v1 M2) (hv1 : v1 ≠ 0) : RowR t 1 0 d s0 M2 := by
  subst hd
  obtain ⟨s, c1, c2, c3⟩ := h
  have ho := c1.ky (n := s.2) hw (by omega)
  obtain ⟨r, q1, l1, e1⟩ := p _ (k s.1 c1 ho.k2)
  rw [e50, ← c2] at q1
  obtain ⟨b1, b2⟩ := l1.ok hv1
  exact ⟨r.2.2, b2, e1 b1, fun r2 h2 => c3 _ (QO.am_go ho q1 b1 h2)⟩
theorem RowR.bad2 (h : RowR t 3 2 d s0 M) (hw : WD M 13) (k : ∀ σ : PSt, CR M t σ → 2 ≤ kK t σ → CR M1 t (goS t σ)) (e50 : M1.1 173 50 = M.1 173 50) (hd : dd = d) (p : ∀ σ : PSt, CR M1 t σ → OneR QO t 0 dd (σ, M1.1 173 50) v1 M') (hv1 : v1 = 0) (hv : v = 0) : OneR QO t 2 d s0 v M' := by
  subst hd
  obtain ⟨s, c1, c2, c3⟩ := h
  have ho := c1.ky (n := s.2) hw (by omega)
  obtain ⟨r, q1, l1, e1⟩ := p _ (k s.1 c1 ho.k2)
  rw [e50, ← c2] at q1
  exact ⟨r, c3 _ (QO.om_no ho q1 (l1.bad hv1).1), l1.vc (hv1.trans hv.symm), e1⟩
theorem RowR.go2 (h : RowR t 3 2 d s0 M) (hw : WD M 13) (k : ∀ σ : PSt, CR M t σ → 2 ≤ kK t σ → CR M1 t (goS t σ)) (e50 : M1.1 173 50 = M.1 173 50) (hd : dd = d) (p : ∀ σ : PSt, CR M1 t σ → OneR QO t 0 dd (σ, M1.1 173 50) v1 M2) (hv1 : v1 ≠ 0) : RowR t 3 2 d s0 M2 := by
  subst hd
  obtain ⟨s, c1, c2, c3⟩ := h
  have ho := c1.ky (n := s.2) hw (by omega)
  obtain ⟨r, q1, l1, e1⟩ := p _ (k s.1 c1 ho.k2)
  rw [e50, ← c2] at q1
  obtain ⟨b1, b2⟩ := l1.ok hv1
  exact ⟨r.2.2, b2, e1 b1, fun r2 h2 => c3 _ (QO.om_go ho q1 b1 h2)⟩
theorem RowR.fin0 (h : RowR t 1 0 d s0 M) (hw : ¬ WD M 14) (k : ∀ σ : PSt, CR M t σ → CR M' t σ) (e50 : M'.1 173 50 = M.1 173 50) (hv : v = 1) : OneR QO t 0 d s0 v M' := by
  obtain ⟨s, c1, c2, c3⟩ := h
  exact ⟨okQ s, c3 _ (QO.am_end (c1.noky (n := s.2) hw (by decide))), LTr.o (k _ c1) rfl hv, fun _ => by rw [e50]; exact c2⟩
theorem RowR.fin2 (h : RowR t 3 2 d s0 M) (hw : ¬ WD M 13) (k : ∀ σ : PSt, CR M t σ → CR M' t σ) (e50 : M'.1 173 50 = M.1 173 50) (hv : v = 1) : OneR QO t 2 d s0 v M' := by
  obtain ⟨s, c1, c2, c3⟩ := h
  exact ⟨okQ s, c3 _ (QO.om_end (c1.noky (n := s.2) hw (by decide))), LTr.o (k _ c1) rfl hv, fun _ => by rw [e50]; exact c2⟩
theorem BrR.no (p : OneR QO t 2 d s v1 M) (hv1 : v1 = 0) (hv : v = 0) : BrR t d s v M := by
  obtain ⟨r, q1, l1, e1⟩ := p
  have hb := l1.bad hv1
  refine ⟨r, q1.to.2.2.1 rfl, LTr.eq (seqQ_n hb.1) (l1.vc (hv1.trans hv.symm)), fun e => ?_⟩
  rw [seqQ_n hb.1] at e
  exact absurd e hb.1
theorem BrR.bad (p : OneR QO t 2 d s v1 M) (hv1 : v1 ≠ 0) (hn : M.1 173 7 ≠ 4 ∨ M.1 173 9 ≠ 41) (hv : v = 0) (e10 : M'.1 173 10 = 1) (e11 : M'.1 173 11 = M.1 173 6) : BrR t d s v M' := by
  obtain ⟨r, q1, l1, e1⟩ := p
  obtain ⟨b1, b2⟩ := l1.ok hv1
  have l2 : LTr t (sgnQ t 41 (r.2.2.1, r.2.2.2)) v M' := rsgn_no b2 hn hv e10 e11
  refine ⟨r, q1.to.2.2.1 rfl, LTr.eq (seqQ_0 b1) l2, fun e => ?_⟩
  rw [seqQ_0 b1] at e
  exact absurd e (l2.bad hv).1
theorem BrR.ok (p : OneR QO t 2 d s v1 M) (hv1 : v1 ≠ 0) (h7 : M.1 173 7 = 4) (h9 : M.1 173 9 = 41) (hv : v = 1) (hn : RTk M' (txR M) (M.1 173 5)) (hf : M'.1 173 10 = M.1 173 10) (h5 : ∀ j, M'.1 175 j = M.1 175 j) (h8 : ∀ k, M'.2 180 k = M.2 180 k) (e50 : M'.1 173 50 = M.1 173 50) : BrR t d s v M' := by
  obtain ⟨r, q1, l1, e1⟩ := p
  obtain ⟨b1, b2⟩ := l1.ok hv1
  have l2 : LTr t (sgnQ t 41 (r.2.2.1, r.2.2.2)) v M' := rsgn_go b2 h7 h9 hv hn hf h5 h8
  refine ⟨r, q1.to.2.2.1 rfl, LTr.eq (seqQ_0 b1) l2, fun e => ?_⟩
  rw [seqQ_0 b1, sgnQ_n, e50]
  exact e1 b1
/-- the whole, as the reference reads it -/
theorem SenR.no (p : OneR QO t 2 dd (σ, m) v1 M) (hd : dd = 1) (hm : m = 0) (hv1 : v1 = 0) : ∃ r : QR, QP t 1 1 (σ, 0) r ∧ ansQ (whlQ t r) = -1 - M.1 173 11 ∧ (whlQ t r).1 = M.1 173 10 := by
  subst hm hd
  obtain ⟨r, q1, l1, e1⟩ := p
  obtain ⟨h1, h2, h3⟩ := l1.bad hv1
  have e : whlQ t r = r := seqQ_n h1
  refine ⟨r, q1.to.2.2.1 rfl, ?_, ?_⟩
  · rw [e, h3]
    unfold ansQ
    rw [if_neg h1]
  · rw [e, h2]
theorem SenR.bad (p : OneR QO t 2 dd (σ, m) v1 M) (hd : dd = 1) (hm : m = 0) (hv1 : v1 ≠ 0) (h7 : M.1 173 7 ≠ 0) (e10 : M'.1 173 10 = 1) (e11 : M'.1 173 11 = M.1 173 6) : ∃ r : QR, QP t 1 1 (σ, 0) r ∧ ansQ (whlQ t r) = -1 - M'.1 173 11 ∧ (whlQ t r).1 = M'.1 173 10 := by
  subst hm hd
  obtain ⟨r, q1, l1, e1⟩ := p
  obtain ⟨b1, b2⟩ := l1.ok hv1
  have e : whlQ t r = noQ t 1 r.2.2 := (seqQ_0 b1).trans (if_neg (fun q => h7 (b2.kind.trans q)))
  refine ⟨r, q1.to.2.2.1 rfl, ?_, ?_⟩
  · rw [e, e11, b2.start]
    rfl
  · rw [e, e10]
    rfl
theorem SenR.ok (p : OneR QO t 2 dd (σ, m) v1 M) (hd : dd = 1) (hm : m = 0) (hv1 : v1 ≠ 0) (h7 : M.1 173 7 = 0) : ∃ r : QR, QP t 1 1 (σ, 0) r ∧ ansQ (whlQ t r) = M.1 173 50 ∧ (whlQ t r).1 = 0 ∧ M.1 173 10 = 0 := by
  subst hm hd
  obtain ⟨r, q1, l1, e1⟩ := p
  obtain ⟨b1, b2⟩ := l1.ok hv1
  have e : whlQ t r = okQ r.2.2 := (seqQ_0 b1).trans (if_pos (b2.kind.symm.trans h7))
  refine ⟨r, q1.to.2.2.1 rfl, ?_, ?_, b2.2.2.1⟩
  · rw [e, ← e1 b1]
    rfl
  · rw [e]
    rfl
theorem SenC.of {u : Nat → Int} {n v f a b : Int} (h : ∃ r : QR, QP (u, (n, 200)) 1 1 ((0, σ.2), 0) r ∧ ansQ (whlQ (u, (n, 200)) r) = a ∧ (whlQ (u, (n, 200)) r).1 = b) (hv : v = a) (hf : f = b) : SenC u n σ v f := by
  obtain ⟨r, h1, h2, h3⟩ := h
  exact ⟨r, h1, hv.trans h2.symm, hf.trans h3.symm⟩
theorem SenC.of0 {u : Nat → Int} {n v f a : Int} {c : Prop} (h : ∃ r : QR, QP (u, (n, 200)) 1 1 ((0, σ.2), 0) r ∧ ansQ (whlQ (u, (n, 200)) r) = a ∧ (whlQ (u, (n, 200)) r).1 = 0 ∧ c) (hv : v = a) (hf : c → f = 0) : SenC u n σ v f := by
  obtain ⟨r, h1, h2, h3, h4⟩ := h
  exact ⟨r, h1, hv.trans h2.symm, (hf h4).trans h3.symm⟩
theorem SenC.det {u : Nat → Int} {n v v' f f' : Int} (h : SenC u n σ v f) (h' : SenC u n σ v' f') : v = v' ∧ f = f' := by
  obtain ⟨r, h1, h2, h3⟩ := h
  obtain ⟨r', g1, g2, g3⟩ := h'
  have e := h1.det g1
  subst e
  exact ⟨h2.trans g2.symm, h3.trans g3.symm⟩
theorem CR.zero {u : Nat → Int} {n : Int} (hc : RTk M (u, (n, 200)) 0) (hf : M.1 173 10 = 0) (hn : 0 ≤ n ∧ n ≤ 940) (h : HN M0 175 0 180 0 σ) (hp : PIn σ) (h5 : ∀ j, M.1 175 j = M0.1 175 j) (h8 : ∀ k, M.2 180 k = M0.2 180 k) : CR M (u, (n, 200)) (0, σ.2) :=
  ⟨hc, HN.cp (σ := (0, σ.2)) h (fun j _ => h5 _) (fun k _ => h8 _), hf, Int.le_refl _, hn.1, ⟨hn.2, by show (0 : Int) ≤ 200; decide⟩, hp⟩
end ORS
