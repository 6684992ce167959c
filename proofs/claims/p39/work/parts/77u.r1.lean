/-! The reference's reading of a SENTENCE: its tokens, and the names at hand. -/
def CR (M : JM) (t : TXT) (σ : PSt) : Prop := RTk M t σ.1 ∧ HN M 175 0 180 0 σ ∧ PI t σ
def LTr (t : TXT) (r : QR) (v : Int) (M : JM) : Prop := (r.1 = 0 ∧ v = 1 ∧ CR M t r.2.2.1) ∨ (r.1 ≠ 0 ∧ v = 0 ∧ M.1 173 10 = r.1 ∧ M.1 173 11 = r.2.1)
section CRS
variable {M M0 M1 M' : JM} {t : TXT} {σ : PSt} {v n k : Int} {r r' : QR}
theorem LTr.ok (h : LTr t r v M) (hv : v ≠ 0) : r.1 = 0 ∧ CR M t r.2.2.1 := by
  rcases h with ⟨h1, h2, h3⟩ | ⟨h1, h2, h3⟩
  · exact ⟨h1, h3⟩
  · exact absurd h2 hv
theorem LTr.bad (h : LTr t r v M) (hv : v = 0) : r.1 ≠ 0 ∧ M.1 173 10 = r.1 ∧ M.1 173 11 = r.2.1 := by
  rcases h with ⟨h1, h2, h3⟩ | ⟨h1, h2, h3⟩
  · omega
  · exact ⟨h1, h3⟩
theorem LTr.eq (e : r = r') (h : LTr t r' v M) : LTr t r v M := e ▸ h
theorem LTr.vc {v' : Int} (h : LTr t r v M) (e : v = v') : LTr t r v' M := e ▸ h
theorem LTr.o (h : CR M t r.2.2.1) (hr : r.1 = 0) (hv : v = 1) : LTr t r v M := Or.inl ⟨hr, hv, h⟩
theorem LTr.pl {v' : Int} (h : LTr t r v M) (hv : v = 0) (hv' : v' = 0) (e10 : M'.1 173 10 = M.1 173 10) (e11 : M'.1 173 11 = M.1 173 11) : LTr t r v' M' := by
  obtain ⟨h1, h2, h3⟩ := h.bad hv
  exact Or.inr ⟨h1, hv', e10.trans h2, e11.trans h3⟩
theorem CR.kind (h : CR M0 t σ) : M0.1 173 7 = kK t σ := h.1.2.2.2.1
theorem CR.start (h : CR M0 t σ) : M0.1 173 6 = kF t σ := h.1.2.2.2.2.1
theorem CR.word (h : CR M0 t σ) (hk : kK t σ = 2) : (M0.2 173 12).toInt = kV t σ := h.1.2.2.2.2.2.2.1 hk
theorem CR.num (h : CR M0 t σ) (hk : kK t σ = 3) : M0.1 173 8 = kV t σ := h.1.2.2.2.2.2.2.2.1 hk
theorem CR.sgn (h : CR M0 t σ) (hk : kK t σ = 4) : M0.1 173 9 = kV t σ := h.1.2.2.2.2.2.2.2.2 hk
theorem CR.br (h : CR M0 t σ) (h1 : M0.1 173 7 = 4 ∧ M0.1 173 9 = 40) : brQ t (σ, n) := by
  have hk := h.kind.symm.trans h1.1
  exact ⟨hk, (h.sgn hk).symm.trans h1.2⟩
theorem CR.nobr (h : CR M0 t σ) (h1 : M0.1 173 7 ≠ 4 ∨ M0.1 173 9 ≠ 40) : ¬ brQ t (σ, n) := fun e => by
  have e1 : kK t σ = 4 := e.1
  have e2 : kV t σ = 40 := e.2
  have h2 := h.kind
  have h3 := h.sgn e1
  omega
theorem CR.ky (h : CR M0 t σ) (hw : WD M0 k) (hk : 0 ≤ k ∧ k < 24) : kyQ t (σ, n) k := by
  have h2 : kK t σ = 2 := h.kind.symm.trans hw.1
  exact ⟨h2, keyS_ge hk (by rw [← h.word h2]; exact hw.2.symm)⟩
theorem CR.noky (h : CR M0 t σ) (hw : ¬ WD M0 k) (hk : 0 ≤ k) : ¬ kyQ t (σ, n) k := fun e => hw ⟨h.kind.trans e.1, by rw [h.word e.1]; exact (keyS_eq hk e.2).symm⟩
/-- go() over the token at hand -/
theorem CR.next (h : CR M t σ) (hk : 2 ≤ kK t σ) (hn : RTk M' (txR M) (M.1 173 5)) (h5 : ∀ j, M'.1 175 j = M.1 175 j) (h8 : ∀ k, M'.2 180 k = M.2 180 k) : CR M' t (goS t σ) := by
  obtain ⟨c, d, p⟩ := h
  have hb := tE_le (u := t.1) (n := t.2.1) (m := t.2.2) p.1 hk
  have e5 : M.1 173 5 = tE t.1 t.2.1 σ.1 := c.2.2.2.2.2.1 hk
  rw [c.tx, e5] at hn
  exact ⟨hn, HN.cp (σ := goS t σ) d (fun j _ => h5 _) (fun k _ => h8 _), by show 0 ≤ tE t.1 t.2.1 σ.1; have := p.1; omega, hb.2, p.2.2⟩
theorem CR.cg (h : CR M t σ) (u : ∀ j, M'.1 174 j = M.1 174 j) (g : ∀ j, 3 ≤ j ∧ j ≤ 9 → M'.1 173 j = M.1 173 j) (q : M'.2 173 12 = M.2 173 12) (h5 : ∀ j, M'.1 175 j = M.1 175 j) (h8 : ∀ k, M'.2 180 k = M.2 180 k) : CR M' t σ := ⟨RTk.cg h.1 u g q, HN.cp h.2.1 (fun j _ => h5 _) (fun k _ => h8 _), h.2.2⟩
theorem LTr.no (hr : r = noQ t k (σ, n)) (hk : k ≠ 0) (h : CR M0 t σ) (hv : v = 0) (e10 : M'.1 173 10 = k) (e11 : M'.1 173 11 = M0.1 173 6) : LTr t r v M' := by
  subst hr
  exact Or.inr ⟨hk, hv, e10, e11.trans h.start⟩
theorem LTr.go (hr : r = okQ (goQ t (σ, n))) (h : CR M0 t σ) (hk : 2 ≤ kK t σ) (hv : v = 1) (hn : RTk M' (txR M0) (M0.1 173 5)) (h5 : ∀ j, M'.1 175 j = M0.1 175 j) (h8 : ∀ k, M'.2 180 k = M0.2 180 k) : LTr t r v M' := by
  subst hr
  exact Or.inl ⟨rfl, hv, h.next hk hn h5 h8⟩
theorem rsgn_no {a : Int} (h : CR M0 t σ) (hn : M0.1 173 7 ≠ 4 ∨ M0.1 173 9 ≠ a) (hv : v = 0) (e10 : M'.1 173 10 = 1) (e11 : M'.1 173 11 = M0.1 173 6) : LTr t (sgnQ t a (σ, n)) v M' := by
  refine LTr.no (k := 1) (n := n) ?_ (by decide) h hv e10 e11
  unfold sgnQ
  refine if_neg (fun q => ?_)
  have q1 : kK t σ = 4 := q.1
  have q2 : kV t σ = a := q.2
  have h1 := h.kind
  have h2 := h.sgn q1
  omega
theorem rsgn_go {a : Int} (h : CR M0 t σ) (h7 : M0.1 173 7 = 4) (h9 : M0.1 173 9 = a) (hv : v = 1) (hn : RTk M' (txR M0) (M0.1 173 5)) (h5 : ∀ j, M'.1 175 j = M0.1 175 j) (h8 : ∀ k, M'.2 180 k = M0.2 180 k) : LTr t (sgnQ t a (σ, n)) v M' := by
  have hk := h.kind.symm.trans h7
  refine LTr.go (n := n) ?_ h (by omega) hv hn h5 h8
  unfold sgnQ
  exact if_pos ⟨hk, (h.sgn hk).symm.trans h9⟩
theorem rnq_no1 {a b : Int} (h : CR M0 t σ) (hn : M0.1 173 7 ≠ 3) (hv : v = 0) (e10 : M'.1 173 10 = 1) (e11 : M'.1 173 11 = M0.1 173 6) : LTr t (numQ t a b (σ, n)) v M' := by
  refine LTr.no (k := 1) (n := n) ?_ (by decide) h hv e10 e11
  unfold numQ
  exact if_neg (fun q => hn (h.kind.trans q))
theorem rnq_no2 {a b : Int} (h : CR M0 t σ) (h7 : M0.1 173 7 = 3) (hn : M0.1 173 8 < a ∨ b < M0.1 173 8) (hv : v = 0) (e10 : M'.1 173 10 = 2) (e11 : M'.1 173 11 = M0.1 173 6) : LTr t (numQ t a b (σ, n)) v M' := by
  have hk := h.kind.symm.trans h7
  have h2 := h.num hk
  refine LTr.no (k := 2) (n := n) ?_ (by decide) h hv e10 e11
  unfold numQ
  have c1 : kK t (σ, n).1 = 3 := hk
  rw [if_pos c1, if_neg (fun q => by have q1 : a ≤ kV t σ := q.1; have q2 : kV t σ ≤ b := q.2; omega)]
theorem rnq_go {a b : Int} (h : CR M0 t σ) (h7 : M0.1 173 7 = 3) (h9 : a ≤ M0.1 173 8 ∧ M0.1 173 8 ≤ b) (h1 : CR M1 t σ) (hv : v = 1) (hn : RTk M' (txR M1) (M1.1 173 5)) (h5 : ∀ j, M'.1 175 j = M1.1 175 j) (h8 : ∀ k, M'.2 180 k = M1.2 180 k) : LTr t (numQ t a b (σ, n)) v M' := by
  have hk := h.kind.symm.trans h7
  have h2 := h.num hk
  refine LTr.go (n := n) ?_ h1 (by omega) hv hn h5 h8
  unfold numQ
  have c1 : kK t (σ, n).1 = 3 := hk
  rw [if_pos c1, if_pos ⟨show a ≤ kV t σ by omega, show kV t σ ≤ b by omega⟩]
theorem rcmp_no (h : CR M0 t σ) (hn : M0.1 173 7 ≠ 4 ∨ (M0.1 173 9 ≠ 60 ∧ M0.1 173 9 ≠ 61 ∧ M0.1 173 9 ≠ 62)) : (cmpQ t (σ, n)).1 ≠ 0 ∧ cmpQ t (σ, n) = noQ t 1 (σ, n) := by
  have e : cmpQ t (σ, n) = noQ t 1 (σ, n) := by
    unfold cmpQ
    refine if_neg (fun q => ?_)
    have q1 : kK t σ = 4 := q.1
    have q2 : kV t σ = 60 ∨ kV t σ = 61 ∨ kV t σ = 62 := q.2
    have h1 := h.kind
    have h2 := h.sgn q1
    omega
  rw [e]
  exact ⟨show (1 : Int) ≠ 0 by decide, rfl⟩
theorem rcmp_k (h : CR M0 t σ) (h1 : M0.1 173 7 = 4) : 2 ≤ kK t σ := by
  have := h.kind
  omega
theorem rcmp_ok (h : CR M0 t σ) (h1 : M0.1 173 7 = 4 ∧ (M0.1 173 9 = 60 ∨ M0.1 173 9 = 61 ∨ M0.1 173 9 = 62)) : seqQ (cmpQ t (σ, n)) (numQ t 0 999) = numQ t 0 999 (goS t σ, n) := by
  have hk := h.kind.symm.trans h1.1
  have hv := h.sgn hk
  have e : cmpQ t (σ, n) = okQ (goQ t (σ, n)) := by
    unfold cmpQ
    exact if_pos ⟨hk, show kV t σ = 60 ∨ kV t σ = 61 ∨ kV t σ = 62 by omega⟩
  rw [e]
  rfl
end CRS
/-- what a method says: of a ONE or a row by the class's rules (QP), of rows by the reference's (QO) -/
def OneR (P : TXT → Nat → Int → SSt → QR → Prop) (t : TXT) (q : Nat) (d : Int) (s : SSt) (v : Int) (M : JM) : Prop := ∃ r : QR, P t q d s r ∧ LTr t r v M ∧ (r.1 = 0 → r.2.2.2 = M.1 173 50)
/-- the loops over ands (q = 1 into 0) and ors (q = 3 into 2) -/
def RowR (t : TXT) (q q0 : Nat) (d : Int) (s0 : SSt) (M : JM) : Prop := ∃ s : SSt, CR M t s.1 ∧ s.2 = M.1 173 50 ∧ ∀ r : QR, QO t q d s r → QO t q0 d s0 r
