/-! A ONE, a row of them. -/
section ONS
variable {M M0 M1 M' : JM} {t : TXT} {σ : PSt} {v n k d : Int} {s : SSt} {r : QR}
theorem CQ.any (h : CQ M0 t σ) (hk : 15 ≤ M0.1 1 7) : anyQ t (σ, n) := by
  have h1 := h.key
  by_cases c : kK t σ = 2
  · rw [if_pos c] at h1
    exact ⟨c, show 15 ≤ keyS (kV t σ) by omega⟩
  · rw [if_neg c] at h1
    omega
theorem brQ.k2 (h : brQ t (σ, n)) : 2 ≤ kK t σ := by
  have : kK t σ = 4 := h.1
  omega
theorem anyQ.k2 (h : anyQ t (σ, n)) : 2 ≤ kK t σ := by
  have : kK t σ = 2 := h.1
  omega
theorem kyQ.k2 (h : kyQ t s k) : 2 ≤ kK t s.1 := by
  have : kK t s.1 = 2 := h.1
  omega
theorem sgnQ_n {c : Int} : (sgnQ t c s).2.2.2 = s.2 := by
  unfold sgnQ
  split <;> rfl
theorem numQ_n {a b : Int} : (numQ t a b s).2.2.2 = s.2 := by
  unfold numQ
  split
  · split <;> rfl
  · rfl
theorem cmpQ_n : (cmpQ t s).2.2.2 = s.2 := by
  unfold cmpQ
  split <;> rfl
theorem namQ_n : (namQ t k s).2.2.2 = s.2 := by
  unfold namQ
  split
  · split <;> rfl
  · rfl
theorem plnQ_n : (plnQ t k s).2.2.2 = s.2 := by
  unfold plnQ
  split
  · rfl
  · split
    · exact namQ_n
    · split
      · exact namQ_n
      · split
        · exact namQ_n
        · unfold seqQ
          split
          · rw [numQ_n, cmpQ_n]
          · exact cmpQ_n
/-- what a method says of a ONE (q = 0) or a row (q = 1) -/
def OneC (t : TXT) (q : Nat) (d : Int) (s : SSt) (v : Int) (M : JM) : Prop := ∃ r : QR, QP t q d s r ∧ LT t r v M ∧ (r.1 = 0 → r.2.2.2 = M.1 42 3)
theorem OneC.no1 (h : CQ M0 t σ) (h1 : M0.1 1 6 ≠ 3 ∨ M0.1 1 9 ≠ 40) (h2 : M0.1 1 7 < 15) (hv : v = 0) (e12 : M'.1 1 12 = 1) (e13 : M'.1 1 13 = M0.1 1 5) : OneC t 0 d (σ, n) v M' :=
  ⟨_, QP.one_no (h.nobr h1) (h.noany h2), LT.no (k := 1) (n := n) rfl (by decide) h hv e12 e13, fun e => absurd e (show (1 : Int) ≠ 0 by decide)⟩
theorem OneC.no4 (h : CQ M0 t σ) (h1 : (M0.1 1 6 = 3 ∧ M0.1 1 9 = 40) ∨ 15 ≤ M0.1 1 7) (h2 : 20 ≤ n ∨ 8 < d) (hv : v = 0) (e12 : M'.1 1 12 = 4) (e13 : M'.1 1 13 = M0.1 1 5) : OneC t 0 d (σ, n) v M' :=
  ⟨_, QP.one_many (h1.imp (fun e => h.br e) (fun e => h.any e)) h2, LT.no (k := 4) (n := n) rfl (by decide) h hv e12 e13, fun e => absurd e (show (4 : Int) ≠ 0 by decide)⟩
theorem OneC.brn {m v1 : Int} (h : CQ M0 t σ) (h1 : M0.1 1 6 = 3 ∧ M0.1 1 9 = 40) (h2 : n < 20 ∧ d ≤ 8) (p : OneC t 1 (d + 1) (goS t σ, m) v1 M) (hm : m = n + 1) (hv1 : v1 = 0) (hv : v = 0) : OneC t 0 d (σ, n) v M := by
  subst hm
  obtain ⟨r, q1, l1, e1⟩ := p
  have hb := l1.bad hv1
  refine ⟨_, QP.one_br (s := (σ, n)) (h.br h1) h2 q1, LT.eq (seqQ_n hb.1) (l1.vc (hv1.trans hv.symm)), fun e => ?_⟩
  rw [seqQ_n hb.1] at e
  exact absurd e hb.1
theorem OneC.bry {m v1 v2 : Int} (h : CQ M0 t σ) (h1 : M0.1 1 6 = 3 ∧ M0.1 1 9 = 40) (h2 : n < 20 ∧ d ≤ 8) (p : OneC t 1 (d + 1) (goS t σ, m) v1 M) (hm : m = n + 1) (hv1 : v1 ≠ 0) (k : ∀ (σ : PSt) (n : Int), CQ M t σ → LT t (sgnQ t 41 (σ, n)) v2 M') (hv : v2 = v) (e3 : M'.1 42 3 = M.1 42 3) : OneC t 0 d (σ, n) v M' := by
  subst hm hv
  obtain ⟨r, q1, l1, e1⟩ := p
  obtain ⟨b1, b2⟩ := l1.ok hv1
  refine ⟨_, QP.one_br (s := (σ, n)) (h.br h1) h2 q1, LT.eq (seqQ_0 b1) (k r.2.2.1 r.2.2.2 b2), fun e => ?_⟩
  rw [seqQ_0 b1, sgnQ_n, e3]
  exact e1 b1
theorem OneC.nn {m v1 : Int} (h : CQ M0 t σ) (h1 : M0.1 1 7 = 15) (h2 : n < 20 ∧ d ≤ 8) (p : OneC t 0 (d + 1) (goS t σ, m) v1 M) (hm : m = n + 1) (hv1 : v1 = 0) (hv : v = 0) : OneC t 0 d (σ, n) v M := by
  subst hm
  obtain ⟨r, q1, l1, e1⟩ := p
  exact ⟨r, QP.one_not (s := (σ, n)) (h.keyd h1 (by decide)) h2 q1, l1.vc (hv1.trans hv.symm), e1⟩
theorem OneC.ny {m v1 : Int} (h : CQ M0 t σ) (h1 : M0.1 1 7 = 15) (h2 : n < 20 ∧ d ≤ 8) (p : OneC t 0 (d + 1) (goS t σ, m) v1 M) (hm : m = n + 1) (hv1 : v1 ≠ 0) (k : ∀ σ : PSt, CQ M t σ → CQ M' t σ) (hv : v = 1) (e3 : M'.1 42 3 = M.1 42 3) : OneC t 0 d (σ, n) v M' := by
  subst hm
  obtain ⟨r, q1, l1, e1⟩ := p
  obtain ⟨b1, b2⟩ := l1.ok hv1
  exact ⟨r, QP.one_not (s := (σ, n)) (h.keyd h1 (by decide)) h2 q1, LT.o (k _ b2) b1 hv, fun _ => by rw [e3]; exact e1 b1⟩
theorem OneC.pl {m a v1 : Int} (h : CQ M0 t σ) (h1 : M0.1 1 7 = a) (h16 : 16 ≤ a) (h2 : n < 20 ∧ d ≤ 8) (p : LT t (plnQ t a (goS t σ, n + 1)) v1 M) (hv : v1 = v) (e3 : M.1 42 3 = n + 1) : OneC t 0 d (σ, n) v M := by
  subst hv
  exact ⟨_, QP.one_pl (s := (σ, n)) (h.keyd h1 (by omega)) h2 h16, p, fun _ => by rw [plnQ_n, e3]; rfl⟩
/-- the loop over a row -/
def RowI (t : TXT) (d : Int) (s0 : SSt) (M : JM) : Prop := ∃ s : SSt, CQ M t s.1 ∧ s.2 = M.1 42 3 ∧ ∀ r : QR, QP t 2 d s r → QP t 1 d s0 r
theorem RowI.no {s0 : SSt} {v1 : Int} (p : OneC t 0 d s0 v1 M) (hv1 : v1 = 0) (hv : v = 0) : OneC t 1 d s0 v M := by
  obtain ⟨r, q1, l1, e1⟩ := p
  exact ⟨r, QP.row_no q1 (l1.bad hv1).1, l1.vc (hv1.trans hv.symm), e1⟩
theorem RowI.start {s0 : SSt} {v1 : Int} (p : OneC t 0 d s0 v1 M) (hv1 : v1 ≠ 0) : RowI t d s0 M := by
  obtain ⟨r, q1, l1, e1⟩ := p
  obtain ⟨b1, b2⟩ := l1.ok hv1
  exact ⟨r.2.2, b2, e1 b1, fun r2 h2 => QP.row_ok q1 b1 h2⟩
theorem RowI.op {s : SSt} (h : CQ M t s.1) (hk : M.1 1 7 = 13 ∨ M.1 1 7 = 14) : kyQ t s 13 ∨ kyQ t s 14 := by
  rcases hk with e | e
  · exact Or.inl (h.keyd (n := s.2) e (by decide))
  · exact Or.inr (h.keyd (n := s.2) e (by decide))
theorem RowI.bad {s0 : SSt} {v1 : Int} (h : RowI t d s0 M) (hk : M.1 1 7 = 13 ∨ M.1 1 7 = 14) (k : ∀ σ : PSt, CQ M t σ → 2 ≤ kK t σ → CQ M1 t (goS t σ)) (e3 : M1.1 42 3 = M.1 42 3) (p : ∀ σ : PSt, CQ M1 t σ → OneC t 0 d (σ, M1.1 42 3) v1 M') (hv1 : v1 = 0) (hv : v = 0) : OneC t 1 d s0 v M' := by
  obtain ⟨s, c1, c2, c3⟩ := h
  have ho := RowI.op c1 hk
  have hk2 : 2 ≤ kK t s.1 := ho.elim (fun e => e.k2) (fun e => e.k2)
  obtain ⟨r, q1, l1, e1⟩ := p _ (k s.1 c1 hk2)
  rw [e3, ← c2] at q1
  exact ⟨r, c3 _ (QP.more_no ho q1 (l1.bad hv1).1), l1.vc (hv1.trans hv.symm), e1⟩
theorem RowI.go {s0 : SSt} {v1 : Int} (h : RowI t d s0 M) (hk : M.1 1 7 = 13 ∨ M.1 1 7 = 14) (k : ∀ σ : PSt, CQ M t σ → 2 ≤ kK t σ → CQ M1 t (goS t σ)) (e3 : M1.1 42 3 = M.1 42 3) {M2 : JM} (p : ∀ σ : PSt, CQ M1 t σ → OneC t 0 d (σ, M1.1 42 3) v1 M2) (hv1 : v1 ≠ 0) (k2 : ∀ σ : PSt, CQ M2 t σ → CQ M' t σ) (e4 : M'.1 42 3 = M2.1 42 3) : RowI t d s0 M' := by
  obtain ⟨s, c1, c2, c3⟩ := h
  have ho := RowI.op c1 hk
  have hk2 : 2 ≤ kK t s.1 := ho.elim (fun e => e.k2) (fun e => e.k2)
  obtain ⟨r, q1, l1, e1⟩ := p _ (k s.1 c1 hk2)
  rw [e3, ← c2] at q1
  obtain ⟨b1, b2⟩ := l1.ok hv1
  exact ⟨r.2.2, k2 _ b2, by rw [e4]; exact e1 b1, fun r2 h2 => c3 _ (QP.more_go ho q1 b1 h2)⟩
theorem RowI.fin {s0 : SSt} (h : RowI t d s0 M) (h13 : M.1 1 7 ≠ 13) (h14 : M.1 1 7 ≠ 14) (k : ∀ σ : PSt, CQ M t σ → CQ M' t σ) (e3 : M'.1 42 3 = M.1 42 3) (hv : v = 1) : OneC t 1 d s0 v M' := by
  obtain ⟨s, c1, c2, c3⟩ := h
  exact ⟨okQ s, c3 _ (QP.more_end (c1.nokey (n := s.2) h13) (c1.nokey (n := s.2) h14)), LT.o (k _ c1) rfl hv, fun _ => by rw [e3]; exact c2⟩
end ONS
