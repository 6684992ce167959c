/-! A BOOK's text: its LINES one by one. A state: the place and the names at hand, how many LINES. -/
def omQ (t : TXT) (s : SSt) : QR := if kK t s.1 = 2 ∧ keyS (kV t s.1) = 7 then namQ t 1 (goQ t s) else if kK t s.1 = 2 ∧ keyS (kV t s.1) = 8 then namQ t 2 (goQ t s) else if (kK t s.1 = 2 ∧ keyS (kV t s.1) = 9) ∨ (kK t s.1 = 2 ∧ keyS (kV t s.1) = 10) then seqQ (namQ t 0 (goQ t s)) (numQ t 1 99) else noQ t 1 s
def blnQ (t : TXT) (s : SSt) : QR := if kK t s.1 = 2 ∧ keyS (kV t s.1) = 11 then (if 40 ≤ s.2 then noQ t 4 s else okQ (goQ t s)) else if kK t s.1 = 2 ∧ keyS (kV t s.1) = 12 then (if 40 ≤ s.2 then noQ t 4 s else numQ t 1 60 (goQ t s)) else seqQ (namQ t 0 s) (fun s1 => if 40 ≤ s.2 then noQ t 4 s else omQ t s1)
def blkQ (t : TXT) (s : SSt) : QR := seqQ (blnQ t s) (sgnQ t 59)
def allB (t : TXT) : Nat → SSt → QR
  | 0, s => okQ s
  | Nat.succ k, s => if kK t s.1 = 0 then okQ s else if (blkQ t s).1 = 0 then allB t k ((blkQ t s).2.2.1, (blkQ t s).2.2.2 + 1) else blkQ t s
/-- the kind that fault() tells behind a book() of this tape -/
def bkS (u : Nat → Int) (n : Int) (σ : PSt) : Int := (allB (u, (n, 400)) 1000 ((0, σ.2), 0)).1
section BKS
variable {t : TXT} {s s0 : SSt} {σ : PSt} {M M0 M1 M' : JM} {v v1 n i k a : Int} {r : QR} {g : SSt → QR}
theorem omQ_7 (h : kyQ t s 7) : omQ t s = namQ t 1 (goQ t s) := if_pos h
theorem omQ_8 (h : kyQ t s 8) : omQ t s = namQ t 2 (goQ t s) :=
  (if_neg (fun q : kyQ t s 7 => absurd (ky_eq q h) (by decide))).trans (if_pos h)
theorem omQ_9 (h : kyQ t s 9 ∨ kyQ t s 10) : omQ t s = seqQ (namQ t 0 (goQ t s)) (numQ t 1 99) :=
  (if_neg (fun q : kyQ t s 7 => h.elim (fun e => absurd (ky_eq q e) (by decide)) (fun e => absurd (ky_eq q e) (by decide)))).trans ((if_neg (fun q : kyQ t s 8 => h.elim (fun e => absurd (ky_eq q e) (by decide)) (fun e => absurd (ky_eq q e) (by decide)))).trans (if_pos h))
theorem omQ_n (h7 : ¬ kyQ t s 7) (h8 : ¬ kyQ t s 8) (h9 : ¬ kyQ t s 9) (h10 : ¬ kyQ t s 10) : omQ t s = noQ t 1 s :=
  (if_neg h7).trans ((if_neg h8).trans (if_neg (fun e => e.elim h9 h10)))
theorem blnQ_11 (h : kyQ t s 11) : blnQ t s = if 40 ≤ s.2 then noQ t 4 s else okQ (goQ t s) := if_pos h
theorem blnQ_12 (h : kyQ t s 12) : blnQ t s = if 40 ≤ s.2 then noQ t 4 s else numQ t 1 60 (goQ t s) :=
  (if_neg (fun q : kyQ t s 11 => absurd (ky_eq q h) (by decide))).trans (if_pos h)
theorem blnQ_o (h11 : ¬ kyQ t s 11) (h12 : ¬ kyQ t s 12) : blnQ t s = seqQ (namQ t 0 s) (fun s1 => if 40 ≤ s.2 then noQ t 4 s else omQ t s1) :=
  (if_neg h11).trans (if_neg h12)
theorem omQ_c : (omQ t s).2.2.2 = s.2 := by
  unfold omQ
  split
  · exact namQ_n
  · split
    · exact namQ_n
    · split
      · unfold seqQ
        split
        · rw [numQ_n, namQ_n]
          rfl
        · exact namQ_n
      · rfl
theorem blnQ_c : (blnQ t s).2.2.2 = s.2 := by
  unfold blnQ
  split
  · split <;> rfl
  · split
    · split
      · rfl
      · exact numQ_n
    · unfold seqQ
      split
      · split
        · rfl
        · rw [omQ_c, namQ_n]
      · exact namQ_n
theorem blkQ_c : (blkQ t s).2.2.2 = s.2 := by
  unfold blkQ seqQ
  split
  · rw [sgnQ_n, blnQ_c]
  · exact blnQ_c
theorem allB_0 {k : Nat} (h : kK t s.1 = 0) : allB t (k + 1) s = okQ s := if_pos h
theorem allB_no {k : Nat} (h : kK t s.1 ≠ 0) (h1 : (blkQ t s).1 ≠ 0) : allB t (k + 1) s = blkQ t s := by
  show (if kK t s.1 = 0 then _ else if (blkQ t s).1 = 0 then _ else _) = _
  rw [if_neg h, if_neg h1]
theorem allB_go {k : Nat} (h : kK t s.1 ≠ 0) (h1 : (blkQ t s).1 = 0) : allB t (k + 1) s = allB t k ((blkQ t s).2.2.1, (blkQ t s).2.2.2 + 1) := by
  show (if kK t s.1 = 0 then _ else if (blkQ t s).1 = 0 then _ else _) = _
  rw [if_neg h, if_pos h1]
/-! The class. -/
theorem LT.sq (h : LT t r v1 M) (hv : v1 ≠ 0) (q : ∀ (σ : PSt) (n : Int), CQ M t σ → LT t (g (σ, n)) v M') : LT t (seqQ r g) v M' := by
  obtain ⟨b1, b2⟩ := h.ok hv
  rw [seqQ_0 b1]
  exact q r.2.2.1 r.2.2.2 b2
theorem LT.sz (h : LT t r v1 M) (hv : v1 = 0) (hv2 : v = 0) : LT t (seqQ r g) v M := by
  rw [seqQ_n (h.bad hv).1]
  exact h.vc (hv.trans hv2.symm)
def RBc (t : TXT) (s0 : SSt) (M : JM) (i : Int) : Prop := (M.1 1 12 = 0 ∧ i = M.1 133 1 ∧ ∃ σ : PSt, CQ M t σ ∧ allB t 1000 s0 = allB t (1000 - i).toNat (σ, i)) ∨ (M.1 1 12 ≠ 0 ∧ (allB t 1000 s0).1 = M.1 1 12)
theorem RBc.start (h : CQ M t σ) (hi : M.1 133 1 = 0) : RBc t (σ, 0) M 0 := Or.inl ⟨h.2.1, hi.symm, σ, h, rfl⟩
theorem RBc.no {i' : Int} (h : RBc t s0 M i) (h12 : M.1 1 12 = 0) (h6 : M.1 1 6 ≠ 0) (hi : 0 ≤ i ∧ i ≤ 41) (p : ∀ σ : PSt, CQ M t σ → LT t (blkQ t (σ, M.1 133 1)) 0 M') : RBc t s0 M' i' := by
  rcases h with ⟨_, h2, σ, h3, h4⟩ | ⟨h1, _⟩
  · have hk : kK t σ ≠ 0 := fun e => h6 (h3.kind.1.mpr e)
    obtain ⟨b1, b2, _⟩ := (p σ h3).bad rfl
    rw [← h2] at b1 b2
    refine Or.inr ⟨by omega, ?_⟩
    rw [h4, show (1000 - i).toNat = (999 - i).toNat + 1 by omega, allB_no hk b1, b2]
  · exact absurd h12 h1
theorem RBc.go {i' : Int} (h : RBc t s0 M i) (h12 : M.1 1 12 = 0) (h6 : M.1 1 6 ≠ 0) (hi : 0 ≤ i ∧ i ≤ 41) (p : ∀ σ : PSt, CQ M t σ → LT t (blkQ t (σ, M.1 133 1)) v1 M1) (hv1 : v1 ≠ 0) (q : ∀ σ : PSt, CQ M1 t σ → CQ M' t σ) (e1 : M'.1 133 1 = M.1 133 1 + 1) (e2 : i' = i + 1) : RBc t s0 M' i' := by
  subst e2
  rcases h with ⟨_, h2, σ, h3, h4⟩ | ⟨h1, _⟩
  · have hk : kK t σ ≠ 0 := fun e => h6 (h3.kind.1.mpr e)
    obtain ⟨b1, b2⟩ := (p σ h3).ok hv1
    rw [← h2] at b1 b2
    have b3 := q _ b2
    refine Or.inl ⟨b3.2.1, by omega, _, b3, ?_⟩
    rw [h4, show (1000 - i).toNat = (999 - i).toNat + 1 by omega, allB_go hk b1, show (1000 - (i + 1)).toNat = (999 - i).toNat by omega, blkQ_c]
  · exact absurd h12 h1
theorem RBc.fin (h : RBc t s0 M i) (hi : 0 ≤ i) (hb : M.1 133 1 ≤ 40) (hc : 40 < i ∨ M.1 1 12 ≠ 0 ∨ M.1 1 6 = 0) : M.1 1 12 = (allB t 1000 s0).1 := by
  rcases h with ⟨h1, h2, σ, h3, h4⟩ | ⟨_, h2⟩
  · have h6 : M.1 1 6 = 0 := by omega
    rw [h4, show (1000 - i).toNat = (999 - i).toNat + 1 by omega, allB_0 (h3.kind.1.mp h6), h1]
    rfl
  · exact h2.symm
theorem CQ.zero4 {u : Nat → Int} (hc : CTk M (u, (n, 400)) 0) (h12 : M.1 1 12 = 0) (hn : 0 ≤ n ∧ n ≤ 940) (h : HC M0 5 σ) (hp : PIn σ) (h6 : ∀ j, M.1 6 j = M0.1 6 j) (h7 : ∀ k, M.2 7 k = M0.2 7 k) : CQ M (u, (n, 400)) (0, σ.2) :=
  ⟨hc, h12, HC.cp (σ := (0, σ.2)) h (fun j _ => h6 j) (fun k _ => h7 k), Int.le_refl _, hn.1, ⟨hn.2, by show (0 : Int) ≤ 400; decide⟩, hp⟩
/-! The reference. -/
theorem LTr.sq (h : LTr t r v1 M) (hv : v1 ≠ 0) (q : ∀ (σ : PSt) (n : Int), CR M t σ → LTr t (g (σ, n)) v M') : LTr t (seqQ r g) v M' := by
  obtain ⟨b1, b2⟩ := h.ok hv
  rw [seqQ_0 b1]
  exact q r.2.2.1 r.2.2.2 b2
theorem LTr.sz (h : LTr t r v1 M) (hv : v1 = 0) (hv2 : v = 0) : LTr t (seqQ r g) v M := by
  rw [seqQ_n (h.bad hv).1]
  exact h.vc (hv.trans hv2.symm)
theorem namQ_hit (h : CR M0 t σ) (h1 : M0.1 173 7 = 2 ∧ keyS (M0.2 173 12).toInt = -1) {z : Int} (hz : fndS σ (kV t σ) = 6 * a + z ∧ 0 ≤ z ∧ z ≤ 5) (ha : 0 ≤ a) : namQ t a (σ, n) = okQ (goQ t (σ, n)) := by
  unfold namQ
  have c1 : isNm t (σ, n).1 = true := h.isn.mpr h1
  rw [if_pos c1, if_pos ⟨show 0 ≤ fndS σ (kV t σ) by omega, show fndS σ (kV t σ) / 6 = a by omega⟩]
def NWf (M : JM) (a w : Int) : Prop := ∀ k : Int, a ≤ k → k < w → ¬ WD M k
theorem NWf.start {w : Int} (h : w ≤ a) : NWf M a w := fun k h1 h2 => by omega
theorem NWf.st {w w' : Int} (h : NWf M a w) (hw : ¬ WD M w) (e : w' = w + 1) : NWf M a w' := fun k h1 h2 => by
  by_cases c : k = w
  · rw [c]
    exact hw
  · exact h k h1 (by omega)
def W7 (M : JM) (w : Int) : Prop := (w = 11 ∧ NWf M 7 11) ∨ ((7 ≤ w ∧ w ≤ 10) ∧ WD M w)
theorem W7.no {w : Int} (h : NWf M 7 w) (e : w = 11) : W7 M w := Or.inl ⟨e, e ▸ h⟩
theorem W7.yes {w : Int} (h : WD M w) (e : 7 ≤ w ∧ w ≤ 10) : W7 M w := Or.inr ⟨e, h⟩
theorem W7.wd {w : Int} (h : W7 M w) (e : w ≤ 10) : (7 ≤ w ∧ w ≤ 10) ∧ WD M w := by
  rcases h with ⟨h1, h2⟩ | h
  · omega
  · exact h
theorem omr_no {w : Int} (h : CR M0 t σ) (hw : W7 M0 w) (e : 10 < w) (hv : v = 0) (e10 : M'.1 173 10 = 1) (e11 : M'.1 173 11 = M0.1 173 6) : LTr t (omQ t (σ, n)) v M' := by
  rcases hw with ⟨_, h2⟩ | ⟨h1, _⟩
  · exact LTr.no (k := 1) (n := n) (omQ_n (h.noky (h2 7 (by decide) (by decide)) (by decide)) (h.noky (h2 8 (by decide) (by decide)) (by decide)) (h.noky (h2 9 (by decide) (by decide)) (by decide)) (h.noky (h2 10 (by decide) (by decide)) (by decide))) (by decide) h hv e10 e11
  · omega
theorem omr_7 {w : Int} (h : CR M0 t σ) (hw : WD M0 w) (e : w = 7) : omQ t (σ, n) = namQ t 1 (goS t σ, n) := by
  subst e
  exact omQ_7 (h.ky hw (by decide))
theorem omr_8 {w : Int} (h : CR M0 t σ) (hw : WD M0 w) (e : w = 8) : omQ t (σ, n) = namQ t 2 (goS t σ, n) := by
  subst e
  exact omQ_8 (h.ky hw (by decide))
theorem omr_9 {w : Int} (h : CR M0 t σ) (hw : WD M0 w) (e : w = 9 ∨ w = 10) : omQ t (σ, n) = seqQ (namQ t 0 (goS t σ, n)) (numQ t 1 99) := by
  rcases e with e | e
  · subst e
    exact omQ_9 (Or.inl (h.ky hw (by decide)))
  · subst e
    exact omQ_9 (Or.inr (h.ky hw (by decide)))
def RBr (t : TXT) (s0 : SSt) (M : JM) : Prop := 0 ≤ M.1 173 46 ∧ M.1 173 46 ≤ 40 ∧ ∃ σ : PSt, CR M t σ ∧ allB t 1000 s0 = allB t (1000 - M.1 173 46).toNat (σ, M.1 173 46)
theorem RBr.start (h : CR M t σ) (hi : M.1 173 46 = 0) : RBr t (σ, 0) M := by
  refine ⟨by omega, by omega, σ, h, ?_⟩
  rw [hi]
  rfl
theorem RBr.no (h : RBr t s0 M) (h7 : M.1 173 7 ≠ 0) (p : ∀ σ : PSt, CR M t σ → LTr t (blkQ t (σ, M.1 173 46)) v1 M') (hv1 : v1 = 0) : M'.1 173 10 = (allB t 1000 s0).1 := by
  obtain ⟨h0, h1, σ, h3, h4⟩ := h
  have hk : kK t σ ≠ 0 := fun e => h7 (h3.kind.trans e)
  obtain ⟨b1, b2, _⟩ := (p σ h3).bad hv1
  rw [h4, show (1000 - M.1 173 46).toNat = (999 - M.1 173 46).toNat + 1 by omega, allB_no hk b1, b2]
theorem RBr.go (h : RBr t s0 M) (h7 : M.1 173 7 ≠ 0) (p : ∀ σ : PSt, CR M t σ → LTr t (blkQ t (σ, M.1 173 46)) v1 M1) (hv1 : v1 ≠ 0) (q : ∀ σ : PSt, CR M1 t σ → CR M' t σ) (e1 : M'.1 173 46 = M.1 173 46 + 1) (e2 : M'.1 173 46 ≤ 40) : RBr t s0 M' := by
  obtain ⟨h0, h1, σ, h3, h4⟩ := h
  have hk : kK t σ ≠ 0 := fun e => h7 (h3.kind.trans e)
  obtain ⟨b1, b2⟩ := (p σ h3).ok hv1
  refine ⟨by omega, e2, _, q _ b2, ?_⟩
  rw [h4, show (1000 - M.1 173 46).toNat = (999 - M.1 173 46).toNat + 1 by omega, allB_go hk b1, e1, show (1000 - (M.1 173 46 + 1)).toNat = (999 - M.1 173 46).toNat by omega, blkQ_c]
theorem RBr.fin (h : RBr t s0 M) (h7 : M.1 173 7 = 0) : M.1 173 10 = (allB t 1000 s0).1 := by
  obtain ⟨h0, h1, σ, h3, h4⟩ := h
  rw [h4, show (1000 - M.1 173 46).toNat = (999 - M.1 173 46).toNat + 1 by omega, allB_0 (h3.kind.symm.trans h7), h3.2.2.1]
  rfl
theorem rtx_cg {Mp : JM} (h : RTk M (uR Mp, (Mp.1 173 2, a)) 0) (u : ∀ j, Mp.1 174 j = M0.1 174 j) (e : Mp.1 173 2 = M0.1 173 2) : RTk M (uR M0, (M0.1 173 2, a)) 0 := by
  rw [← uR_cg u, ← e]
  exact h
theorem CR.zero4 {u : Nat → Int} (hc : RTk M (u, (n, 400)) 0) (hf : M.1 173 10 = 0) (hn : 0 ≤ n ∧ n ≤ 940) (h : HN M0 175 0 180 0 σ) (hp : PIn σ) (h5 : ∀ j, M.1 175 j = M0.1 175 j) (h8 : ∀ k, M.2 180 k = M0.2 180 k) : CR M (u, (n, 400)) (0, σ.2) :=
  ⟨hc, HN.cp (σ := (0, σ.2)) h (fun j _ => h5 _) (fun k _ => h8 _), hf, Int.le_refl _, hn.1, ⟨hn.2, by show (0 : Int) ≤ 400; decide⟩, hp⟩
end BKS
