/-! What a SENTENCE's text says: ONE { (and | or) ONE }, told as the least relation that keeps some rules (0 one, 1 a row of them, 2 what may follow). A state: the place and the names, how many ones. An answer: the kind of a fault (0 none), its place, the state. -/
abbrev SSt : Type := PSt × Int
abbrev QR : Type := Int × (Int × SSt)
def okQ (s : SSt) : QR := (0, (0, s))
def noQ (t : TXT) (k : Int) (s : SSt) : QR := (k, (kF t s.1, s))
def goQ (t : TXT) (s : SSt) : SSt := (goS t s.1, s.2)
def incQ (t : TXT) (s : SSt) : SSt := (goS t s.1, s.2 + 1)
def seqQ (r : QR) (g : SSt → QR) : QR := if r.1 = 0 then g r.2.2 else r
theorem seqQ_0 {r : QR} {g : SSt → QR} (h : r.1 = 0) : seqQ r g = g r.2.2 := if_pos h
theorem seqQ_n {r : QR} {g : SSt → QR} (h : r.1 ≠ 0) : seqQ r g = r := if_neg h
def brQ (t : TXT) (s : SSt) : Prop := kK t s.1 = 4 ∧ kV t s.1 = 40
def kyQ (t : TXT) (s : SSt) (k : Int) : Prop := kK t s.1 = 2 ∧ keyS (kV t s.1) = k
def anyQ (t : TXT) (s : SSt) : Prop := kK t s.1 = 2 ∧ 15 ≤ keyS (kV t s.1)
def sgnQ (t : TXT) (c : Int) (s : SSt) : QR := if kK t s.1 = 4 ∧ kV t s.1 = c then okQ (goQ t s) else noQ t 1 s
def cmpQ (t : TXT) (s : SSt) : QR := if kK t s.1 = 4 ∧ (kV t s.1 = 60 ∨ kV t s.1 = 61 ∨ kV t s.1 = 62) then okQ (goQ t s) else noQ t 1 s
def numQ (t : TXT) (a b : Int) (s : SSt) : QR := if kK t s.1 = 3 then (if a ≤ kV t s.1 ∧ kV t s.1 ≤ b then okQ (goQ t s) else noQ t 2 s) else noQ t 1 s
def namQ (t : TXT) (k : Int) (s : SSt) : QR := if isNm t s.1 = true then (if 0 ≤ fndS s.1 (kV t s.1) ∧ fndS s.1 (kV t s.1) / 6 = k then okQ (goQ t s) else noQ t 3 s) else noQ t 1 s
def plnQ (t : TXT) (k : Int) (s : SSt) : QR := if k = 16 then okQ s else if k = 17 then namQ t 0 s else if k = 18 then namQ t 2 s else if k = 19 then namQ t 1 s else seqQ (cmpQ t s) (numQ t 0 999)
def QPc (t : TXT) (R : Nat → Int → SSt → QR → Prop) : Prop :=
  (∀ (d : Int) (s : SSt), ¬ brQ t s → ¬ anyQ t s → R 0 d s (noQ t 1 s)) ∧
  (∀ (d : Int) (s : SSt), brQ t s ∨ anyQ t s → 20 ≤ s.2 ∨ 8 < d → R 0 d s (noQ t 4 s)) ∧
  (∀ (d : Int) (s : SSt) (r : QR), brQ t s → s.2 < 20 ∧ d ≤ 8 → R 1 (d + 1) (incQ t s) r → R 0 d s (seqQ r (sgnQ t 41))) ∧
  (∀ (d : Int) (s : SSt) (r : QR), kyQ t s 15 → s.2 < 20 ∧ d ≤ 8 → R 0 (d + 1) (incQ t s) r → R 0 d s r) ∧
  (∀ (d k : Int) (s : SSt), kyQ t s k → s.2 < 20 ∧ d ≤ 8 → 16 ≤ k → R 0 d s (plnQ t k (incQ t s))) ∧
  (∀ (d : Int) (s : SSt) (r : QR), R 0 d s r → r.1 ≠ 0 → R 1 d s r) ∧
  (∀ (d : Int) (s : SSt) (r r2 : QR), R 0 d s r → r.1 = 0 → R 2 d r.2.2 r2 → R 1 d s r2) ∧
  (∀ (d : Int) (s : SSt), ¬ kyQ t s 13 → ¬ kyQ t s 14 → R 2 d s (okQ s)) ∧
  (∀ (d : Int) (s : SSt) (r : QR), kyQ t s 13 ∨ kyQ t s 14 → R 0 d (goQ t s) r → r.1 ≠ 0 → R 2 d s r) ∧
  (∀ (d : Int) (s : SSt) (r r2 : QR), kyQ t s 13 ∨ kyQ t s 14 → R 0 d (goQ t s) r → r.1 = 0 → R 2 d r.2.2 r2 → R 2 d s r2)
def QP (t : TXT) (q : Nat) (d : Int) (s : SSt) (r : QR) : Prop := ∀ R : Nat → Int → SSt → QR → Prop, QPc t R → R q d s r
section QPS
variable {t : TXT} {d k : Int} {s : SSt} {r r2 : QR}
theorem QP.one_no (h1 : ¬ brQ t s) (h2 : ¬ anyQ t s) : QP t 0 d s (noQ t 1 s) := fun R h => h.1 d s h1 h2
theorem QP.one_many (h1 : brQ t s ∨ anyQ t s) (h2 : 20 ≤ s.2 ∨ 8 < d) : QP t 0 d s (noQ t 4 s) := fun R h => h.2.1 d s h1 h2
theorem QP.one_br (h1 : brQ t s) (h2 : s.2 < 20 ∧ d ≤ 8) (h3 : QP t 1 (d + 1) (incQ t s) r) : QP t 0 d s (seqQ r (sgnQ t 41)) := fun R h => h.2.2.1 d s r h1 h2 (h3 R h)
theorem QP.one_not (h1 : kyQ t s 15) (h2 : s.2 < 20 ∧ d ≤ 8) (h3 : QP t 0 (d + 1) (incQ t s) r) : QP t 0 d s r := fun R h => h.2.2.2.1 d s r h1 h2 (h3 R h)
theorem QP.one_pl (h1 : kyQ t s k) (h2 : s.2 < 20 ∧ d ≤ 8) (h3 : 16 ≤ k) : QP t 0 d s (plnQ t k (incQ t s)) := fun R h => h.2.2.2.2.1 d k s h1 h2 h3
theorem QP.row_no (h1 : QP t 0 d s r) (h2 : r.1 ≠ 0) : QP t 1 d s r := fun R h => h.2.2.2.2.2.1 d s r (h1 R h) h2
theorem QP.row_ok (h1 : QP t 0 d s r) (h2 : r.1 = 0) (h3 : QP t 2 d r.2.2 r2) : QP t 1 d s r2 := fun R h => h.2.2.2.2.2.2.1 d s r r2 (h1 R h) h2 (h3 R h)
theorem QP.more_end (h1 : ¬ kyQ t s 13) (h2 : ¬ kyQ t s 14) : QP t 2 d s (okQ s) := fun R h => h.2.2.2.2.2.2.2.1 d s h1 h2
theorem QP.more_no (h1 : kyQ t s 13 ∨ kyQ t s 14) (h2 : QP t 0 d (goQ t s) r) (h3 : r.1 ≠ 0) : QP t 2 d s r := fun R h => h.2.2.2.2.2.2.2.2.1 d s r h1 (h2 R h) h3
theorem QP.more_go (h1 : kyQ t s 13 ∨ kyQ t s 14) (h2 : QP t 0 d (goQ t s) r) (h3 : r.1 = 0) (h4 : QP t 2 d r.2.2 r2) : QP t 2 d s r2 := fun R h => h.2.2.2.2.2.2.2.2.2 d s r r2 h1 (h2 R h) h3 (h4 R h)
/-- what was read last -/
def QPi (t : TXT) (q : Nat) (d : Int) (s : SSt) (r : QR) : Prop :=
  (q = 0 → (¬ brQ t s ∧ ¬ anyQ t s ∧ r = noQ t 1 s) ∨ ((brQ t s ∨ anyQ t s) ∧ (20 ≤ s.2 ∨ 8 < d) ∧ r = noQ t 4 s) ∨ (brQ t s ∧ (s.2 < 20 ∧ d ≤ 8) ∧ ∃ r1, QP t 1 (d + 1) (incQ t s) r1 ∧ r = seqQ r1 (sgnQ t 41)) ∨ (kyQ t s 15 ∧ (s.2 < 20 ∧ d ≤ 8) ∧ QP t 0 (d + 1) (incQ t s) r) ∨ (∃ k, kyQ t s k ∧ (s.2 < 20 ∧ d ≤ 8) ∧ 16 ≤ k ∧ r = plnQ t k (incQ t s))) ∧
  (q = 1 → (QP t 0 d s r ∧ r.1 ≠ 0) ∨ ∃ r1, QP t 0 d s r1 ∧ r1.1 = 0 ∧ QP t 2 d r1.2.2 r) ∧
  (q = 2 → (¬ kyQ t s 13 ∧ ¬ kyQ t s 14 ∧ r = okQ s) ∨ ((kyQ t s 13 ∨ kyQ t s 14) ∧ QP t 0 d (goQ t s) r ∧ r.1 ≠ 0) ∨ ((kyQ t s 13 ∨ kyQ t s 14) ∧ ∃ r1, QP t 0 d (goQ t s) r1 ∧ r1.1 = 0 ∧ QP t 2 d r1.2.2 r))
theorem QP.inv {q : Nat} (h : QP t q d s r) : QPi t q d s r := by
  refine (h (fun q d s r => QP t q d s r ∧ QPi t q d s r) ⟨?_, ?_, ?_, ?_, ?_, ?_, ?_, ?_, ?_, ?_⟩).2
  · exact fun d s h1 h2 => ⟨QP.one_no h1 h2, fun _ => Or.inl ⟨h1, h2, rfl⟩, fun e => (by cases e), fun e => (by cases e)⟩
  · exact fun d s h1 h2 => ⟨QP.one_many h1 h2, fun _ => Or.inr (Or.inl ⟨h1, h2, rfl⟩), fun e => (by cases e), fun e => (by cases e)⟩
  · exact fun d s r h1 h2 h3 => ⟨QP.one_br h1 h2 h3.1, fun _ => Or.inr (Or.inr (Or.inl ⟨h1, h2, r, h3.1, rfl⟩)), fun e => (by cases e), fun e => (by cases e)⟩
  · exact fun d s r h1 h2 h3 => ⟨QP.one_not h1 h2 h3.1, fun _ => Or.inr (Or.inr (Or.inr (Or.inl ⟨h1, h2, h3.1⟩))), fun e => (by cases e), fun e => (by cases e)⟩
  · exact fun d k s h1 h2 h3 => ⟨QP.one_pl h1 h2 h3, fun _ => Or.inr (Or.inr (Or.inr (Or.inr ⟨k, h1, h2, h3, rfl⟩))), fun e => (by cases e), fun e => (by cases e)⟩
  · exact fun d s r h1 h2 => ⟨QP.row_no h1.1 h2, fun e => (by cases e), fun _ => Or.inl ⟨h1.1, h2⟩, fun e => (by cases e)⟩
  · exact fun d s r r2 h1 h2 h3 => ⟨QP.row_ok h1.1 h2 h3.1, fun e => (by cases e), fun _ => Or.inr ⟨r, h1.1, h2, h3.1⟩, fun e => (by cases e)⟩
  · exact fun d s h1 h2 => ⟨QP.more_end h1 h2, fun e => (by cases e), fun e => (by cases e), fun _ => Or.inl ⟨h1, h2, rfl⟩⟩
  · exact fun d s r h1 h2 h3 => ⟨QP.more_no h1 h2.1 h3, fun e => (by cases e), fun e => (by cases e), fun _ => Or.inr (Or.inl ⟨h1, h2.1, h3⟩)⟩
  · exact fun d s r r2 h1 h2 h3 h4 => ⟨QP.more_go h1 h2.1 h3 h4.1, fun e => (by cases e), fun e => (by cases e), fun _ => Or.inr (Or.inr ⟨h1, r, h2.1, h3, h4.1⟩)⟩
end QPS
theorem brky {t : TXT} {s : SSt} {k : Int} (h1 : brQ t s) (h2 : kyQ t s k) : False := by
  have := h1.1
  have := h2.1
  omega
theorem kyany {t : TXT} {s : SSt} {k : Int} (h : kyQ t s k) (hk : 15 ≤ k) : anyQ t s := ⟨h.1, by rw [h.2]; exact hk⟩
theorem ky_eq {t : TXT} {s : SSt} {k k' : Int} (h : kyQ t s k) (h' : kyQ t s k') : k = k' := h.2.symm.trans h'.2
theorem QP.det {t : TXT} {q : Nat} {d : Int} {s : SSt} {r : QR} (h : QP t q d s r) : ∀ {r' : QR}, QP t q d s r' → r = r' := by
  refine fun {r'} => (h (fun q d s r => ∀ r', QP t q d s r' → r = r') ⟨?_, ?_, ?_, ?_, ?_, ?_, ?_, ?_, ?_, ?_⟩) r'
  · intro d s h1 h2 r' h'
    rcases h'.inv.1 rfl with ⟨_, _, e⟩ | ⟨a1, _, _⟩ | ⟨a1, _⟩ | ⟨a1, _⟩ | ⟨k, a1, _, a3, _⟩
    · exact e.symm
    · exact absurd a1 (fun e => e.elim h1 h2)
    · exact absurd a1 h1
    · exact absurd (kyany a1 (by decide)) h2
    · exact absurd (kyany a1 (by omega)) h2
  · intro d s h1 h2 r' h'
    rcases h'.inv.1 rfl with ⟨a1, a2, _⟩ | ⟨_, _, e⟩ | ⟨_, a2, _⟩ | ⟨_, a2, _⟩ | ⟨k, _, a2, _, _⟩
    · exact absurd h1 (fun e => e.elim a1 a2)
    · exact e.symm
    · omega
    · omega
    · omega
  · intro d s r h1 h2 ih r' h'
    rcases h'.inv.1 rfl with ⟨a1, a2, _⟩ | ⟨_, a2, _⟩ | ⟨_, _, r1, a3, e⟩ | ⟨a1, _⟩ | ⟨k, a1, _⟩
    · exact absurd h1 a1
    · omega
    · rw [e, ih r1 a3]
    · exact (brky h1 a1).elim
    · exact (brky h1 a1).elim
  · intro d s r h1 h2 ih r' h'
    rcases h'.inv.1 rfl with ⟨a1, a2, _⟩ | ⟨_, a2, _⟩ | ⟨a1, _⟩ | ⟨_, _, a3⟩ | ⟨k, a1, _, a3, _⟩
    · exact absurd (kyany h1 (by decide)) a2
    · omega
    · exact (brky a1 h1).elim
    · exact ih r' a3
    · have := ky_eq h1 a1
      omega
  · intro d k s h1 h2 h3 r' h'
    rcases h'.inv.1 rfl with ⟨a1, a2, _⟩ | ⟨_, a2, _⟩ | ⟨a1, _⟩ | ⟨a1, _⟩ | ⟨k', a1, _, a3, e⟩
    · exact absurd (kyany h1 (by omega)) a2
    · omega
    · exact (brky a1 h1).elim
    · have := ky_eq h1 a1
      omega
    · rw [e, ky_eq h1 a1]
  · intro d s r ih h2 r' h'
    rcases h'.inv.2.1 rfl with ⟨a1, _⟩ | ⟨r1, a1, a2, _⟩
    · exact ih r' a1
    · rw [ih r1 a1] at h2
      exact absurd a2 h2
  · intro d s r r2 ih1 h2 ih2 r' h'
    rcases h'.inv.2.1 rfl with ⟨a1, a2⟩ | ⟨r1, a1, _, a3⟩
    · rw [← ih1 r' a1] at a2
      exact absurd h2 a2
    · have e := ih1 r1 a1
      subst e
      exact ih2 r' a3
  · intro d s h1 h2 r' h'
    rcases h'.inv.2.2 rfl with ⟨_, _, e⟩ | ⟨a1, _⟩ | ⟨a1, _⟩
    · exact e.symm
    · exact absurd a1 (fun e => e.elim h1 h2)
    · exact absurd a1 (fun e => e.elim h1 h2)
  · intro d s r h1 ih h3 r' h'
    rcases h'.inv.2.2 rfl with ⟨a1, a2, _⟩ | ⟨_, a2, _⟩ | ⟨_, r1, a2, a3, _⟩
    · exact absurd h1 (fun e => e.elim a1 a2)
    · exact ih r' a2
    · rw [ih r1 a2] at h3
      exact absurd a3 h3
  · intro d s r r2 h1 ih1 h3 ih2 r' h'
    rcases h'.inv.2.2 rfl with ⟨a1, a2, _⟩ | ⟨_, a2, a3⟩ | ⟨_, r1, a2, _, a4⟩
    · exact absurd h1 (fun e => e.elim a1 a2)
    · rw [← ih1 r' a2] at a3
      exact absurd h3 a3
    · have e := ih1 r1 a2
      subst e
      exact ih2 r' a4
/-- the reference's way: and binds first (0 a row of ands, 1 what may follow, 2 a row of ors, 3 what may follow) -/
def QOc (t : TXT) (R : Nat → Int → SSt → QR → Prop) : Prop :=
  (∀ (d : Int) (s : SSt) (r : QR), QP t 0 d s r → r.1 ≠ 0 → R 0 d s r) ∧
  (∀ (d : Int) (s : SSt) (r r2 : QR), QP t 0 d s r → r.1 = 0 → R 1 d r.2.2 r2 → R 0 d s r2) ∧
  (∀ (d : Int) (s : SSt), ¬ kyQ t s 14 → R 1 d s (okQ s)) ∧
  (∀ (d : Int) (s : SSt) (r : QR), kyQ t s 14 → QP t 0 d (goQ t s) r → r.1 ≠ 0 → R 1 d s r) ∧
  (∀ (d : Int) (s : SSt) (r r2 : QR), kyQ t s 14 → QP t 0 d (goQ t s) r → r.1 = 0 → R 1 d r.2.2 r2 → R 1 d s r2) ∧
  (∀ (d : Int) (s : SSt) (r : QR), R 0 d s r → r.1 ≠ 0 → R 2 d s r) ∧
  (∀ (d : Int) (s : SSt) (r r2 : QR), R 0 d s r → r.1 = 0 → R 3 d r.2.2 r2 → R 2 d s r2) ∧
  (∀ (d : Int) (s : SSt), ¬ kyQ t s 13 → R 3 d s (okQ s)) ∧
  (∀ (d : Int) (s : SSt) (r : QR), kyQ t s 13 → R 0 d (goQ t s) r → r.1 ≠ 0 → R 3 d s r) ∧
  (∀ (d : Int) (s : SSt) (r r2 : QR), kyQ t s 13 → R 0 d (goQ t s) r → r.1 = 0 → R 3 d r.2.2 r2 → R 3 d s r2)
def QO (t : TXT) (q : Nat) (d : Int) (s : SSt) (r : QR) : Prop := ∀ R : Nat → Int → SSt → QR → Prop, QOc t R → R q d s r
section QOS
variable {t : TXT} {d k : Int} {s : SSt} {r r2 : QR}
theorem QO.and_no (h1 : QP t 0 d s r) (h2 : r.1 ≠ 0) : QO t 0 d s r := fun R h => h.1 d s r h1 h2
theorem QO.and_ok (h1 : QP t 0 d s r) (h2 : r.1 = 0) (h3 : QO t 1 d r.2.2 r2) : QO t 0 d s r2 := fun R h => h.2.1 d s r r2 h1 h2 (h3 R h)
theorem QO.am_end (h1 : ¬ kyQ t s 14) : QO t 1 d s (okQ s) := fun R h => h.2.2.1 d s h1
theorem QO.am_no (h1 : kyQ t s 14) (h2 : QP t 0 d (goQ t s) r) (h3 : r.1 ≠ 0) : QO t 1 d s r := fun R h => h.2.2.2.1 d s r h1 h2 h3
theorem QO.am_go (h1 : kyQ t s 14) (h2 : QP t 0 d (goQ t s) r) (h3 : r.1 = 0) (h4 : QO t 1 d r.2.2 r2) : QO t 1 d s r2 := fun R h => h.2.2.2.2.1 d s r r2 h1 h2 h3 (h4 R h)
theorem QO.or_no (h1 : QO t 0 d s r) (h2 : r.1 ≠ 0) : QO t 2 d s r := fun R h => h.2.2.2.2.2.1 d s r (h1 R h) h2
theorem QO.or_ok (h1 : QO t 0 d s r) (h2 : r.1 = 0) (h3 : QO t 3 d r.2.2 r2) : QO t 2 d s r2 := fun R h => h.2.2.2.2.2.2.1 d s r r2 (h1 R h) h2 (h3 R h)
theorem QO.om_end (h1 : ¬ kyQ t s 13) : QO t 3 d s (okQ s) := fun R h => h.2.2.2.2.2.2.2.1 d s h1
theorem QO.om_no (h1 : kyQ t s 13) (h2 : QO t 0 d (goQ t s) r) (h3 : r.1 ≠ 0) : QO t 3 d s r := fun R h => h.2.2.2.2.2.2.2.2.1 d s r h1 (h2 R h) h3
theorem QO.om_go (h1 : kyQ t s 13) (h2 : QO t 0 d (goQ t s) r) (h3 : r.1 = 0) (h4 : QO t 3 d r.2.2 r2) : QO t 3 d s r2 := fun R h => h.2.2.2.2.2.2.2.2.2 d s r r2 h1 (h2 R h) h3 (h4 R h)
end QOS
/-- what each of them comes to -/
def QOm (t : TXT) (q : Nat) (d : Int) (s : SSt) (r : QR) : Prop :=
  (q = 0 → (r.1 = 0 → ¬ kyQ t r.2.2 14) ∧ ∀ X : QR → Prop, (∀ r1, QP t 0 d s r1 → r1.1 ≠ 0 → X r1) → (∀ r1 r2, QP t 0 d s r1 → r1.1 = 0 → QP t 2 d r1.2.2 r2 → X r2) → (r.1 ≠ 0 → X r) ∧ (r.1 = 0 → ∀ r2, QP t 2 d r.2.2 r2 → X r2)) ∧
  (q = 1 → (r.1 = 0 → ¬ kyQ t r.2.2 14) ∧ (r.1 ≠ 0 → QP t 2 d s r) ∧ (r.1 = 0 → ∀ r2, QP t 2 d r.2.2 r2 → QP t 2 d s r2)) ∧
  (q = 2 → QP t 1 d s r) ∧
  (q = 3 → ¬ kyQ t s 14 → QP t 2 d s r)
theorem QO.to {t : TXT} {q : Nat} {d : Int} {s : SSt} {r : QR} (h : QO t q d s r) : QOm t q d s r := by
  refine h (QOm t) ⟨?_, ?_, ?_, ?_, ?_, ?_, ?_, ?_, ?_, ?_⟩
  · intro d s r h1 h2
    exact ⟨fun _ => ⟨fun e => absurd e h2, fun X x1 x2 => ⟨fun _ => x1 _ h1 h2, fun e => absurd e h2⟩⟩, fun e => (by cases e), fun e => (by cases e), fun e => (by cases e)⟩
  · intro d s r r2 h1 h2 ih
    obtain ⟨a1, a2, a3⟩ := ih.2.1 rfl
    exact ⟨fun _ => ⟨a1, fun X x1 x2 => ⟨fun e => x2 _ _ h1 h2 (a2 e), fun e r2 hr => x2 _ _ h1 h2 (a3 e r2 hr)⟩⟩, fun e => (by cases e), fun e => (by cases e), fun e => (by cases e)⟩
  · intro d s h1
    exact ⟨fun e => (by cases e), fun _ => ⟨fun _ => h1, fun e => absurd rfl e, fun _ r2 hr => hr⟩, fun e => (by cases e), fun e => (by cases e)⟩
  · intro d s r h1 h2 h3
    exact ⟨fun e => (by cases e), fun _ => ⟨fun e => absurd e h3, fun _ => QP.more_no (Or.inr h1) h2 h3, fun e => absurd e h3⟩, fun e => (by cases e), fun e => (by cases e)⟩
  · intro d s r r2 h1 h2 h3 ih
    obtain ⟨a1, a2, a3⟩ := ih.2.1 rfl
    exact ⟨fun e => (by cases e), fun _ => ⟨a1, fun e => QP.more_go (Or.inr h1) h2 h3 (a2 e), fun e r2 hr => QP.more_go (Or.inr h1) h2 h3 (a3 e r2 hr)⟩, fun e => (by cases e), fun e => (by cases e)⟩
  · intro d s r ih h2
    refine ⟨fun e => (by cases e), fun e => (by cases e), fun _ => ?_, fun e => (by cases e)⟩
    exact ((ih.1 rfl).2 _ (fun r1 b1 b2 => QP.row_no b1 b2) (fun r1 r2 b1 b2 b3 => QP.row_ok b1 b2 b3)).1 h2
  · intro d s r r2 ih1 h2 ih2
    refine ⟨fun e => (by cases e), fun e => (by cases e), fun _ => ?_, fun e => (by cases e)⟩
    obtain ⟨a1, a2⟩ := ih1.1 rfl
    exact (a2 _ (fun r1 b1 b2 => QP.row_no b1 b2) (fun r1 r2 b1 b2 b3 => QP.row_ok b1 b2 b3)).2 h2 _ (ih2.2.2.2 rfl (a1 h2))
  · intro d s h1
    exact ⟨fun e => (by cases e), fun e => (by cases e), fun e => (by cases e), fun _ h => QP.more_end h1 h⟩
  · intro d s r h1 ih h3
    refine ⟨fun e => (by cases e), fun e => (by cases e), fun e => (by cases e), fun _ _ => ?_⟩
    exact ((ih.1 rfl).2 _ (fun r1 b1 b2 => QP.more_no (Or.inl h1) b1 b2) (fun r1 r2 b1 b2 b3 => QP.more_go (Or.inl h1) b1 b2 b3)).1 h3
  · intro d s r r2 h1 ih1 h3 ih2
    refine ⟨fun e => (by cases e), fun e => (by cases e), fun e => (by cases e), fun _ _ => ?_⟩
    obtain ⟨a1, a2⟩ := ih1.1 rfl
    exact (a2 _ (fun r1 b1 b2 => QP.more_no (Or.inl h1) b1 b2) (fun r1 r2 b1 b2 b3 => QP.more_go (Or.inl h1) b1 b2 b3)).2 h3 _ (ih2.2.2.2 rfl (a1 h3))
/-- the whole: a row, then nothing more -/
def whlQ (t : TXT) (r : QR) : QR := seqQ r (fun s => if kK t s.1 = 0 then okQ s else noQ t 1 s)
/-! The class's reading of a SENTENCE: its tokens, and the names at hand. -/
theorem hcn {M : JM} {σ : PSt} (h : HC M 5 σ) : ∀ s : Nat, s < 3 → M.1 6 s = σ.2.1 s := h.1
theorem hcm {M : JM} {σ : PSt} (h : HC M 5 σ) : ∀ k : Nat, k < 18 → ((k % 6 : Nat) : Int) < σ.2.1 (k / 6) → (M.2 7 k).toInt = cw (σ.2.2.1 k) := h.2
def FNJ (M0 : JM) (w : Int64) (j : Int) : Prop := ∀ (t : TXT) (σ : PSt), HC M0 5 σ → PI t σ → ∀ r : Int, wok 7 r → w.toInt = cw r → fndN σ r j.toNat = -1
theorem FNJ.start {M0 : JM} {w : Int64} : FNJ M0 w (6 * 0) := fun _ _ _ _ _ _ _ => rfl
theorem FNJ.cg {M0 : JM} {w : Int64} {j j' : Int} (h : FNJ M0 w j) (e : j = j') : FNJ M0 w j' := e ▸ h
section FNJS
variable {M0 : JM} {w : Int64} {s i : Int}
theorem FNJ.st (h : FNJ M0 w (6 * s + i)) (hs : 0 ≤ s ∧ s < 3) (hi : 0 ≤ i ∧ i < 6) (hn : M0.1 6 s.toNat ≤ i ∨ M0.2 7 (6 * s + i).toNat ≠ w) : FNJ M0 w (6 * s + (i + 1)) := by
  intro t σ hd hp r h1 h2
  rw [show (6 * s + (i + 1)).toNat = (6 * s + i).toNat + 1 by omega, fndN_st (h t σ hd hp r h1 h2)]
  refine if_neg (fun q => ?_)
  have e6 : (6 * s + i).toNat / 6 = s.toNat := by omega
  have e7 : (((6 * s + i).toNat % 6 : Nat) : Int) = i := by omega
  have hv := q.1
  rw [e6, e7, ← hcn hd s.toNat (by omega)] at hv
  rcases hn with hn | hn
  · omega
  · apply hn
    refine Int64.toInt_inj.mp ?_
    rw [hcm hd (6 * s + i).toNat (by omega) q.1, q.2, h2]
theorem FNJ.row : ∀ (n : Nat) (i : Int), i + (n : Int) = 6 → 0 ≤ i → FNJ M0 w (6 * s + i) → 0 ≤ s ∧ s < 3 → M0.1 6 s.toNat ≤ i → FNJ M0 w (6 * (s + 1))
  | 0, i, hn, _, h, _, _ => h.cg (by have : ((0 : Nat) : Int) = 0 := rfl; omega)
  | n + 1, i, hn, h0, h, hs, hc => FNJ.row n (i + 1) (by omega) (by omega) (h.st hs ⟨h0, by omega⟩ (Or.inl hc)) hs (by omega)
theorem FNJ.done (h : FNJ M0 w (6 * s + i)) (hs : 0 ≤ s ∧ s < 3) (hi : 0 ≤ i ∧ i ≤ 6) (hc : M0.1 6 s.toNat ≤ i) : FNJ M0 w (6 * (s + 1)) := FNJ.row (6 - i).toNat i (by omega) hi.1 h hs hc
theorem FNJ.hit (h : FNJ M0 w (6 * s + i)) (hs : 0 ≤ s ∧ s < 3) (hi : 0 ≤ i ∧ i < 6) (hc : i < M0.1 6 s.toNat) (he : M0.2 7 (6 * s + i).toNat = w) : ∀ (t : TXT) (σ : PSt), HC M0 5 σ → PI t σ → ∀ r : Int, wok 7 r → w.toInt = cw r → 6 * s + i = fndS σ r := by
  intro t σ hd hp r h1 h2
  have e6 : (6 * s + i).toNat / 6 = s.toNat := by omega
  have e7 : (((6 * s + i).toNat % 6 : Nat) : Int) = i := by omega
  have hv : (((6 * s + i).toNat % 6 : Nat) : Int) < σ.2.1 ((6 * s + i).toNat / 6) := by
    rw [e6, e7, ← hcn hd s.toNat (by omega)]
    exact hc
  have hnm : σ.2.2.1 (6 * s + i).toNat = r := by
    refine cw_inj (k := 7) (Nat.le_refl _) (hp.2.2.2.2.1 (6 * s + i).toNat (by omega) hv) h1 ?_
    rw [← hcm hd (6 * s + i).toNat (by omega) hv, he, h2]
  have e := fndN_st (h t σ hd hp r h1 h2)
  rw [if_pos ⟨hv, hnm⟩] at e
  have e2 := fndN_up (σ := σ) (r := r) (k := (6 * s + i).toNat + 1) (by omega) (17 - (6 * s + i).toNat)
  unfold fndS
  rw [show (6 * s + i).toNat + 1 + (17 - (6 * s + i).toNat) = 18 by omega] at e2
  rw [e2, e]
  omega
theorem FNJ.none (h : FNJ M0 w (6 * s)) (hs : s = 3) : ∀ (t : TXT) (σ : PSt), HC M0 5 σ → PI t σ → ∀ r : Int, wok 7 r → w.toInt = cw r → -1 = fndS σ r := by
  intro t σ hd hp r h1 h2
  have := h t σ hd hp r h1 h2
  rw [hs] at this
  exact this.symm
end FNJS
def CQ (M : JM) (t : TXT) (σ : PSt) : Prop := CTk M t σ.1 ∧ M.1 1 12 = 0 ∧ HC M 5 σ ∧ PI t σ
def LT (t : TXT) (r : QR) (v : Int) (M : JM) : Prop := (r.1 = 0 ∧ v = 1 ∧ CQ M t r.2.2.1) ∨ (r.1 ≠ 0 ∧ v = 0 ∧ M.1 1 12 = r.1 ∧ M.1 1 13 = r.2.1)
section CQS
variable {M M0 M1 M' : JM} {t : TXT} {σ : PSt} {v n k : Int} {r r' : QR}
theorem LT.ok (h : LT t r v M) (hv : v ≠ 0) : r.1 = 0 ∧ CQ M t r.2.2.1 := by
  rcases h with ⟨h1, h2, h3⟩ | ⟨h1, h2, h3⟩
  · exact ⟨h1, h3⟩
  · exact absurd h2 hv
theorem LT.bad (h : LT t r v M) (hv : v = 0) : r.1 ≠ 0 ∧ M.1 1 12 = r.1 ∧ M.1 1 13 = r.2.1 := by
  rcases h with ⟨h1, h2, h3⟩ | ⟨h1, h2, h3⟩
  · omega
  · exact ⟨h1, h3⟩
theorem LT.eq (e : r = r') (h : LT t r' v M) : LT t r v M := e ▸ h
theorem LT.vc {v' : Int} (h : LT t r v M) (e : v = v') : LT t r v' M := e ▸ h
theorem LT.o (h : CQ M t r.2.2.1) (hr : r.1 = 0) (hv : v = 1) : LT t r v M := Or.inl ⟨hr, hv, h⟩
/-- a fault stays where it is -/
theorem LT.pl (h : LT t r v M) (hv : v = 0) (e12 : M'.1 1 12 = M.1 1 12) (e13 : M'.1 1 13 = M.1 1 13) : LT t r 0 M' := by
  obtain ⟨h1, h2, h3⟩ := h.bad hv
  exact Or.inr ⟨h1, rfl, e12.trans h2, e13.trans h3⟩
theorem CQ.kind (h : CQ M0 t σ) : (M0.1 1 6 = 0 ↔ kK t σ = 0) ∧ (M0.1 1 6 = 4 ↔ kK t σ = 1) ∧ (M0.1 1 6 = 1 ↔ kK t σ = 2) ∧ (M0.1 1 6 = 2 ↔ kK t σ = 3) ∧ (M0.1 1 6 = 3 ↔ kK t σ = 4) := by
  have e : M0.1 1 6 = kC (kK t σ) := h.1.2.2.2.1
  rw [e]
  exact kC_eq (tK_rng _ _ _ _)
theorem CQ.start (h : CQ M0 t σ) : M0.1 1 5 = kF t σ := h.1.2.2.2.2.1
theorem CQ.val (h : CQ M0 t σ) (hk : 3 ≤ kK t σ) : M0.1 1 9 = kV t σ := h.1.2.2.2.2.2.2.2.2 hk
theorem CQ.word (h : CQ M0 t σ) (hk : kK t σ = 2) : (M0.2 1 8).toInt = cw (kV t σ) := h.1.2.2.2.2.2.2.2.1 hk
theorem CQ.key (h : CQ M0 t σ) : M0.1 1 7 = (if kK t σ = 2 then keyS (kV t σ) else -1) := h.1.2.2.2.2.2.1
theorem CQ.keyd (h : CQ M0 t σ) (hk : M0.1 1 7 = k) (h0 : 0 ≤ k) : kyQ t (σ, n) k := by
  have h1 := h.key
  rw [hk] at h1
  by_cases c : kK t σ = 2
  · rw [if_pos c] at h1
    exact ⟨c, h1.symm⟩
  · rw [if_neg c] at h1
    omega
theorem CQ.nokey (h : CQ M0 t σ) (hk : M0.1 1 7 ≠ k) : ¬ kyQ t (σ, n) k := fun e => hk (by rw [h.key, if_pos e.1]; exact e.2)
theorem CQ.noany (h : CQ M0 t σ) (hk : M0.1 1 7 < 15) : ¬ anyQ t (σ, n) := fun e => by
  have h1 := h.key
  rw [if_pos e.1] at h1
  have := e.2
  show False
  have h2 : 15 ≤ keyS (kV t σ) := e.2
  omega
theorem CQ.wkk (h : CQ M0 t σ) (hk : kK t σ = 2) : wok 7 (kV t σ) := (tV_wok h.2.2.2.1 hk).1
theorem CQ.br (h : CQ M0 t σ) (h1 : M0.1 1 6 = 3 ∧ M0.1 1 9 = 40) : brQ t (σ, n) := by
  have hk := h.kind.2.2.2.2.mp h1.1
  exact ⟨hk, (h.val (by omega)).symm.trans h1.2⟩
theorem CQ.nobr (h : CQ M0 t σ) (h1 : M0.1 1 6 ≠ 3 ∨ M0.1 1 9 ≠ 40) : ¬ brQ t (σ, n) := fun e => by
  have hk := h.kind.2.2.2.2.mpr e.1
  have hv := h.val (by have := e.1; show 3 ≤ kK t σ; have : kK t σ = 4 := e.1; omega)
  have h2 : kV t σ = 40 := e.2
  omega
theorem CQ.next (h : CQ M t σ) (hk : 2 ≤ kK t σ) (hn : M.1 1 4 ≤ M.1 1 2 → CTk M' (txC M) (M.1 1 4)) (hf : M'.1 1 12 = M.1 1 12) (h6 : ∀ j, M'.1 6 j = M.1 6 j) (h7 : ∀ k, M'.2 7 k = M.2 7 k) : CQ M' t (goS t σ) := by
  obtain ⟨c, f0, d, p⟩ := h
  have hb := tE_le (u := t.1) (n := t.2.1) (m := t.2.2) p.1 hk
  have e4 : M.1 1 4 = tE t.1 t.2.1 σ.1 := c.2.2.2.2.2.2.1 hk
  have hc := hn (by rw [e4, c.2.1]; exact hb.2)
  rw [c.tx, e4] at hc
  exact ⟨hc, by rw [hf]; exact f0, HC.cp (σ := goS t σ) d (fun j _ => h6 j) (fun k _ => h7 k), by show 0 ≤ tE t.1 t.2.1 σ.1; have := p.1; omega, hb.2, p.2.2⟩
theorem CQ.cg (h : CQ M t σ) (u : ∀ j, M'.1 2 j = M.1 2 j) (g : ∀ i, i ≠ 11 → M'.1 1 i = M.1 1 i) (q : M'.2 1 8 = M.2 1 8) (h6 : ∀ j, M'.1 6 j = M.1 6 j) (h7 : ∀ k, M'.2 7 k = M.2 7 k) : CQ M' t σ := by
  obtain ⟨⟨c1, c2, c3, c4, c5, c6, c7, c8, c9⟩, f, d, p⟩ := h
  exact ⟨⟨(uC_cg u).trans c1, (g 2 (by decide)).trans c2, (g 3 (by decide)).trans c3, (g 6 (by decide)).trans c4, (g 5 (by decide)).trans c5, (g 7 (by decide)).trans c6, fun hk => (g 4 (by decide)).trans (c7 hk), fun hk => by rw [q]; exact c8 hk, fun hk => (g 9 (by decide)).trans (c9 hk)⟩, (g 12 (by decide)).trans f, HC.cp d (fun j _ => h6 j) (fun k _ => h7 k), p⟩
theorem LT.no (hr : r = noQ t k (σ, n)) (hk : k ≠ 0) (h : CQ M0 t σ) (hv : v = 0) (e12 : M'.1 1 12 = k) (e13 : M'.1 1 13 = M0.1 1 5) : LT t r v M' := by
  subst hr
  exact Or.inr ⟨hk, hv, e12, e13.trans h.start⟩
theorem LT.go (hr : r = okQ (goQ t (σ, n))) (h : CQ M0 t σ) (hk : 2 ≤ kK t σ) (hv : v = 1) (hn : M0.1 1 4 ≤ M0.1 1 2 → CTk M' (txC M0) (M0.1 1 4)) (hf : M'.1 1 12 = M0.1 1 12) (h6 : ∀ j, M'.1 6 j = M0.1 6 j) (h7 : ∀ k, M'.2 7 k = M0.2 7 k) : LT t r v M' := by
  subst hr
  exact Or.inl ⟨rfl, hv, h.next hk hn hf h6 h7⟩
theorem sgnq_no {a : Int} (h : CQ M0 t σ) (hn : M0.1 1 6 ≠ 3 ∨ M0.1 1 9 ≠ a) (hv : v = 0) (e12 : M'.1 1 12 = 1) (e13 : M'.1 1 13 = M0.1 1 5) : LT t (sgnQ t a (σ, n)) v M' := by
  refine LT.no (k := 1) (n := n) ?_ (by decide) h hv e12 e13
  unfold sgnQ
  refine if_neg (fun q => ?_)
  have q1 : kK t σ = 4 := q.1
  have q2 : kV t σ = a := q.2
  have h1 := h.kind.2.2.2.2.mpr q1
  have h2 := h.val (by omega)
  omega
theorem sgnq_go {a : Int} (h : CQ M0 t σ) (h6' : M0.1 1 6 = 3) (h9 : M0.1 1 9 = a) (hv : v = 1) (hn : M0.1 1 4 ≤ M0.1 1 2 → CTk M' (txC M0) (M0.1 1 4)) (hf : M'.1 1 12 = M0.1 1 12) (h6 : ∀ j, M'.1 6 j = M0.1 6 j) (h7 : ∀ k, M'.2 7 k = M0.2 7 k) : LT t (sgnQ t a (σ, n)) v M' := by
  have hk := h.kind.2.2.2.2.mp h6'
  refine LT.go (n := n) ?_ h (by omega) hv hn hf h6 h7
  unfold sgnQ
  exact if_pos ⟨hk, (h.val (by omega)).symm.trans h9⟩
theorem numq_no1 {a b : Int} (h : CQ M0 t σ) (hn : M0.1 1 6 ≠ 2) (hv : v = 0) (e12 : M'.1 1 12 = 1) (e13 : M'.1 1 13 = M0.1 1 5) : LT t (numQ t a b (σ, n)) v M' := by
  refine LT.no (k := 1) (n := n) ?_ (by decide) h hv e12 e13
  unfold numQ
  exact if_neg (fun q => hn (h.kind.2.2.2.1.mpr q))
theorem numq_no2 {a b : Int} (h : CQ M0 t σ) (hk : M0.1 1 6 = 2) (hn : M0.1 1 9 < a ∨ b < M0.1 1 9) (hv : v = 0) (e12 : M'.1 1 12 = 2) (e13 : M'.1 1 13 = M0.1 1 5) : LT t (numQ t a b (σ, n)) v M' := by
  have hk := h.kind.2.2.2.1.mp hk
  have h2 := h.val (by omega)
  refine LT.no (k := 2) (n := n) ?_ (by decide) h hv e12 e13
  unfold numQ
  have c1 : kK t (σ, n).1 = 3 := hk
  rw [if_pos c1, if_neg (fun q => by have q1 : a ≤ kV t σ := q.1; have q2 : kV t σ ≤ b := q.2; omega)]
theorem numq_go {a b : Int} (h : CQ M0 t σ) (h6' : M0.1 1 6 = 2) (h9 : a ≤ M0.1 1 9 ∧ M0.1 1 9 ≤ b) (h1 : CQ M1 t σ) (hv : v = 1) (hn : M1.1 1 4 ≤ M1.1 1 2 → CTk M' (txC M1) (M1.1 1 4)) (hf : M'.1 1 12 = M1.1 1 12) (h6 : ∀ j, M'.1 6 j = M1.1 6 j) (h7 : ∀ k, M'.2 7 k = M1.2 7 k) : LT t (numQ t a b (σ, n)) v M' := by
  have hk := h.kind.2.2.2.1.mp h6'
  have h2 := h.val (by omega)
  refine LT.go (n := n) ?_ h1 (by omega) hv hn hf h6 h7
  unfold numQ
  have c1 : kK t (σ, n).1 = 3 := hk
  rw [if_pos c1, if_pos ⟨show a ≤ kV t σ by omega, show kV t σ ≤ b by omega⟩]
theorem CQ.nm (h : CQ M0 t σ) : isNm t σ = true ↔ M0.1 1 6 = 1 ∧ M0.1 1 7 = -1 := by
  unfold isNm
  rw [Bool.and_eq_true, decide_eq_true_iff, decide_eq_true_iff, h.kind.2.2.1, h.key]
  constructor
  · rintro ⟨h1, h2⟩
    exact ⟨h1, by rw [if_pos h1]; exact h2⟩
  · rintro ⟨h1, h2⟩
    rw [if_pos h1] at h2
    exact ⟨h1, h2⟩
theorem namq_no1 {a : Int} (h : CQ M0 t σ) (hn : ¬ (M0.1 1 6 = 1 ∧ M0.1 1 7 = -1)) (hv : v = 0) (e12 : M'.1 1 12 = 1) (e13 : M'.1 1 13 = M0.1 1 5) : LT t (namQ t a (σ, n)) v M' := by
  refine LT.no (k := 1) (n := n) ?_ (by decide) h hv e12 e13
  unfold namQ
  exact if_neg (fun q => hn (h.nm.mp q))
theorem namq_no3 {a : Int} (h : CQ M0 t σ) (h1 : M0.1 1 6 = 1 ∧ M0.1 1 7 = -1) (hn : fndS σ (kV t σ) < 0 ∨ fndS σ (kV t σ) / 6 ≠ a) (hv : v = 0) (e12 : M'.1 1 12 = 3) (e13 : M'.1 1 13 = M0.1 1 5) : LT t (namQ t a (σ, n)) v M' := by
  refine LT.no (k := 3) (n := n) ?_ (by decide) h hv e12 e13
  unfold namQ
  have c1 : isNm t (σ, n).1 = true := h.nm.mpr h1
  rw [if_pos c1, if_neg (fun q => by have q1 : 0 ≤ fndS σ (kV t σ) := q.1; have q2 : fndS σ (kV t σ) / 6 = a := q.2; omega)]
theorem namq_go {a z : Int} (h : CQ M0 t σ) (h1' : M0.1 1 6 = 1 ∧ M0.1 1 7 = -1) (hz : z = fndS σ (kV t σ)) (hz0 : 0 ≤ z) (hza : z / 6 = a) (h1 : CQ M1 t σ) (hv : v = 1) (hn : M1.1 1 4 ≤ M1.1 1 2 → CTk M' (txC M1) (M1.1 1 4)) (hf : M'.1 1 12 = M1.1 1 12) (h6 : ∀ j, M'.1 6 j = M1.1 6 j) (h7 : ∀ k, M'.2 7 k = M1.2 7 k) : LT t (namQ t a (σ, n)) v M' := by
  have hk := h.kind.2.2.1.mp h1'.1
  refine LT.go (n := n) ?_ h1 (by omega) hv hn hf h6 h7
  unfold namQ
  have c1 : isNm t (σ, n).1 = true := h.nm.mpr h1'
  rw [if_pos c1, if_pos ⟨show 0 ≤ fndS σ (kV t σ) by omega, show fndS σ (kV t σ) / 6 = a by rw [← hz]; exact hza⟩]
end CQS
/-! Plain ones, by their key. -/
section PLS
variable {M M0 M1 M' : JM} {t : TXT} {σ : PSt} {v n k : Int} {s : SSt}
theorem pl_16 (h : k = 16) : plnQ t k s = okQ s := if_pos h
theorem pl_17 (h : k = 17) : plnQ t k s = namQ t 0 s := by subst h; rfl
theorem pl_18 (h : k = 18) : plnQ t k s = namQ t 2 s := by subst h; rfl
theorem pl_19 (h : k = 19) : plnQ t k s = namQ t 1 s := by subst h; rfl
theorem pl_20 (h : 20 ≤ k) : plnQ t k s = seqQ (cmpQ t s) (numQ t 0 999) := by
  unfold plnQ
  rw [if_neg (by omega), if_neg (by omega), if_neg (by omega), if_neg (by omega)]
theorem cmpq_no (h : CQ M0 t σ) (hn : M0.1 1 6 ≠ 3 ∨ (M0.1 1 9 ≠ 60 ∧ M0.1 1 9 ≠ 61 ∧ M0.1 1 9 ≠ 62)) : (cmpQ t (σ, n)).1 ≠ 0 ∧ cmpQ t (σ, n) = noQ t 1 (σ, n) := by
  have e : cmpQ t (σ, n) = noQ t 1 (σ, n) := by
    unfold cmpQ
    refine if_neg (fun q => ?_)
    have q1 : kK t σ = 4 := q.1
    have q2 : kV t σ = 60 ∨ kV t σ = 61 ∨ kV t σ = 62 := q.2
    have h1 := h.kind.2.2.2.2.mpr q1
    have h2 := h.val (by omega)
    omega
  rw [e]
  exact ⟨show (1 : Int) ≠ 0 by decide, rfl⟩
theorem cmpq_k (h : CQ M0 t σ) (h1 : M0.1 1 6 = 3) : 2 ≤ kK t σ := by
  have := h.kind.2.2.2.2.mp h1
  omega
theorem cmpq_ok (h : CQ M0 t σ) (h1 : M0.1 1 6 = 3 ∧ (M0.1 1 9 = 60 ∨ M0.1 1 9 = 61 ∨ M0.1 1 9 = 62)) : seqQ (cmpQ t (σ, n)) (numQ t 0 999) = numQ t 0 999 (goS t σ, n) := by
  have hk := h.kind.2.2.2.2.mp h1.1
  have hv := h.val (by omega)
  have e : cmpQ t (σ, n) = okQ (goQ t (σ, n)) := by
    unfold cmpQ
    exact if_pos ⟨hk, show kV t σ = 60 ∨ kV t σ = 61 ∨ kV t σ = 62 by omega⟩
  rw [e]
  rfl
end PLS
