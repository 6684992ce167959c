/-! A machine of plain numbers: methods over rows of ints and longs whose shape is fixed (no cell is made). Values: an int, a long, a cell, a base (0: the script, 1..: texts). Its runs are the machine's own walks (parts 41 and on). -/
abbrev JV : Type := Int ⊕ (Int64 ⊕ (Nat ⊕ Nat))
abbrev JF : Type := Nat ⊕ Nat
abbrev JS : Type := (Nat × List JF) ⊕ ((Nat × Nat) ⊕ (Nat × List Nat))
abbrev JM : Type := (Nat → Nat → Int) × (Nat → Nat → Int64)
abbrev JL : Type := List (Option JV)
def jup {α : Type} (f : Nat → Nat → α) (c j : Nat) (v : α) : Nat → Nat → α := fun c' j' => if c' = c then (if j' = j then v else f c' j') else f c' j'
theorem jup_at {α : Type} (f : Nat → Nat → α) (c j : Nat) (v : α) : jup f c j v c j = v := by simp [jup]
theorem jup_cell {α : Type} (f : Nat → Nat → α) {c c' : Nat} (j j' : Nat) (v : α) (h : c' ≠ c) : jup f c j v c' j' = f c' j' := by simp [jup, h]
theorem jup_slot {α : Type} (f : Nat → Nat → α) (c c' : Nat) {j j' : Nat} (v : α) (h : j' ≠ j) : jup f c j v c' j' = f c' j' := by
  unfold jup
  by_cases e : c' = c
  · rw [if_pos e, if_neg h]
  · rw [if_neg e]
/-- the first n of a row come into another one -/
def jcp {α : Type} (f : Nat → Nat → α) (c1 c2 : Nat) (n : Int) : Nat → Nat → α := fun (c j : Nat) => if c = c2 then (if (j : Int) < n then f c1 j else f c j) else f c j
def isl (a : JV) : Bool := match a with
  | .inr (.inl _) => true
  | _ => false
/-- what a store leaves of the locals -/
def jcl (L : JL) (i : Nat) : JL := match i with
  | 0 => L
  | Nat.succ j => (match L[j]? with
    | some (some (.inr (.inl _))) => L.set j none
    | _ => L)
def jst (L : JL) (i : Nat) (a : JV) : JL := bif isl a then ((jcl L i).set (i + 1) none).set i (some a) else (jcl L i).set i (some a)
theorem jcl_len (L : JL) (i : Nat) : (jcl L i).length = L.length := by
  unfold jcl
  cases i with
  | zero => rfl
  | succ j =>
    simp only
    split
    · exact List.length_set
    · rfl
theorem jst_len (L : JL) (i : Nat) (a : JV) : (jst L i a).length = L.length := by
  unfold jst
  cases isl a <;> simp [jcl_len]
theorem jcl_get {L : JL} {i j : Nat} {d : JV} (h : (jcl L i)[j]? = some (some d)) : L[j]? = some (some d) ∧ ¬ (j + 1 = i ∧ isl d = true) := by
  unfold jcl at h
  cases i with
  | zero => exact ⟨h, by omega⟩
  | succ k =>
    simp only at h
    split at h
    · rename_i x hx
      by_cases e : k = j
      · subst e
        by_cases hl : k < L.length
        · rw [List.getElem?_set_self hl] at h; cases h
        · rw [List.getElem?_eq_none (by simpa using hl)] at h; cases h
      · rw [List.getElem?_set_ne e] at h
        exact ⟨h, by omega⟩
    · rename_i hx
      refine ⟨h, fun ⟨h1, h2⟩ => ?_⟩
      have h1 : j = k := by omega
      subst h1
      rcases d with z | x | c | k
      · cases h2
      · exact hx _ h
      · cases h2
      · cases h2
theorem jset_get {L : JL} {i j : Nat} {a d : JV} (h : (L.set i (some a))[j]? = some (some d)) : (j = i ∧ d = a) ∨ (j ≠ i ∧ L[j]? = some (some d)) := by
  by_cases e : i = j
  · subst e
    by_cases hl : i < L.length
    · rw [List.getElem?_set_self hl] at h
      exact Or.inl ⟨rfl, (Option.some.inj (Option.some.inj h)).symm⟩
    · rw [List.getElem?_eq_none (by simpa using hl)] at h
      cases h
  · rw [List.getElem?_set_ne e] at h
    exact Or.inr ⟨fun e2 => e e2.symm, h⟩
theorem jst_get {L : JL} {i j : Nat} {a d : JV} (h : (jst L i a)[j]? = some (some d)) : (j = i ∧ d = a) ∨ (j ≠ i ∧ L[j]? = some (some d) ∧ ¬ (j + 1 = i ∧ isl d = true) ∧ ¬ (j = i + 1 ∧ isl a = true)) := by
  unfold jst at h
  cases hl : isl a with
  | false =>
    rw [hl] at h
    rcases jset_get h with h | ⟨h1, h2⟩
    · exact Or.inl h
    · have := jcl_get h2
      exact Or.inr ⟨h1, this.1, this.2, fun h => by cases h.2⟩
  | true =>
    rw [hl] at h
    rcases jset_get h with h | ⟨h1, h2⟩
    · exact Or.inl h
    · by_cases e2 : i + 1 = j
      · subst e2
        by_cases hl : i + 1 < (jcl L i).length
        · rw [List.getElem?_set_self hl] at h2; cases h2
        · rw [List.getElem?_eq_none (by simpa using hl)] at h2; cases h2
      · rw [List.getElem?_set_ne e2] at h2
        have := jcl_get h2
        exact Or.inr ⟨h1, this.1, this.2, fun h => e2 h.1.symm⟩
/-! the relation -/
def jV (bb : Nat → Nat) (ws : va_W) (a : JV) (v : Value) : Prop := match a, v with
  | .inl z, .int x => x.toInt = z
  | .inr (.inl y), .long x => x = y
  | .inr (.inr (.inl c)), .ref q => ∃ e, ws[c]? = some (q, e)
  | .inr (.inr (.inr k)), .ref q => q = bb k
  | _, _ => False
theorem jV.mono {bb : Nat → Nat} {ws ws' : va_W} (hs : sub_ ws ws') {a : JV} {v : Value} (h : jV bb ws a v) : jV bb ws' a v := by
  rcases a with z | x | c | k <;> cases v <;> simp only [jV] at h ⊢ <;> try exact h
  obtain ⟨e, he⟩ := h
  exact hs _ _ _ he
theorem jV.int {bb : Nat → Nat} {ws : va_W} {z : Int} {v : Value} (h : jV bb ws (.inl z) v) : ∃ x : Int32, v = .int x ∧ x.toInt = z := by
  cases v <;> simp only [jV] at h
  exact ⟨_, rfl, h⟩
theorem jV.long {bb : Nat → Nat} {ws : va_W} {y : Int64} {v : Value} (h : jV bb ws (.inr (.inl y)) v) : v = .long y := by
  cases v <;> simp only [jV] at h
  rw [h]
theorem jV.ref {bb : Nat → Nat} {ws : va_W} {c : Nat} {v : Value} (h : jV bb ws (.inr (.inr (.inl c))) v) : ∃ q e, v = .ref q ∧ ws[c]? = some (q, e) := by
  cases v <;> simp only [jV] at h
  obtain ⟨e, he⟩ := h
  exact ⟨_, e, rfl, he⟩
theorem jV.bas {bb : Nat → Nat} {ws : va_W} {k : Nat} {v : Value} (h : jV bb ws (.inr (.inr (.inr k))) v) : v = .ref (bb k) := by
  cases v <;> simp only [jV] at h
  rw [h]
theorem jV.cat {bb : Nat → Nat} {ws : va_W} {a : JV} {v : Value} (h : jV bb ws a v) : v.category = if isl a then 2 else 1 := by
  rcases a with z | x | c | k <;> cases v <;> simp_all [jV, isl, Value.category]
def jQ (bb : Nat → Nat) (ws : va_W) : List JV → List Value → Prop
  | [], [] => True
  | a :: S, v :: st => jV bb ws a v ∧ jQ bb ws S st
  | _, _ => False
theorem jQ.mono {bb : Nat → Nat} {ws ws' : va_W} (hs : sub_ ws ws') : ∀ {S : List JV} {st : List Value}, jQ bb ws S st → jQ bb ws' S st
  | [], [], _ => trivial
  | _ :: _, _ :: _, h => ⟨h.1.mono hs, jQ.mono hs h.2⟩
  | [], _ :: _, h => h.elim
  | _ :: _, [], h => h.elim
theorem jQ.cons {bb : Nat → Nat} {ws : va_W} {a : JV} {S : List JV} {st : List Value} (h : jQ bb ws (a :: S) st) : ∃ v st', st = v :: st' ∧ jV bb ws a v ∧ jQ bb ws S st' := by
  cases st with
  | nil => exact h.elim
  | cons v st' => exact ⟨v, st', rfl, h.1, h.2⟩
theorem jQ.nil {bb : Nat → Nat} {ws : va_W} {st : List Value} (h : jQ bb ws [] st) : st = [] := by
  cases st with
  | nil => rfl
  | cons v st' => exact h.elim
theorem jQ.app {bb : Nat → Nat} {ws : va_W} : ∀ {A B : List JV} {st : List Value}, jQ bb ws (A ++ B) st → ∃ v w, st = v ++ w ∧ jQ bb ws A v ∧ jQ bb ws B w
  | [], B, st, h => ⟨[], st, rfl, trivial, h⟩
  | a :: A, B, st, h => by
    obtain ⟨v, st', rfl, h1, h2⟩ := jQ.cons (S := A ++ B) h
    obtain ⟨x, y, rfl, h3, h4⟩ := jQ.app h2
    exact ⟨v :: x, y, rfl, ⟨h1, h3⟩, h4⟩
theorem jQ.to {bb : Nat → Nat} {ws : va_W} : ∀ {A B : List JV} {v w : List Value}, jQ bb ws A v → jQ bb ws B w → jQ bb ws (A ++ B) (v ++ w)
  | [], _, [], _, _, h => h
  | _ :: _, _, _ :: _, _, h1, h2 => ⟨h1.1, jQ.to h1.2 h2⟩
  | [], _, _ :: _, _, h, _ => h.elim
  | _ :: _, _, [], _, h, _ => h.elim
theorem jQ.rev {bb : Nat → Nat} {ws : va_W} : ∀ {A : List JV} {v : List Value}, jQ bb ws A v → jQ bb ws A.reverse v.reverse
  | [], [], _ => trivial
  | a :: A, x :: v, h => by
    rw [List.reverse_cons, List.reverse_cons]
    exact jQ.to (jQ.rev h.2) ⟨h.1, trivial⟩
  | [], _ :: _, h => h.elim
  | _ :: _, [], h => h.elim
theorem jQ.len {bb : Nat → Nat} {ws : va_W} : ∀ {A : List JV} {v : List Value}, jQ bb ws A v → A.length = v.length
  | [], [], _ => rfl
  | _ :: _, _ :: _, h => by simp [jQ.len h.2]
  | [], _ :: _, h => h.elim
  | _ :: _, [], h => h.elim
theorem jQ.sum {bb : Nat → Nat} {ws : va_W} : ∀ {A : List JV} {v : List Value}, jQ bb ws A v → (v.map fun v => v.category).sum ≤ 2 * A.length
  | [], [], _ => by simp
  | _ :: A, x :: v, h => by
    have h2 := jQ.sum h.2
    have h3 : x.category ≤ 2 := by cases x <;> simp [Value.category]
    simp only [List.map_cons, List.sum_cons, List.length_cons]
    omega
  | [], _ :: _, h => h.elim
  | _ :: _, [], h => h.elim
def jFv (ws : va_W) (M : JM) (c k : Nat) (f : JF) (v : Value) : Prop := match f with
  | .inl 2 => v = .long (M.2 c k)
  | .inl _ => ∃ x : Int32, v = .int x ∧ x.toInt = M.1 c k
  | .inr c' => ∃ q e, v = .ref q ∧ ws[c']? = some (q, e)
theorem jFv.mono {ws ws' : va_W} (hs : sub_ ws ws') {M M' : JM} {c k : Nat} (hm : M'.1 c k = M.1 c k) (hw : M'.2 c k = M.2 c k) {f : JF} {v : Value} (h : jFv ws M c k f v) : jFv ws' M' c k f v := by
  unfold jFv at h ⊢
  split at h
  · rw [hw]; exact h
  · rw [hm]; exact h
  · obtain ⟨q, e, h1, h2⟩ := h
    obtain ⟨e', h3⟩ := hs _ _ _ h2
    exact ⟨q, e', h1, h3⟩
def jC (cy : Nat → ClassId) (ws : va_W) (M : JM) (c : Nat) (sc : JS) (e : va_E) : Prop := match sc with
  | .inl (ci, fs) => ∃ vs : List Value, e = .inr (ci, vs) ∧ fs.length = vs.length ∧ ∀ (k : Nat) (f : JF), fs[k]? = some f → ∃ v, vs[k]? = some v ∧ jFv ws M c k f v
  | .inr (.inl (kd, n)) => ((kd = 0 ∨ kd = 1 ∨ kd = 3) ∧ ∃ f : Nat → Int32, e = .inl (cy kd, (n, .inl f)) ∧ ∀ i, i < n → (f i).toInt = M.1 c i) ∨ (kd = 2 ∧ ∃ f : Nat → Int64, e = .inl (cy kd, (n, .inr (.inl f))) ∧ ∀ i, i < n → f i = M.2 c i)
  | .inr (.inr (kd, cs)) => (kd = 4 ∨ kd = 5) ∧ ∃ f : Nat → Option Nat, e = .inl (cy kd, (cs.length, .inr (.inr (.inr (.inr f))))) ∧ ∀ i k, cs[i]? = some k → ∃ q e', f i = some q ∧ ws[k]? = some (q, e')
theorem jC.mono {cy : Nat → ClassId} {ws ws' : va_W} (hs : sub_ ws ws') {M M' : JM} {c : Nat} (hm : ∀ k, M'.1 c k = M.1 c k) (hw : ∀ k, M'.2 c k = M.2 c k) {sc : JS} {e : va_E} (h : jC cy ws M c sc e) : jC cy ws' M' c sc e := by
  rcases sc with ⟨ci, fs⟩ | ⟨kd, n⟩ | ⟨kd, cs⟩
  · obtain ⟨vs, h1, h2, h3⟩ := h
    refine ⟨vs, h1, h2, fun k f hf => ?_⟩
    obtain ⟨v, h4, h5⟩ := h3 k f hf
    exact ⟨v, h4, h5.mono hs (hm k) (hw k)⟩
  · rcases h with ⟨h1, f, h2, h3⟩ | ⟨h1, f, h2, h3⟩
    · exact Or.inl ⟨h1, f, h2, fun i hi => by rw [hm]; exact h3 i hi⟩
    · exact Or.inr ⟨h1, f, h2, fun i hi => by rw [hw]; exact h3 i hi⟩
  · obtain ⟨h1, f, h2, h3⟩ := h
    refine ⟨h1, f, h2, fun i k hk => ?_⟩
    obtain ⟨q, e', h4, h5⟩ := h3 i k hk
    obtain ⟨e2, h6⟩ := hs _ _ _ h5
    exact ⟨q, e2, h4, h6⟩
def jH (sh : List JS) (cy : Nat → ClassId) (ws : va_W) (M : JM) : Prop := ∀ (c : Nat) (sc : JS), sh[c]? = some sc → ∃ q e, ws[c]? = some (q, e) ∧ jC cy ws M c sc e
/-- one cell is another, its numbers too -/
theorem jH.set {sh : List JS} {cy : Nat → ClassId} {ws : va_W} {M M' : JM} {c q : Nat} {sc : JS} {e e' : va_E} (h : jH sh cy ws M) (hc : ws[c]? = some (q, e)) (hsc : sh[c]? = some sc) (hm : ∀ c' k, c' ≠ c → M'.1 c' k = M.1 c' k) (hw : ∀ c' k, c' ≠ c → M'.2 c' k = M.2 c' k) (he : jC cy ws M' c sc e') : jH sh cy (ws.set c (q, e')) M' := by
  have hs : sub_ ws (ws.set c (q, e')) := sub_.set hc
  intro c2 sc2 h2
  by_cases e2 : c2 = c
  · subst e2
    rw [hsc] at h2
    obtain rfl := Option.some.inj h2
    exact ⟨q, e', by rw [List.getElem?_set_self (List.getElem?_eq_some_iff.mp hc).1], he.mono hs (fun _ => rfl) (fun _ => rfl)⟩
  · obtain ⟨q2, e3, h3, h4⟩ := h c2 sc2 h2
    exact ⟨q2, e3, by rw [List.getElem?_set_ne (Ne.symm e2)]; exact h3, h4.mono hs (fun k => hm c2 k e2) (fun k => hw c2 k e2)⟩
def jLc (bb : Nat → Nat) (ws : va_W) (nL : Nat) (L : JL) (ls : Array Slot) : Prop := L.length = nL ∧ ∃ lv, lv_has ls nL lv ∧ ∀ (i : Nat) (a : JV), L[i]? = some (some a) → ∃ v, (i, v) ∈ lv ∧ jV bb ws a v
theorem jLc.mono {bb : Nat → Nat} {ws ws' : va_W} (hs : sub_ ws ws') {nL : Nat} {L : JL} {ls : Array Slot} (h : jLc bb ws nL L ls) : jLc bb ws' nL L ls := by
  obtain ⟨h0, lv, h1, h2⟩ := h
  exact ⟨h0, lv, h1, fun i a ha => by
    obtain ⟨v, g1, g2⟩ := h2 i a ha
    exact ⟨v, g1, g2.mono hs⟩⟩
theorem jLc.get {bb : Nat → Nat} {ws : va_W} {nL : Nat} {L : JL} {ls : Array Slot} (h : jLc bb ws nL L ls) {i : Nat} {a : JV} (ha : L[i]? = some (some a)) : ∃ v, ls[i]? = some (.val v) ∧ jV bb ws a v := by
  obtain ⟨h0, lv, h1, h2⟩ := h
  obtain ⟨v, g1, g2⟩ := h2 i a ha
  exact ⟨v, h1.2.2 _ g1, g2⟩
theorem jLc.set1 {bb : Nat → Nat} {ws : va_W} {nL : Nat} {L : JL} {lv : List (Nat × Value)} {ls' : Array Slot} {i : Nat} {a : JV} {x : Value} (h0 : L.length = nL) (h2 : ∀ (i : Nat) (a : JV), L[i]? = some (some a) → ∃ v, (i, v) ∈ lv ∧ jV bb ws a v) (hx : jV bb ws a x) (h' : lv_has ls' nL ((i, x) :: lv.filter (fun q => !(q.1 == i) && !(q.1 + 1 == i && q.2.category == 2)))) : jLc bb ws nL (jst L i a) ls' := by
  refine ⟨by rw [jst_len]; exact h0, _, h', fun j d hj => ?_⟩
  rcases jst_get hj with ⟨rfl, rfl⟩ | ⟨hne, hd, hp, _⟩
  · exact ⟨x, List.mem_cons_self, hx⟩
  · obtain ⟨v, g1, g2⟩ := h2 j d hd
    refine ⟨v, List.mem_cons_of_mem _ (List.mem_filter.mpr ⟨g1, ?_⟩), g2⟩
    have hc := g2.cat
    simp only [Bool.and_eq_true, Bool.not_eq_true', beq_eq_false_iff_ne, ne_eq, Bool.and_eq_false_iff]
    refine ⟨hne, ?_⟩
    by_cases e : j + 1 = i
    · right
      cases hl : isl d with
      | true => exact absurd ⟨e, hl⟩ hp
      | false => rw [hl] at hc; simp at hc; rw [hc]; decide
    · exact Or.inl e
theorem jLc.set2 {bb : Nat → Nat} {ws : va_W} {nL : Nat} {L : JL} {lv : List (Nat × Value)} {ls' : Array Slot} {i : Nat} {y : Int64} (h0 : L.length = nL) (h2 : ∀ (i : Nat) (a : JV), L[i]? = some (some a) → ∃ v, (i, v) ∈ lv ∧ jV bb ws a v) (h' : lv_has ls' nL ((i, .long y) :: lv.filter (fun q => !(q.1 == i) && (!(q.1 == i + 1) && !(q.1 + 1 == i && q.2.category == 2))))) : jLc bb ws nL (jst L i (.inr (.inl y))) ls' := by
  refine ⟨by rw [jst_len]; exact h0, _, h', fun j d hj => ?_⟩
  rcases jst_get hj with ⟨rfl, rfl⟩ | ⟨hne, hd, hp, hp2⟩
  · exact ⟨.long y, List.mem_cons_self, rfl⟩
  · obtain ⟨v, g1, g2⟩ := h2 j d hd
    refine ⟨v, List.mem_cons_of_mem _ (List.mem_filter.mpr ⟨g1, ?_⟩), g2⟩
    have hc := g2.cat
    simp only [Bool.and_eq_true, Bool.not_eq_true', beq_eq_false_iff_ne, ne_eq, Bool.and_eq_false_iff]
    refine ⟨hne, fun e => hp2 ⟨e, rfl⟩, ?_⟩
    by_cases e : j + 1 = i
    · right
      cases hl : isl d with
      | true => exact absurd ⟨e, hl⟩ hp
      | false => rw [hl] at hc; simp at hc; rw [hc]; decide
    · exact Or.inl e
