/-! What the machine of intervals says of the machine itself: the relation. -/
abbrev TY (cy : Nat → ClassId) : List (ClassId × FieldType) := [(cy 0, .byte), (cy 1, .int), (cy 2, .long), (cy 3, .boolean), (cy 4, .object "MerryDuchy$Duchy"), (cy 5, .object "MerryDuchy$State")]
def KK (G : va_G) (cy : Nat → ClassId) (U : State) : Prop := va_K G vwCl (TY cy) U ∧ (∀ q ∈ nestT, va_Nw (.methodLinkNest q.1 q.2.1 q.2.2.1 q.2.2.2) U) ∧ va_AO "MerryDuchy$Duchy" U ∧ va_AO "MerryDuchy$State" U
theorem KK.warm {G : va_G} {cy : Nat → ClassId} {s U : State} (hW : s.WarmedH U.vm) (h : KK G cy s) : KK G cy U := ⟨va_K.moved hW.alike h.1, fun q hq => va_Nw.warmM hW (h.2.1 q hq), va_AO.moved hW.alike h.2.2.1, va_AO.moved hW.alike h.2.2.2⟩
theorem KK.same {G : va_G} {cy : Nat → ClassId} {s U : State} (hv : s.vm = U.vm) (h : KK G cy s) : KK G cy U := by
  have ha : s.vm.Alike U.vm := by rw [← hv]; exact Vm.Alike.refl _
  exact ⟨va_K.moved ha h.1, fun q hq => va_Nw.same rfl hv (h.2.1 q hq), va_AO.moved ha h.2.2.1, va_AO.moved ha h.2.2.2⟩
def gV (b : Nat) (ws : va_W) (a : AV) (v : Value) : Prop := match a, v with
  | .inl p, .int x => p.1 ≤ x.toInt ∧ x.toInt ≤ p.2
  | .inr (.inl c), .long x => ∀ k, c = some k → x = k
  | .inr (.inr (.inl i)), .ref q => ∃ e, ws[i]? = some (q, e)
  | .inr (.inr (.inr k)), .null => k = 0
  | .inr (.inr (.inr k)), .ref q => k = 1 ∧ q = b
  | _, _ => False
def sub_ (ws ws2 : va_W) : Prop := ∀ (i q : Nat) (e : va_E), ws[i]? = some (q, e) → ∃ e2, ws2[i]? = some (q, e2)
theorem sub_.rf (ws : va_W) : sub_ ws ws := fun _ _ e h => ⟨e, h⟩
theorem sub_.tr {w1 w2 w3 : va_W} (h1 : sub_ w1 w2) (h2 : sub_ w2 w3) : sub_ w1 w3 := fun i q e h => by
  obtain ⟨e', h'⟩ := h1 i q e h
  exact h2 i q e' h'
theorem sub_.app (ws w : va_W) : sub_ ws (ws ++ w) := fun i q e h => ⟨e, by rw [List.getElem?_append_left (List.getElem?_eq_some_iff.mp h).1]; exact h⟩
theorem sub_.set {ws : va_W} {i : Nat} {q : Nat} {e e' : va_E} (h : ws[i]? = some (q, e)) : sub_ ws (ws.set i (q, e')) := fun j q2 e2 h2 => by
  have hlt := (List.getElem?_eq_some_iff.mp h).1
  by_cases hj : i = j
  · subst hj
    rw [h] at h2
    obtain ⟨rfl, rfl⟩ := Prod.mk.inj (Option.some.inj h2)
    exact ⟨e', by rw [List.getElem?_set_self hlt]⟩
  · exact ⟨e2, by rw [List.getElem?_set_ne hj]; exact h2⟩
theorem gV.mono {b : Nat} {ws ws' : va_W} (hs : sub_ ws ws') {a : AV} {v : Value} (h : gV b ws a v) : gV b ws' a v := by
  rcases a with p | c | i | k <;> cases v <;> simp only [gV] at h ⊢ <;> try exact h
  obtain ⟨e, he⟩ := h
  exact hs _ _ _ he
theorem gV.int {b : Nat} {ws : va_W} {p : AI} {v : Value} (h : gV b ws (.inl p) v) : ∃ x : Int32, v = .int x ∧ p.1 ≤ x.toInt ∧ x.toInt ≤ p.2 := by
  cases v <;> simp only [gV] at h
  exact ⟨_, rfl, h⟩
theorem gV.long {b : Nat} {ws : va_W} {c : Option Int64} {v : Value} (h : gV b ws (.inr (.inl c)) v) : ∃ x : Int64, v = .long x := by
  cases v <;> simp only [gV] at h
  exact ⟨_, rfl⟩
theorem gV.ref {b : Nat} {ws : va_W} {i : Nat} {v : Value} (h : gV b ws (.inr (.inr (.inl i))) v) : ∃ q e, v = .ref q ∧ ws[i]? = some (q, e) := by
  cases v <;> simp only [gV] at h
  obtain ⟨e, he⟩ := h
  exact ⟨_, e, rfl, he⟩
theorem gV.ext {b : Nat} {ws : va_W} {k : Nat} {v : Value} (h : gV b ws (.inr (.inr (.inr k))) v) : v = .null ∧ k = 0 ∨ v = .ref b ∧ k = 1 := by
  cases v <;> simp only [gV] at h
  · exact Or.inl ⟨rfl, h⟩
  · exact Or.inr ⟨by rw [h.2], h.1⟩
theorem gV.cat {b : Nat} {ws : va_W} {a : AV} {v : Value} (h : gV b ws a v) (hl : isL a = false) : v.category = 1 := by
  rcases a with p | c | i | k <;> cases v <;> simp_all [gV, isL, Value.category]
def gS (b : Nat) (ws : va_W) : List AV → List Value → Prop
  | [], [] => True
  | a :: S, v :: st => gV b ws a v ∧ gS b ws S st
  | _, _ => False
theorem gS.mono {b : Nat} {ws ws' : va_W} (hs : sub_ ws ws') : ∀ {S : List AV} {st : List Value}, gS b ws S st → gS b ws' S st
  | [], [], _ => trivial
  | _ :: _, _ :: _, h => ⟨h.1.mono hs, gS.mono hs h.2⟩
  | [], _ :: _, h => h.elim
  | _ :: _, [], h => h.elim
theorem gS.cons {b : Nat} {ws : va_W} {a : AV} {S : List AV} {st : List Value} (h : gS b ws (a :: S) st) : ∃ v st', st = v :: st' ∧ gV b ws a v ∧ gS b ws S st' := by
  cases st with
  | nil => exact h.elim
  | cons v st' => exact ⟨v, st', rfl, h.1, h.2⟩
theorem gS.nil {b : Nat} {ws : va_W} {st : List Value} (h : gS b ws [] st) : st = [] := by
  cases st with
  | nil => rfl
  | cons v st' => exact h.elim
theorem gS.app {b : Nat} {ws : va_W} : ∀ {A B : List AV} {st : List Value}, gS b ws (A ++ B) st → ∃ v w, st = v ++ w ∧ gS b ws A v ∧ gS b ws B w
  | [], B, st, h => ⟨[], st, rfl, trivial, h⟩
  | a :: A, B, st, h => by
    obtain ⟨v, st', rfl, h1, h2⟩ := gS.cons (S := A ++ B) h
    obtain ⟨x, y, rfl, h3, h4⟩ := gS.app h2
    exact ⟨v :: x, y, rfl, ⟨h1, h3⟩, h4⟩
theorem gS.to {b : Nat} {ws : va_W} : ∀ {A B : List AV} {v w : List Value}, gS b ws A v → gS b ws B w → gS b ws (A ++ B) (v ++ w)
  | [], _, [], _, _, h => h
  | _ :: _, _, _ :: _, _, h1, h2 => ⟨h1.1, gS.to h1.2 h2⟩
  | [], _, _ :: _, _, h, _ => h.elim
  | _ :: _, _, [], _, h, _ => h.elim
theorem gS.rev {b : Nat} {ws : va_W} : ∀ {A : List AV} {v : List Value}, gS b ws A v → gS b ws A.reverse v.reverse
  | [], [], _ => trivial
  | a :: A, x :: v, h => by
    rw [List.reverse_cons, List.reverse_cons]
    exact gS.to (gS.rev h.2) ⟨h.1, trivial⟩
  | [], _ :: _, h => h.elim
  | _ :: _, [], h => h.elim
theorem gS.len {b : Nat} {ws : va_W} : ∀ {A : List AV} {v : List Value}, gS b ws A v → A.length = v.length
  | [], [], _ => rfl
  | _ :: _, _ :: _, h => by simp [gS.len h.2]
  | [], _ :: _, h => h.elim
  | _ :: _, [], h => h.elim
theorem gS.sum {b : Nat} {ws : va_W} : ∀ {A : List AV} {v : List Value}, gS b ws A v → (v.map fun v => v.category).sum ≤ 2 * A.length
  | [], [], _ => by simp
  | _ :: A, x :: v, h => by
    have h2 := gS.sum h.2
    have h3 : x.category ≤ 2 := by cases x <;> simp [Value.category]
    simp only [List.map_cons, List.sum_cons, List.length_cons]
    omega
  | [], _ :: _, h => h.elim
  | _ :: _, [], h => h.elim
/-- an array's row -/
def gA (b : Nat) (ws : va_W) (kd n : Nat) (ch : List (List AV)) (p : vp_A) : Prop := p.1 = n ∧
  (((kd = 0 ∨ kd = 1 ∨ kd = 3) ∧ ∃ f, p.2 = .inl f ∧ ∀ i a, i < n → pg ch i = some a → gV b ws a (.int (f i))) ∨
   (kd = 2 ∧ ∃ f, p.2 = .inr (.inl f) ∧ ∀ i a, i < n → pg ch i = some a → gV b ws a (.long (f i))) ∨
   ((kd = 4 ∨ kd = 5) ∧ ∃ f, p.2 = .inr (.inr (.inr (.inr f))) ∧ ∀ i a, i < n → pg ch i = some a → gV b ws a (va_rf (f i))))
theorem gA.mono {b : Nat} {ws ws' : va_W} (hs : sub_ ws ws') {kd n : Nat} {ch : List (List AV)} {p : vp_A} (h : gA b ws kd n ch p) : gA b ws' kd n ch p := by
  obtain ⟨h0, ⟨h1, f, h2, h3⟩ | ⟨h1, f, h2, h3⟩ | ⟨h1, f, h2, h3⟩⟩ := h
  · exact ⟨h0, Or.inl ⟨h1, f, h2, fun i a hi ha => (h3 i a hi ha).mono hs⟩⟩
  · exact ⟨h0, Or.inr (Or.inl ⟨h1, f, h2, fun i a hi ha => (h3 i a hi ha).mono hs⟩)⟩
  · exact ⟨h0, Or.inr (Or.inr ⟨h1, f, h2, fun i a hi ha => (h3 i a hi ha).mono hs⟩)⟩
def gC (cy : Nat → ClassId) (b : Nat) (ws : va_W) (c : AC) (e : va_E) : Prop := match c, e with
  | .inl o, .inr r => o.1 = r.1 ∧ o.2.length = r.2.length ∧ ∀ (k : Nat) (a : AV), o.2[k]? = some a → ∃ v, r.2[k]? = some v ∧ gV b ws a v
  | .inr o, .inl r => r.1 = cy o.1 ∧ gA b ws o.1 o.2.1 o.2.2 r.2
  | _, _ => False
theorem gC.mono {cy : Nat → ClassId} {b : Nat} {ws ws' : va_W} (hs : sub_ ws ws') {c : AC} {e : va_E} (h : gC cy b ws c e) : gC cy b ws' c e := by
  cases c <;> cases e <;> simp only [gC] at h ⊢
  · exact ⟨h.1, h.2.1, fun k a ha => by
      obtain ⟨v, h1, h2⟩ := h.2.2 k a ha
      exact ⟨v, h1, h2.mono hs⟩⟩
  · exact ⟨h.1, h.2.mono hs⟩
theorem gC.obj {cy : Nat → ClassId} {b : Nat} {ws : va_W} {ci : Nat} {fs : List AV} {e : va_E} (h : gC cy b ws (.inl (ci, fs)) e) : ∃ vs, e = .inr (ci, vs) ∧ fs.length = vs.length ∧ ∀ (k : Nat) (a : AV), fs[k]? = some a → ∃ v, vs[k]? = some v ∧ gV b ws a v := by
  cases e with
  | inl r => exact h.elim
  | inr r =>
    obtain ⟨c, vs⟩ := r
    obtain ⟨h1, h2, h3⟩ := h
    exact ⟨vs, by rw [← show ci = c from h1], h2, h3⟩
theorem gC.arr {cy : Nat → ClassId} {b : Nat} {ws : va_W} {kd n : Nat} {ch : List (List AV)} {e : va_E} (h : gC cy b ws (.inr (kd, (n, ch))) e) : ∃ p, e = .inl (cy kd, (n, p)) ∧ gA b ws kd n ch (n, p) := by
  cases e with
  | inr r => exact h.elim
  | inl r =>
    obtain ⟨c, m, p⟩ := r
    obtain ⟨h1, h2⟩ := h
    have h3 : m = n := h2.1
    subst h3
    exact ⟨p, by rw [← show c = cy kd from h1], h2⟩
def gH (cy : Nat → ClassId) (b : Nat) (ws : va_W) (h : AH) : Prop := ws.length = h.1 ∧ ∀ (i : Nat) (c : AC), hget h i = some c → ∃ q e, ws[i]? = some (q, e) ∧ gC cy b ws c e
theorem hget_hset {h : AH} {i j : Nat} {c d : AC} (hj : hget (hset h i c) j = some d) : j = i ∧ d = c ∨ j ≠ i ∧ hget h j = some d := by
  unfold hget hset at hj
  simp only [pg_ps] at hj
  by_cases e : j = i
  · subst e
    rw [if_pos rfl] at hj
    cases hp : pg h.2.2 j with
    | none => rw [hp] at hj; simp at hj
    | some x => rw [hp] at hj; simp at hj; exact Or.inl ⟨rfl, hj.symm⟩
  · rw [if_neg e] at hj
    exact Or.inr ⟨e, hj⟩
theorem gH.set {cy : Nat → ClassId} {b : Nat} {ws : va_W} {h : AH} {i q : Nat} {c : AC} {e0 e : va_E} (hg : gH cy b ws h) (hi : ws[i]? = some (q, e0)) (hc : gC cy b ws c e) : gH cy b (ws.set i (q, e)) (hset h i c) := by
  have hs : sub_ ws (ws.set i (q, e)) := sub_.set hi
  have hlt := (List.getElem?_eq_some_iff.mp hi).1
  refine ⟨by rw [List.length_set]; exact hg.1, fun j d hj => ?_⟩
  rcases hget_hset hj with ⟨rfl, rfl⟩ | ⟨hne, hd⟩
  · exact ⟨q, e, by rw [List.getElem?_set_self hlt], hc.mono hs⟩
  · obtain ⟨q', e', h1, h2⟩ := hg.2 j d hd
    exact ⟨q', e', by rw [List.getElem?_set_ne (Ne.symm hne)]; exact h1, h2.mono hs⟩
theorem gH.push {cy : Nat → ClassId} {b : Nat} {ws : va_W} {h : AH} {q n : Nat} {c : AC} {e : va_E} (hg : gH cy b ws h) (hc : gC cy b ws c e) : gH cy b (ws ++ [(q, e)]) (hnew h c n) := by
  have hs : sub_ ws (ws ++ [(q, e)]) := sub_.app _ _
  refine ⟨by simp [hnew, hg.1], fun j d hj => ?_⟩
  have hj' : hget (hset h h.1 c) j = some d := hj
  rcases hget_hset hj' with ⟨rfl, rfl⟩ | ⟨hne, hd⟩
  · exact ⟨q, e, by rw [← hg.1]; simp, hc.mono hs⟩
  · obtain ⟨q', e', h1, h2⟩ := hg.2 j d hd
    exact ⟨q', e', by rw [List.getElem?_append_left (List.getElem?_eq_some_iff.mp h1).1]; exact h1, h2.mono hs⟩
/-- locals; b: where the script lies, and the world that the walk began with -/
abbrev BB : Type := Nat × va_W
def gL (b : BB) (ws : va_W) (nL : Nat) (L : LO) (ls : Array Slot) : Prop := L.length = nL ∧ ∃ lv, lv_has ls nL lv ∧ (∀ (i : Nat) (a : AV), ldL L i = some a → ∃ v, (i, v) ∈ lv ∧ gV b.1 ws a v ∧ v.category = 1) ∧ sub_ b.2 ws
theorem gL.mono {b : BB} {ws ws' : va_W} (hs : sub_ ws ws') {nL : Nat} {L : LO} {ls : Array Slot} (h : gL b ws nL L ls) : gL b ws' nL L ls := by
  obtain ⟨h0, lv, h1, h2, h3⟩ := h
  exact ⟨h0, lv, h1, fun i a ha => by
    obtain ⟨v, g1, g2, g3⟩ := h2 i a ha
    exact ⟨v, g1, g2.mono hs, g3⟩, h3.tr hs⟩
theorem gL.get {b : BB} {ws : va_W} {nL : Nat} {L : LO} {ls : Array Slot} (h : gL b ws nL L ls) {i : Nat} {a : AV} (ha : ldL L i = some a) : ∃ v, ls[i]? = some (.val v) ∧ gV b.1 ws a v := by
  obtain ⟨h0, lv, h1, h2, -⟩ := h
  obtain ⟨v, g1, g2, g3⟩ := h2 i a ha
  exact ⟨v, h1.2.2 _ g1, g2⟩
theorem gL.from {b : BB} {ws : va_W} {nL : Nat} {L : LO} {ls : Array Slot} (h : gL b ws nL L ls) : sub_ b.2 ws := by
  obtain ⟨h0, lv, h1, h2, h3⟩ := h
  exact h3
theorem ldL_set {L : LO} {i j : Nat} {a d : AV} (h : ldL (L.set i (some a)) j = some d) : j = i ∧ d = a ∨ j ≠ i ∧ ldL L j = some d := by
  unfold ldL at h ⊢
  simp only [lg_eq] at h ⊢
  by_cases e : i = j
  · subst e
    by_cases hl : i < L.length
    · rw [List.getElem?_set_self hl] at h
      exact Or.inl ⟨rfl, (Option.some.inj h).symm⟩
    · rw [List.getElem?_eq_none (by simpa using hl)] at h
      cases h
  · rw [List.getElem?_set_ne e] at h
    exact Or.inr ⟨fun e2 => e e2.symm, h⟩
theorem gL.set {b : BB} {ws : va_W} {nL : Nat} {L : LO} {lv : List (Nat × Value)} {ls' : Array Slot} {i : Nat} {a : AV} {x : Value} (h0 : L.length = nL) (h2 : (∀ (i : Nat) (a : AV), ldL L i = some a → ∃ v, (i, v) ∈ lv ∧ gV b.1 ws a v ∧ v.category = 1) ∧ sub_ b.2 ws) (hx : gV b.1 ws a x) (hc : x.category = 1) (h' : lv_has ls' nL ((i, x) :: lv.filter (fun q => !(q.1 == i) && !(q.1 + 1 == i && q.2.category == 2)))) : gL b ws nL (L.set i (some a)) ls' := by
  refine ⟨by rw [List.length_set]; exact h0, _, h', fun j d hj => ?_, h2.2⟩
  rcases ldL_set hj with ⟨rfl, rfl⟩ | ⟨hne, hd⟩
  · exact ⟨x, List.mem_cons_self, hx, hc⟩
  · obtain ⟨v, g1, g2, g3⟩ := h2.1 j d hd
    refine ⟨v, List.mem_cons_of_mem _ (List.mem_filter.mpr ⟨g1, ?_⟩), g2, g3⟩
    simp [hne, g3]
/-! what is old and stays: the one text, statics of the JDK -/
def KTX : String := "man forfeit minds good owes wears mends does buys lends repays strike week or and not proud owing has did pride credit debts number "
def KBY : List Int32 := [109, 97, 110, 32, 102, 111, 114, 102, 101, 105, 116, 32, 109, 105, 110, 100, 115, 32, 103, 111, 111, 100, 32, 111, 119, 101, 115, 32, 119, 101, 97, 114, 115, 32, 109, 101, 110, 100, 115, 32, 100, 111, 101, 115, 32, 98, 117, 121, 115, 32, 108, 101, 110, 100, 115, 32, 114, 101, 112, 97, 121, 115, 32, 115, 116, 114, 105, 107, 101, 32, 119, 101, 101, 107, 32, 111, 114, 32, 97, 110, 100, 32, 110, 111, 116, 32, 112, 114, 111, 117, 100, 32, 111, 119, 105, 110, 103, 32, 104, 97, 115, 32, 100, 105, 100, 32, 112, 114, 105, 100, 101, 32, 99, 114, 101, 100, 105, 116, 32, 100, 101, 98, 116, 115, 32, 110, 117, 109, 98, 101, 114, 32]
def EX (A : Nat → Prop) (U : State) : Prop := ∃ (a v : Nat) (f : Nat → Int32), ((f = fun j => KBY.getD j 0) ∧ vk_R "MerryDuchy$Tokens" 19 KTX a U) ∧ va_O "java/lang/String" a A U U.heap ∧ va_OF "java/lang/String" "coder" "B" (.int 0) a A U U.heap ∧ va_OF "java/lang/String" "value" "[B" (.ref v) a A U U.heap ∧ va_T .byte v 132 (fun j => .int (f j)) A U U.heap ∧ va_Z "java/lang/String" "COMPACT_STRINGS" "Z" (.int 1) A U U.heap ∧ va_Zq "jdk/internal/util/Preconditions" "SIOOBE_FORMATTER" "Ljava/util/function/BiFunction;" A U U.heap ∧ vx_Zq Bundle.tN "UNASSIGNED_STACK" Bundle.steD A U U.heap ∧ vx_Zq Bundle.tN "SUPPRESSED_SENTINEL" Bundle.listD A U U.heap
theorem EX.to {A B : Nat → Prop} {s U : State} {H : Heap} {locs : List Loc} (h : EX A s) (hW : s.WarmedH U.vm) (hU : U.heap = H) (hS : va_S A s.heap H locs) (hB : ∀ q, B q → A q) : EX B U := by
  obtain ⟨a, v, f, h1, h2, h3, h4, h5, h6, h7, h8, h9⟩ := h
  have hk := hS.2.1
  subst hU
  exact ⟨a, v, f, ⟨h1.1, h1.2.warm hW⟩, ((va_O.moved hW.alike h2).kept hk).narrow hB, ((va_OF.moved hW.alike h3).kept hk).narrow hB, ((va_OF.moved hW.alike h4).kept hk).narrow hB, ((va_T.moved hW.alike h5).kept hk).narrow hB, ((va_Z.moved hW.alike h6).kept hk).narrow hB, ((va_Zq.moved hW.alike h7).kept hk).narrow hB, ((vx_Zq.moved hW.alike h8).kept hk).narrow hB, ((vx_Zq.moved hW.alike h9).kept hk).narrow hB⟩
theorem EX.same {A : Nat → Prop} {s U : State} (hv : s.vm = U.vm) (hh : s.heap = U.heap) (h : EX A s) : EX A U := by
  have ha : s.vm.Alike U.vm := by rw [← hv]; exact Vm.Alike.refl _
  obtain ⟨a, v, f, h1, h2, h3, h4, h5, h6, h7, h8, h9⟩ := h
  unfold EX
  rw [← hh]
  exact ⟨a, v, f, ⟨h1.1, h1.2.same hv.symm⟩, va_O.moved ha h2, va_OF.moved ha h3, va_OF.moved ha h4, va_T.moved ha h5, va_Z.moved ha h6, va_Zq.moved ha h7, vx_Zq.moved ha h8, vx_Zq.moved ha h9⟩
