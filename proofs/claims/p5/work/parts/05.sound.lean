/-! What the machine of intervals says of the machine itself: the walk. -/
def rmD (d mc ms : Nat) : Room := { frames := d, cells := mc, slots := ms, locals := 100 * d }
section SOUND
variable {p : Program} {l : Launch} {e : Env} {R : Room} {s : State} {m : MethodId} {args : Array Value} {below : List Frame} {meth : Method} {c : Code} {Q : State → Prop}
variable {G : va_G} {cy : Nat → ClassId} {b : BB} {A : Nat → Prop} {own nm : String} {cc : ByteArray} {nL c0 s0 : Nat}
/-- what a body's walk stands on -/
abbrev Cx (p : Program) (c : Code) (m : MethodId) (s : State) (args : Array Value) (meth : Method) (G : va_G) (cy : Nat → ClassId) (A : Nat → Prop) (own nm : String) (cc : ByteArray) (nL : Nat) : Prop :=
  p.tables.exec = Jvm.exec ∧ c.code = cc ∧ c.maxLocals = nL ∧ s.vm.findClass own = some m.cls ∧ (∀ w ∈ gtbl, w.before args s = true) ∧ KK G cy s ∧ (∀ q : Nat, s.heap.size ≤ q → A q) ∧ meth.name = nm ∧ EX A s
def Sim (G : va_G) (cy : Nat → ClassId) (b : BB) (A : Nat → Prop) (H0 : Heap) (nL : Nat) (ws : va_W) (L : LO) (S : List AV) (h : AH) (ls : Array Slot) (st : List Value) (H : Heap) (locs : List Loc) : Prop :=
  gH cy b.1 ws h ∧ gL b ws nL L ls ∧ gS b.1 ws S st ∧ va_P G vwCl ws H ∧ va_D A ws ∧ va_S A H0 H locs
/-- from every state that the intervals tell -/
def Wk (p : Program) (l : Launch) (e : Env) (R : Room) (s : State) (m : MethodId) (args : Array Value) (below : List Frame) (meth : Method) (c : Code) (Q : State → Prop) (G : va_G) (cy : Nat → ClassId) (b : BB) (A : Nat → Prop) (nL c0 s0 pc : Nat) (L : LO) (S : List AV) (h : AH) : Prop :=
  ∀ (ws : va_W) (ls : Array Slot) (st : List Value) (H : Heap) (locs : List Loc), Sim G cy b A s.heap nL ws L S h ls st H locs → W p l e R s m args below meth c H locs (h.1 + 1 - c0) (h.2.1 - s0) Q (F0 m pc ls st)
/-- the code of a class has its number -/
theorem cls_in {ci : Nat} {C : String} {T : u_T} {N : Nat} (h : vwCl[ci]? = some (C, T, N)) : ∀ w ∈ u_ws C T N, w ∈ gtbl := by
  rcases ci with _ | _ | _ | _ | _ | _ | _ | _ | _ | _ | _ | _ | _ | ci
  · cases h; exact inC0
  · cases h; exact inC1
  · cases h; exact inC2
  · cases h; exact inC3
  · cases h; exact inC4
  · cases h; exact inC5
  · cases h; exact inC6
  · cases h; exact inC7
  · cases h; exact inC8
  · cases h; exact inC9
  · cases h; exact inC10
  · cases h; exact inC11
  · cases h; exact inC12
  · simp [vwCl] at h
theorem cls_ty {ci : Nat} {C : String} {T : u_T} {N : Nat} (h : vwCl[ci]? = some (C, T, N)) : ∃ ty0 : Nat → FieldType, (∀ k, k < N → parseFieldDescriptor (T k).2.2.1 = some (ty0 k)) ∧ (∀ a, a < N → ∀ b, b < N → a ≠ b → (T a).2.1 ≠ (T b).2.1) := by
  rcases ci with _ | _ | _ | _ | _ | _ | _ | _ | _ | _ | _ | _ | _ | ci
  · cases h; exact ⟨_, tyX0_ok, nmX0⟩
  · cases h; exact ⟨_, tyX1_ok, nmX1⟩
  · cases h; exact ⟨_, tyX2_ok, nmX2⟩
  · cases h; exact ⟨_, tyX3_ok, nmX3⟩
  · cases h; exact ⟨_, tyX4_ok, nmX4⟩
  · cases h; exact ⟨_, tyX5_ok, nmX5⟩
  · cases h; exact ⟨_, tyX6_ok, nmX6⟩
  · cases h; exact ⟨_, tyX7_ok, nmX7⟩
  · cases h; exact ⟨_, tyX8_ok, nmX8⟩
  · cases h; exact ⟨_, tyX9_ok, nmX9⟩
  · cases h; exact ⟨_, tyX10_ok, nmX10⟩
  · cases h; exact ⟨_, tyX11_ok, nmX11⟩
  · cases h; exact ⟨_, tyX12_ok, nmX12⟩
  · simp [vwCl] at h
theorem s_push {pc pc2 : Nat} {L : LO} {S : List AV} {h : AH} {v : Int32} {a : AI}
    (row : ∀ (H : Heap) (locs : List Loc) (ls : Array Slot) (st : List Value), W p l e R s m args below meth c H locs (h.1 + 1 - c0) (h.2.1 - s0) Q (F0 m pc2 ls (.int v :: st)) → W p l e R s m args below meth c H locs (h.1 + 1 - c0) (h.2.1 - s0) Q (F0 m pc ls st))
    (hv : a.1 ≤ v.toInt ∧ v.toInt ≤ a.2) (k : Wk p l e R s m args below meth c Q G cy b A nL c0 s0 pc2 L (.inl a :: S) h) : Wk p l e R s m args below meth c Q G cy b A nL c0 s0 pc L S h := by
  intro ws ls st H locs hs
  exact row H locs ls st (k ws ls _ H locs ⟨hs.1, hs.2.1, ⟨hv, hs.2.2.1⟩, hs.2.2.2⟩)
theorem s_int2 {pc pc2 : Nat} {L : LO} {S : List AV} {h : AH} {f : Int32 → Int32 → Int32} {a b' r : AI}
    (row : ∀ (H : Heap) (locs : List Loc) (ls : Array Slot) (st : List Value) (x y : Int32), (a.1 ≤ x.toInt ∧ x.toInt ≤ a.2) → (b'.1 ≤ y.toInt ∧ y.toInt ≤ b'.2) → W p l e R s m args below meth c H locs (h.1 + 1 - c0) (h.2.1 - s0) Q (F0 m pc2 ls (.int (f x y) :: st)) → W p l e R s m args below meth c H locs (h.1 + 1 - c0) (h.2.1 - s0) Q (F0 m pc ls (.int y :: .int x :: st)))
    (hv : ∀ x y : Int32, (a.1 ≤ x.toInt ∧ x.toInt ≤ a.2) → (b'.1 ≤ y.toInt ∧ y.toInt ≤ b'.2) → r.1 ≤ (f x y).toInt ∧ (f x y).toInt ≤ r.2)
    (k : Wk p l e R s m args below meth c Q G cy b A nL c0 s0 pc2 L (.inl r :: S) h) : Wk p l e R s m args below meth c Q G cy b A nL c0 s0 pc L (.inl b' :: .inl a :: S) h := by
  intro ws ls st H locs hs
  obtain ⟨v1, st1, rfl, g1, g2⟩ := hs.2.2.1.cons
  obtain ⟨v2, st2, rfl, g3, g4⟩ := g2.cons
  obtain ⟨y, rfl, hy⟩ := g1.int
  obtain ⟨x, rfl, hx⟩ := g3.int
  exact row H locs ls st2 x y hx hy (k ws ls _ H locs ⟨hs.1, hs.2.1, ⟨hv x y hx hy, g4⟩, hs.2.2.2⟩)
theorem s_iload {pc pc2 i : Nat} {L : LO} {S : List AV} {h : AH} {a : AI} (hi : ldL L i = some (.inl a))
    (row : ∀ (H : Heap) (locs : List Loc) (ls : Array Slot) (st : List Value) (x : Int32), ls[i]? = some (.val (.int x)) → W p l e R s m args below meth c H locs (h.1 + 1 - c0) (h.2.1 - s0) Q (F0 m pc2 ls (.int x :: st)) → W p l e R s m args below meth c H locs (h.1 + 1 - c0) (h.2.1 - s0) Q (F0 m pc ls st))
    (k : Wk p l e R s m args below meth c Q G cy b A nL c0 s0 pc2 L (.inl a :: S) h) : Wk p l e R s m args below meth c Q G cy b A nL c0 s0 pc L S h := by
  intro ws ls st H locs hs
  obtain ⟨v, g1, g2⟩ := hs.2.1.get hi
  obtain ⟨x, rfl, hx⟩ := g2.int
  exact row H locs ls st x g1 (k ws ls _ H locs ⟨hs.1, hs.2.1, ⟨hx, hs.2.2.1⟩, hs.2.2.2⟩)
theorem s_aload {pc pc2 i : Nat} {L : LO} {S : List AV} {h : AH} {a : Nat ⊕ Nat} (hi : ldL L i = some (.inr (.inr a)))
    (row : ∀ (H : Heap) (locs : List Loc) (ls : Array Slot) (st : List Value) (x : Nat), ls[i]? = some (.val (.ref x)) → W p l e R s m args below meth c H locs (h.1 + 1 - c0) (h.2.1 - s0) Q (F0 m pc2 ls (.ref x :: st)) → W p l e R s m args below meth c H locs (h.1 + 1 - c0) (h.2.1 - s0) Q (F0 m pc ls st))
    (rowN : ∀ (H : Heap) (locs : List Loc) (ls : Array Slot) (st : List Value), ls[i]? = some (.val .null) → W p l e R s m args below meth c H locs (h.1 + 1 - c0) (h.2.1 - s0) Q (F0 m pc2 ls (.null :: st)) → W p l e R s m args below meth c H locs (h.1 + 1 - c0) (h.2.1 - s0) Q (F0 m pc ls st))
    (k : Wk p l e R s m args below meth c Q G cy b A nL c0 s0 pc2 L (.inr (.inr a) :: S) h) : Wk p l e R s m args below meth c Q G cy b A nL c0 s0 pc L S h := by
  intro ws ls st H locs hs
  obtain ⟨v, g1, g2⟩ := hs.2.1.get hi
  have kk := fun hv => k ws ls (v :: st) H locs ⟨hs.1, hs.2.1, ⟨hv, hs.2.2.1⟩, hs.2.2.2⟩
  rcases a with i | j
  · obtain ⟨q, e', rfl, he⟩ := g2.ref
    exact row H locs ls st q g1 (kk g2)
  · rcases g2.ext with ⟨rfl, _⟩ | ⟨rfl, _⟩
    · exact rowN H locs ls st g1 (kk g2)
    · exact row H locs ls st b.1 g1 (kk g2)
theorem s_store {pc pc2 i : Nat} {L : LO} {S : List AV} {h : AH} {a : AV} (hL : isL a = false) (hi : i < L.length)
    (row : ∀ (H : Heap) (locs : List Loc) (ls : Array Slot) (st : List Value) (lv : List (Nat × Value)) (ws : va_W) (x : Value), gV b.1 ws a x → lv_has ls nL lv → i < nL → (∀ ls' : Array Slot, lv_has ls' nL ((i, x) :: lv.filter (fun q => !(q.1 == i) && !(q.1 + 1 == i && q.2.category == 2))) → W p l e R s m args below meth c H locs (h.1 + 1 - c0) (h.2.1 - s0) Q (F0 m pc2 ls' st)) → W p l e R s m args below meth c H locs (h.1 + 1 - c0) (h.2.1 - s0) Q (F0 m pc ls (x :: st)))
    (k : Wk p l e R s m args below meth c Q G cy b A nL c0 s0 pc2 (L.set i (some a)) S h) : Wk p l e R s m args below meth c Q G cy b A nL c0 s0 pc L (a :: S) h := by
  intro ws ls st H locs hs
  obtain ⟨v, st1, rfl, g1, g2⟩ := hs.2.2.1.cons
  obtain ⟨h0, lv, h1, h2⟩ := hs.2.1
  exact row H locs ls st1 lv ws v g1 h1 (by rw [← h0]; exact hi) (fun ls' hl' => k ws ls' st1 H locs ⟨hs.1, gL.set h0 h2 g1 (g1.cat hL) hl', g2, hs.2.2.2⟩)
theorem s_iinc (C : Cx p c m s args meth G cy A own nm cc nL) {pc i : Nat} {n : Int} {L : LO} {S : List AV} {h : AH} {a r : AI} (hd : decode cc pc = .ok (.iinc i n, 3)) (hi : ldL L i = some (.inl a)) (hlt : i < L.length) (hr : ∀ x : Int32, (a.1 ≤ x.toInt ∧ x.toInt ≤ a.2) → r.1 ≤ (x + Int32.ofInt n).toInt ∧ (x + Int32.ofInt n).toInt ≤ r.2)
    (k : Wk p l e R s m args below meth c Q G cy b A nL c0 s0 (pc + 3) (L.set i (some (.inl r))) S h) : Wk p l e R s m args below meth c Q G cy b A nL c0 s0 pc L S h := by
  intro ws ls st H locs hs
  obtain ⟨h0, lv, h1, h2⟩ := hs.2.1
  obtain ⟨v, g1, g2, g3⟩ := h2.1 i _ hi
  obtain ⟨x, rfl, hx⟩ := g2.int
  obtain ⟨j, hj⟩ := List.getElem?_of_mem g1
  exact lv_iinc C.1 C.2.1 hd h1 hj rfl (by rw [← h0]; exact hlt) rfl (fun ls' hl' => k ws ls' st H locs ⟨hs.1, gL.set (x := .int (x + Int32.ofInt n)) h0 h2 (hr x hx) rfl hl', hs.2.2⟩)
theorem s_dup (C : Cx p c m s args meth G cy A own nm cc nL) {pc : Nat} {L : LO} {S : List AV} {h : AH} {a : AV} (hd : decode cc pc = .ok (.dup, 1)) (ha : isL a = false)
    (k : Wk p l e R s m args below meth c Q G cy b A nL c0 s0 (pc + 1) L (a :: a :: S) h) : Wk p l e R s m args below meth c Q G cy b A nL c0 s0 pc L (a :: S) h := by
  intro ws ls st H locs hs
  obtain ⟨v, st1, rfl, g1, g2⟩ := hs.2.2.1.cons
  exact lv_dup C.1 C.2.1 hd (g1.cat ha) (k ws ls _ H locs ⟨hs.1, hs.2.1, ⟨g1, g1, g2⟩, hs.2.2.2⟩)
theorem s_dup2 (C : Cx p c m s args meth G cy A own nm cc nL) {pc : Nat} {L : LO} {S : List AV} {h : AH} {a a2 : AV} (hd : decode cc pc = .ok (.dup2, 1)) (ha : isL a = false) (ha2 : isL a2 = false)
    (k : Wk p l e R s m args below meth c Q G cy b A nL c0 s0 (pc + 1) L (a :: a2 :: a :: a2 :: S) h) : Wk p l e R s m args below meth c Q G cy b A nL c0 s0 pc L (a :: a2 :: S) h := by
  intro ws ls st H locs hs
  obtain ⟨v, st1, rfl, g1, g2⟩ := hs.2.2.1.cons
  obtain ⟨v2, st2, rfl, g3, g4⟩ := g2.cons
  exact lv_dup2_11 C.1 C.2.1 hd (g1.cat ha) (g3.cat ha2) (k ws ls _ H locs ⟨hs.1, hs.2.1, ⟨g1, g3, g1, g3, g4⟩, hs.2.2.2⟩)
theorem s_pop (C : Cx p c m s args meth G cy A own nm cc nL) {pc : Nat} {L : LO} {S : List AV} {h : AH} {a : AV} (hd : decode cc pc = .ok (.pop, 1)) (ha : isL a = false)
    (k : Wk p l e R s m args below meth c Q G cy b A nL c0 s0 (pc + 1) L S h) : Wk p l e R s m args below meth c Q G cy b A nL c0 s0 pc L (a :: S) h := by
  intro ws ls st H locs hs
  obtain ⟨v, st1, rfl, g1, g2⟩ := hs.2.2.1.cons
  exact lv_pop C.1 C.2.1 hd (g1.cat ha) (k ws ls _ H locs ⟨hs.1, hs.2.1, g2, hs.2.2.2⟩)
theorem s_goto (C : Cx p c m s args meth G cy A own nm cc nL) {pc t : Nat} {o : Int} {L : LO} {S : List AV} {h : AH} (hd : decode cc pc = .ok (.goto o, 3)) (ht : (pc : Int) + o = (t : Int))
    (k : Wk p l e R s m args below meth c Q G cy b A nL c0 s0 t L S h) : Wk p l e R s m args below meth c Q G cy b A nL c0 s0 pc L S h := by
  intro ws ls st H locs hs
  exact lv_goto C.1 C.2.1 hd ht (k ws ls _ H locs hs)
theorem cm_ok {cd : ClassFile.Cond} {x y : AI} {r : Bool} {x' y' : Int32} (hc : cm3 cd x y = some r) (hx : x.1 ≤ x'.toInt ∧ x'.toInt ≤ x.2) (hy : y.1 ≤ y'.toInt ∧ y'.toInt ≤ y.2) : (match cd with
  | .eq => x' = y'
  | .ne => ¬ x' = y'
  | .lt => x' < y'
  | .ge => y' ≤ x'
  | .gt => y' < x'
  | .le => x' ≤ y') ↔ r = true := by
  have nn : ∀ {P Q : Prop} {r' : Bool}, (P ↔ r' = true) → (Q ↔ ¬ P) → r = !r' → (Q ↔ r = true) := by
    intro P Q r' h1 h2 h3
    rw [h2, h1, h3]
    cases r' <;> simp
  have le1 : y' ≤ x' ↔ ¬ x' < y' := by rw [Int32.le_iff_toInt_le, Int32.lt_iff_toInt_lt]; omega
  have le2 : x' ≤ y' ↔ ¬ y' < x' := by rw [Int32.le_iff_toInt_le, Int32.lt_iff_toInt_lt]; omega
  cases cd with
  | eq => exact eq3_ok hc hx hy
  | ne =>
    obtain ⟨r', h1, h2⟩ := no3_ok hc
    exact nn (eq3_ok h1 hx hy) Iff.rfl h2
  | lt => exact lt3_ok hc hx hy
  | ge =>
    obtain ⟨r', h1, h2⟩ := no3_ok hc
    exact nn (lt3_ok h1 hx hy) le1 h2
  | gt => exact lt3_ok hc hy hx
  | le =>
    obtain ⟨r', h1, h2⟩ := no3_ok hc
    exact nn (lt3_ok h1 hy hx) le2 h2
theorem s_icmp (C : Cx p c m s args meth G cy A own nm cc nL) {pc t pc2 : Nat} {o : Int} {cd : ClassFile.Cond} {L : LO} {S : List AV} {h : AH} {x y : AI} {r : Bool} (hd : decode cc pc = .ok (.if_icmp cd o, 3)) (hc : cm3 cd x y = some r) (ht : (pc : Int) + o = (t : Int)) (hr : (r = true ∧ pc2 = t) ∨ (r = false ∧ pc2 = pc + 3))
    (k : Wk p l e R s m args below meth c Q G cy b A nL c0 s0 pc2 L S h) : Wk p l e R s m args below meth c Q G cy b A nL c0 s0 pc L (.inl y :: .inl x :: S) h := by
  intro ws ls st H locs hs
  obtain ⟨v1, st1, rfl, g1, g2⟩ := hs.2.2.1.cons
  obtain ⟨v2, st2, rfl, g3, g4⟩ := g2.cons
  obtain ⟨y', rfl, hy⟩ := g1.int
  obtain ⟨x', rfl, hx⟩ := g3.int
  have kk : W p l e R s m args below meth c H locs (h.1 + 1 - c0) (h.2.1 - s0) Q (F0 m pc2 ls st2) := k ws ls st2 H locs ⟨hs.1, hs.2.1, g4, hs.2.2.2⟩
  have ok := cm_ok hc hx hy
  have k1 : r = true → W p l e R s m args below meth c H locs (h.1 + 1 - c0) (h.2.1 - s0) Q (F0 m t ls st2) := by
    intro h1
    rcases hr with ⟨_, rfl⟩ | ⟨h2, _⟩
    · exact kk
    · rw [h1] at h2; cases h2
  have k2 : ¬ r = true → W p l e R s m args below meth c H locs (h.1 + 1 - c0) (h.2.1 - s0) Q (F0 m (pc + 3) ls st2) := by
    intro h1
    rcases hr with ⟨h2, _⟩ | ⟨_, rfl⟩
    · exact absurd h2 h1
    · exact kk
  cases cd with
  | eq => exact lv_icmp_eq C.1 C.2.1 hd ht (fun h1 => k1 (ok.mp h1)) (fun h1 => k2 (fun h2 => h1 (ok.mpr h2)))
  | ne => exact lv_icmp_ne C.1 C.2.1 hd ht (fun h1 => k1 (ok.mp h1)) (fun h1 => k2 (fun h2 => ok.mpr h2 h1))
  | lt => exact lv_icmp_lt C.1 C.2.1 hd ht (fun h1 => k1 (ok.mp h1)) (fun h1 => k2 (fun h2 => h1 (ok.mpr h2)))
  | ge => exact lv_icmp_ge C.1 C.2.1 hd ht (fun h1 => k1 (ok.mp h1)) (fun h1 => k2 (fun h2 => h1 (ok.mpr h2)))
  | gt => exact lv_icmp_gt C.1 C.2.1 hd ht (fun h1 => k1 (ok.mp h1)) (fun h1 => k2 (fun h2 => h1 (ok.mpr h2)))
  | le => exact lv_icmp_le C.1 C.2.1 hd ht (fun h1 => k1 (ok.mp h1)) (fun h1 => k2 (fun h2 => h1 (ok.mpr h2)))
theorem s_if (C : Cx p c m s args meth G cy A own nm cc nL) {pc t pc2 : Nat} {o : Int} {cd : ClassFile.Cond} {L : LO} {S : List AV} {h : AH} {x : AI} {r : Bool} (hd : decode cc pc = .ok (.ifCond cd o, 3)) (hc : cm3 cd x (0, 0) = some r) (ht : (pc : Int) + o = (t : Int)) (hr : (r = true ∧ pc2 = t) ∨ (r = false ∧ pc2 = pc + 3))
    (k : Wk p l e R s m args below meth c Q G cy b A nL c0 s0 pc2 L S h) : Wk p l e R s m args below meth c Q G cy b A nL c0 s0 pc L (.inl x :: S) h := by
  intro ws ls st H locs hs
  obtain ⟨v1, st1, rfl, g1, g2⟩ := hs.2.2.1.cons
  obtain ⟨x', rfl, hx⟩ := g1.int
  have kk : W p l e R s m args below meth c H locs (h.1 + 1 - c0) (h.2.1 - s0) Q (F0 m pc2 ls st1) := k ws ls st1 H locs ⟨hs.1, hs.2.1, g2, hs.2.2.2⟩
  have ok := cm_ok (y' := 0) hc hx (by decide)
  have k1 : r = true → W p l e R s m args below meth c H locs (h.1 + 1 - c0) (h.2.1 - s0) Q (F0 m t ls st1) := by
    intro h1
    rcases hr with ⟨_, rfl⟩ | ⟨h2, _⟩
    · exact kk
    · rw [h1] at h2; cases h2
  have k2 : ¬ r = true → W p l e R s m args below meth c H locs (h.1 + 1 - c0) (h.2.1 - s0) Q (F0 m (pc + 3) ls st1) := by
    intro h1
    rcases hr with ⟨h2, _⟩ | ⟨_, rfl⟩
    · exact absurd h2 h1
    · exact kk
  cases cd with
  | eq => exact lv_if_eq C.1 C.2.1 hd ht (fun h1 => k1 (ok.mp h1)) (fun h1 => k2 (fun h2 => h1 (ok.mpr h2)))
  | ne => exact lv_if_ne C.1 C.2.1 hd ht (fun h1 => k1 (ok.mp h1)) (fun h1 => k2 (fun h2 => ok.mpr h2 h1))
  | lt => exact lv_if_lt C.1 C.2.1 hd ht (fun h1 => k1 (ok.mp h1)) (fun h1 => k2 (fun h2 => h1 (ok.mpr h2)))
  | ge => exact lv_if_ge C.1 C.2.1 hd ht (fun h1 => k1 (ok.mp h1)) (fun h1 => k2 (fun h2 => h1 (ok.mpr h2)))
  | gt => exact lv_if_gt C.1 C.2.1 hd ht (fun h1 => k1 (ok.mp h1)) (fun h1 => k2 (fun h2 => h1 (ok.mpr h2)))
  | le => exact lv_if_le C.1 C.2.1 hd ht (fun h1 => k1 (ok.mp h1)) (fun h1 => k2 (fun h2 => h1 (ok.mpr h2)))
theorem s_tabOut (C : Cx p c m s args meth G cy A own nm cc nL) {pc t len : Nat} {d lo hi : Int} {os : Array Int} {L : LO} {S : List AV} {h : AH} {x : AI} (hd : decode cc pc = .ok (.tableswitch d lo hi os, len)) (hx : x.2 < lo ∨ hi < x.1) (ht : (pc : Int) + d = (t : Int))
    (k : Wk p l e R s m args below meth c Q G cy b A nL c0 s0 t L S h) : Wk p l e R s m args below meth c Q G cy b A nL c0 s0 pc L (.inl x :: S) h := by
  intro ws ls st H locs hs
  obtain ⟨v1, st1, rfl, g1, g2⟩ := hs.2.2.1.cons
  obtain ⟨x', rfl, hx'⟩ := g1.int
  exact lv_tableOut C.1 C.2.1 hd (by omega) ht (k ws ls st1 H locs ⟨hs.1, hs.2.1, g2, hs.2.2.2⟩)
theorem s_tabIn (C : Cx p c m s args meth G cy A own nm cc nL) {pc t len : Nat} {d lo hi o : Int} {os : Array Int} {L : LO} {S : List AV} {h : AH} {x : AI} (hd : decode cc pc = .ok (.tableswitch d lo hi os, len)) (h1 : x.1 = x.2) (h2 : lo ≤ x.1) (h3 : x.1 ≤ hi) (ho : os.toList[(x.1 - lo).toNat]? = some o) (ht : (pc : Int) + o = (t : Int))
    (k : Wk p l e R s m args below meth c Q G cy b A nL c0 s0 t L S h) : Wk p l e R s m args below meth c Q G cy b A nL c0 s0 pc L (.inl x :: S) h := by
  intro ws ls st H locs hs
  obtain ⟨v1, st1, rfl, g1, g2⟩ := hs.2.2.1.cons
  obtain ⟨x', rfl, hx'⟩ := g1.int
  have hx2 : x'.toInt = x.1 := by omega
  exact lv_tableIn C.1 C.2.1 hd (by omega) (by omega) (by rw [hx2, ← Array.getElem?_toList]; exact ho) ht (k ws ls st1 H locs ⟨hs.1, hs.2.1, g2, hs.2.2.2⟩)
end SOUND
