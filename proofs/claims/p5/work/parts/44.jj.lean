/-! The walk of one instruction over plain numbers: the JDK's members, switches; all of them. -/
/-- where the class's file has them --/
def jtI : List Nat := [0, 297, 303, 305]
section JJ
variable {p : Program} {l : Launch} {e : Env} {R : Room} {s : State} {m : MethodId} {args : Array Value} {below : List Frame} {meth : Method} {c : Code} {Q : State → Prop}
variable {sh : List JS} {G : va_G} {cy : Nat → ClassId} {bb : Nat → Nat} {ws0 : va_W} {A : Nat → Prop} {own nm : String} {cc : ByteArray} {nL kc ks : Nat}
theorem k_min (C : Cx p c m s args meth G cy A own nm cc nL) {pc i : Nat} {a b : Int} {L : JL} {S : List JV} {M : JM} (hd : decode cc pc = .ok (.invokestatic i, 3)) (hl : Cond.methodLink own i Lib.Math.min.name ∈ gtbl) (hw : Cond.static Lib.Math.min.name ∈ gtbl ∧ Cond.initialized "java/lang/Math" ∈ gtbl ∧ Cond.code Lib.Math.min.name Lib.Math.min.code 2 (some .int) ∈ gtbl) (hlen : S.length ≤ 4) (hR : 1 ≤ R.frames ∧ 100 ≤ R.locals ∧ kc ≤ R.cells ∧ ks ≤ R.slots)
    (k : Jk p l e R s m args below meth c Q sh G cy bb ws0 A nL kc ks (pc + 3) L (.inl (if b < a then b else a) :: S) M) : Jk p l e R s m args below meth c Q sh G cy bb ws0 A nL kc ks pc L (.inl b :: .inl a :: S) M := by
  intro ws ls st H locs hs
  obtain ⟨v1, st1, rfl, g1, q1⟩ := hs.2.2.1.cons
  obtain ⟨v2, st2, rfl, g2, q2⟩ := q1.cons
  obtain ⟨y, rfl, hy⟩ := g1.int
  obtain ⟨x, rfl, hx⟩ := g2.int
  have hml : c.maxLocals = ls.size := by
    obtain ⟨_, lv, h1, _⟩ := hs.2.1
    rw [C.2.2.1, h1.1]
  have hsum := q2.sum
  have hv : (if y < x then y else x).toInt = if b < a then b else a := by
    by_cases h : y < x
    · rw [if_pos h, if_pos (by rw [Int32.lt_iff_toInt_lt] at h; omega)]; exact hy
    · rw [if_neg h, if_neg (by rw [Int32.lt_iff_toInt_lt] at h; omega)]; exact hx
  exact va_mmin C.1 C.2.1 hml C.2.2.2.1 (C.2.2.2.2.1 _ hl) (C.2.2.2.2.1 _ hw.1) (C.2.2.2.2.1 _ hw.2.1) (C.2.2.2.2.1 _ hw.2.2) hR.1 (by omega) hR.2.2.1 hR.2.2.2 hd (k ws ls _ H locs ⟨hs.1, hs.2.1, ⟨hv, q2⟩, hs.2.2.2⟩)
theorem k_max (C : Cx p c m s args meth G cy A own nm cc nL) {pc i : Nat} {a b : Int} {L : JL} {S : List JV} {M : JM} (hd : decode cc pc = .ok (.invokestatic i, 3)) (hl : Cond.methodLink own i Lib.Math.max.name ∈ gtbl) (hw : Cond.static Lib.Math.max.name ∈ gtbl ∧ Cond.initialized "java/lang/Math" ∈ gtbl ∧ Cond.code Lib.Math.max.name Lib.Math.max.code 2 (some .int) ∈ gtbl) (hlen : S.length ≤ 4) (hR : 1 ≤ R.frames ∧ 100 ≤ R.locals ∧ kc ≤ R.cells ∧ ks ≤ R.slots)
    (k : Jk p l e R s m args below meth c Q sh G cy bb ws0 A nL kc ks (pc + 3) L (.inl (if a < b then b else a) :: S) M) : Jk p l e R s m args below meth c Q sh G cy bb ws0 A nL kc ks pc L (.inl b :: .inl a :: S) M := by
  intro ws ls st H locs hs
  obtain ⟨v1, st1, rfl, g1, q1⟩ := hs.2.2.1.cons
  obtain ⟨v2, st2, rfl, g2, q2⟩ := q1.cons
  obtain ⟨y, rfl, hy⟩ := g1.int
  obtain ⟨x, rfl, hx⟩ := g2.int
  have hml : c.maxLocals = ls.size := by
    obtain ⟨_, lv, h1, _⟩ := hs.2.1
    rw [C.2.2.1, h1.1]
  have hsum := q2.sum
  have hv : (if x < y then y else x).toInt = if a < b then b else a := by
    by_cases h : x < y
    · rw [if_pos h, if_pos (by rw [Int32.lt_iff_toInt_lt] at h; omega)]; exact hy
    · rw [if_neg h, if_neg (by rw [Int32.lt_iff_toInt_lt] at h; omega)]; exact hx
  exact va_mmax C.1 C.2.1 hml C.2.2.2.1 (C.2.2.2.2.1 _ hl) (C.2.2.2.2.1 _ hw.1) (C.2.2.2.2.1 _ hw.2.1) (C.2.2.2.2.1 _ hw.2.2) hR.1 (by omega) hR.2.2.1 hR.2.2.2 hd (k ws ls _ H locs ⟨hs.1, hs.2.1, ⟨hv, q2⟩, hs.2.2.2⟩)
theorem i32_nn {x : Int32} {a : Int} (hx : x.toInt = a) (h0 : 0 ≤ a) : ¬ x < 0 ∧ x.toNatClampNeg = a.toNat := by
  refine ⟨?_, ?_⟩
  · rw [Int32.lt_iff_toInt_lt]
    simp
    omega
  · show x.toInt.toNat = a.toNat
    rw [hx]
theorem k_acp (C : Cx p c m s args meth G cy A own nm cc nL) {pc i c1 c2 n1 n2 kd : Nat} {n : Int} {L : JL} {S : List JV} {M : JM} (hd : decode cc pc = .ok (.invokestatic i, 3)) (hl : Cond.methodLink own i arraycopyName ∈ gtbl) (hw : Cond.native arraycopyName ∈ gtbl ∧ Cond.static arraycopyName ∈ gtbl ∧ Cond.initialized "java/lang/System" ∈ gtbl) (hkd : kd = 1 ∨ kd = 2) (h1 : sh[c1]? = some (.inr (.inl (kd, n1)))) (h2 : sh[c2]? = some (.inr (.inl (kd, n2)))) (h0 : 0 ≤ n) (hn1 : n ≤ n1) (hn2 : n ≤ n2) (hlen : S.length ≤ 4) (hR : 1 ≤ R.frames ∧ 100 ≤ R.locals) (M' : JM) (hM1 : kd = 1 → M' = (jcp M.1 c1 c2 n, M.2)) (hM2 : kd = 2 → M' = (M.1, jcp M.2 c1 c2 n))
    (kk : Jk p l e R s m args below meth c Q sh G cy bb ws0 A nL kc ks (pc + 3) L S M') : Jk p l e R s m args below meth c Q sh G cy bb ws0 A nL kc ks pc L (.inl n :: .inl 0 :: .inr (.inr (.inl c2)) :: .inl 0 :: .inr (.inr (.inl c1)) :: S) M := by
  intro ws ls st H locs hs
  obtain ⟨v1, st1, rfl, g1, q1⟩ := hs.2.2.1.cons
  obtain ⟨v2, st2, rfl, g2, q2⟩ := q1.cons
  obtain ⟨v3, st3, rfl, g3, q3⟩ := q2.cons
  obtain ⟨v4, st4, rfl, g4, q4⟩ := q3.cons
  obtain ⟨v5, st5, rfl, g5, q5⟩ := q4.cons
  obtain ⟨xn, rfl, hxn⟩ := g1.int
  obtain ⟨xd, rfl, hxd⟩ := g2.int
  obtain ⟨ad, ed, rfl, hed⟩ := g3.ref
  obtain ⟨xs, rfl, hxs⟩ := g4.int
  obtain ⟨as, es, rfl, hes⟩ := g5.ref
  obtain ⟨n3, n4⟩ := i32_nn hxn h0
  obtain ⟨d3, d4⟩ := i32_nn hxd (Int.le_refl 0)
  obtain ⟨s3, s4⟩ := i32_nn hxs (Int.le_refl 0)
  have hml : c.maxLocals = ls.size := by
    obtain ⟨_, lv, h1, _⟩ := hs.2.1
    rw [C.2.2.1, h1.1]
  have hsum := q5.sum
  have hnf : nativeFrameWords "java/lang/System" "arraycopy" 5 ≤ 60 := by decide
  have hlo : (st5.map fun v => v.category).sum + (nativeFrameWords "java/lang/System" "arraycopy" 5 + 11) ≤ R.locals := by omega
  rcases hkd with rfl | rfl
  · obtain rfl := hM1 rfl
    rcases j_at hs.1 hes h1 with ⟨_, f1, rfl, hff1⟩ | ⟨h9, _⟩
    · rcases j_at hs.1 hed h2 with ⟨_, f2, rfl, hff2⟩ | ⟨h9, _⟩
      · refine va_copyi (D := G) C.1 C.2.1 hml C.2.2.2.1 (C.2.2.2.2.1 _ hl) (C.2.2.2.2.1 _ hw.1) (C.2.2.2.2.1 _ hw.2.1) (C.2.2.2.2.1 _ hw.2.2) C.2.2.2.2.2.1.1 hs.2.2.2.1 hs.2.2.2.2.1 hs.2.2.2.2.2.1 c1 c2 1 1 hes hed rfl rfl rfl s3 d3 n3 (by rw [s4, n4]; omega) (by rw [d4, n4]; omega) (fun _ _ => rfl) hR.1 hlo hd (fun H1 locs1 hP hD hS => ?_)
        rw [s4, d4, n4] at hP hD
        have hsub : sub_ ws (ws.set c2 (ad, .inl (cy 1, (n2, .inl (va_cpy f1 f2 (0 : Int).toNat (0 : Int).toNat n.toNat))))) := sub_.set hed
        refine kk _ ls st5 H1 locs1 ⟨hs.1.set hed h2 (fun c' k' h => if_neg h) (fun c' k' h => rfl) (Or.inl ⟨Or.inr (Or.inl rfl), _, rfl, fun j hj => ?_⟩), hs.2.1.mono hsub, q5.mono hsub, hP, hD, hS, hs.2.2.2.2.2.2.tr hsub⟩
        show (va_cpy f1 f2 0 0 n.toNat j).toInt = if c2 = c2 then (if (j : Int) < n then M.1 c1 j else M.1 c2 j) else M.1 c2 j
        rw [if_pos rfl]
        by_cases hjn : (j : Int) < n
        · rw [if_pos hjn, pk_cpy_in (Nat.zero_le _) (by omega)]
          simpa using hff1 j (by omega)
        · rw [if_neg hjn, pk_cpy_out (by omega)]
          exact hff2 j hj
      · omega
    · omega
  · obtain rfl := hM2 rfl
    rcases j_at hs.1 hes h1 with ⟨h9, _⟩ | ⟨_, f1, rfl, hff1⟩
    · omega
    · rcases j_at hs.1 hed h2 with ⟨h9, _⟩ | ⟨_, f2, rfl, hff2⟩
      · omega
      · refine va_copyl (D := G) C.1 C.2.1 hml C.2.2.2.1 (C.2.2.2.2.1 _ hl) (C.2.2.2.2.1 _ hw.1) (C.2.2.2.2.1 _ hw.2.1) (C.2.2.2.2.1 _ hw.2.2) C.2.2.2.2.2.1.1 hs.2.2.2.1 hs.2.2.2.2.1 hs.2.2.2.2.2.1 c1 c2 2 2 hes hed rfl rfl rfl s3 d3 n3 (by rw [s4, n4]; omega) (by rw [d4, n4]; omega) (fun _ _ => rfl) hR.1 hlo hd (fun H1 locs1 hP hD hS => ?_)
        rw [s4, d4, n4] at hP hD
        have hsub : sub_ ws (ws.set c2 (ad, .inl (cy 2, (n2, .inr (.inl (va_cpy f1 f2 (0 : Int).toNat (0 : Int).toNat n.toNat)))))) := sub_.set hed
        refine kk _ ls st5 H1 locs1 ⟨hs.1.set hed h2 (fun c' k' h => rfl) (fun c' k' h => if_neg h) (Or.inr ⟨rfl, _, rfl, fun j hj => ?_⟩), hs.2.1.mono hsub, q5.mono hsub, hP, hD, hS, hs.2.2.2.2.2.2.tr hsub⟩
        show va_cpy f1 f2 0 0 n.toNat j = if c2 = c2 then (if (j : Int) < n then M.2 c1 j else M.2 c2 j) else M.2 c2 j
        rw [if_pos rfl]
        by_cases hjn : (j : Int) < n
        · rw [if_pos hjn, pk_cpy_in (Nat.zero_le _) (by omega)]
          simpa using hff1 j (by omega)
        · rw [if_neg hjn, pk_cpy_out (by omega)]
          exact hff2 j hj
def jSc (s : State) (bb : Nat → Nat) (A : Nat → Prop) (sc : Option (Nat × (Nat → Int))) : Prop := ∀ n f, sc = some (n, f) → ∃ xs : Nat → Int32, va_X (bb 0) n xs s s.heap ∧ bb 0 < s.heap.size ∧ ¬ A (bb 0) ∧ n < 2147483648 ∧ ∀ j, j < n → (xs j).toInt = f j
/-- rows of the class's texts -/
def jTx (p : Program) (l : Launch) (e : Env) (R : Room) (s : State) (m : MethodId) (args : Array Value) (below : List Frame) (meth : Method) (c : Code) (Q : State → Prop) (sh : List JS) (G : va_G) (cy : Nat → ClassId) (bb : Nat → Nat) (ws0 : va_W) (A : Nat → Prop) (nL kc ks : Nat) (own : String) (cc : ByteArray) : Prop :=
  (∀ (pc i k : Nat) (t : List Int) (L : JL) (S : List JV) (M : JM), decode cc pc = .ok (.invokevirtual i, 3) → Cond.methodLink own i ⟨"java/lang/String", "length", "()I"⟩ ∈ gtbl → S.length ≤ 4 → 0 < k → jtx[k]? = some t → Jk p l e R s m args below meth c Q sh G cy bb ws0 A nL kc ks (pc + 3) L (.inl (t.length : Int) :: S) M → Jk p l e R s m args below meth c Q sh G cy bb ws0 A nL kc ks pc L (.inr (.inr (.inr k)) :: S) M) ∧
  (∀ (pc i k : Nat) (t : List Int) (a : Int) (L : JL) (S : List JV) (M : JM), decode cc pc = .ok (.invokevirtual i, 3) → Cond.methodLink own i ⟨"java/lang/String", "charAt", "(I)C"⟩ ∈ gtbl → S.length ≤ 4 → 0 < k → jtx[k]? = some t → 0 ≤ a → a < t.length → Jk p l e R s m args below meth c Q sh G cy bb ws0 A nL kc ks (pc + 3) L (.inl (t.getD a.toNat 0) :: S) M → Jk p l e R s m args below meth c Q sh G cy bb ws0 A nL kc ks pc L (.inl a :: .inr (.inr (.inr k)) :: S) M) ∧
  (∀ (pc i k : Nat) (L : JL) (S : List JV) (M : JM), decode cc pc = .ok (.ldc_w i, 3) → own = "MerryDuchy" → 0 < k → k < 4 → jtI[k]? = some i → Jk p l e R s m args below meth c Q sh G cy bb ws0 A nL kc ks (pc + 3) L (.inr (.inr (.inr k)) :: S) M → Jk p l e R s m args below meth c Q sh G cy bb ws0 A nL kc ks pc L S M)
/-- what an instruction's numbers say -/
def jIv (P : Nat → Option MR) (own : String) (i x y : Nat) : Prop := (x = 5 → Cond.methodLink own i Lib.Math.min.name ∈ gtbl) ∧ (x = 6 → Cond.methodLink own i arraycopyName ∈ gtbl) ∧ (x = 8 → Cond.methodLink own i Lib.Math.max.name ∈ gtbl) ∧ (x = 11 → Cond.methodLink own i ⟨"java/lang/String", "length", "()I"⟩ ∈ gtbl) ∧ (x = 12 → Cond.methodLink own i ⟨"java/lang/String", "charAt", "(I)C"⟩ ∈ gtbl) ∧
  (x < 5 → ∃ mr, P y = some mr ∧ lnk own i x mr.1 mr.2.2.2.2.1 mr.2.2.2.2.2.1)
def jLk (P : Nat → Option MR) (own nm : String) (ins : Instr) (x y z : Nat) : Prop := match ins with
  | .getfield i => ∃ (C' : String) (T : u_T) (N : Nat), vwCl[x]? = some (C', T, N) ∧ y < N ∧ Cond.fieldLink own i (T y).1 (T y).2.1 (T y).2.2.1 ∈ gtbl
  | .putfield i => ∃ (C' : String) (T : u_T) (N : Nat) (ty : FieldType), vwCl[x]? = some (C', T, N) ∧ y < N ∧ Cond.fieldLink own i (T y).1 (T y).2.1 (T y).2.2.1 ∈ gtbl ∧ parseFieldDescriptor (T y).2.2.1 = some ty ∧ tcd z ty ∧ ((T y).2.2.2 = false ∨ ((T y).2.2.2 = true ∧ nm = "<init>" ∧ (T y).1 = own))
  | .ldc_w i => (z < 2 → ∃ v : Int32, Cond.constant own i v ∈ gtbl ∧ v.toInt = if z = 0 then (x : Int) else -(x : Int)) ∧ (z = 2 → own = "MerryDuchy" ∧ jtI[x]? = some i)
  | .ldc2_w i => Cond.constantLong own i (Int64.ofNat x) ∈ gtbl
  | .ldc i => ∃ v : Int32, Cond.constant own i v ∈ gtbl ∧ v.toInt = if z = 0 then (x : Int) else -(x : Int)
  | .invokevirtual i => jIv P own i x y
  | .invokestatic i => jIv P own i x y
  | _ => True
def jOT (P : Nat → Option MR) (own nm : String) (cc : ByteArray) (t : TB) : Prop := ∀ (pc : Nat) (ins : Instr) (len x y z : Nat), pg t pc = some (some (ins, (len, (x, (y, z))))) → decode cc pc = .ok (ins, len) ∧ jLk P own nm ins x y z
end JJ
