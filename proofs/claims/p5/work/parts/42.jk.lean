/-! The walk of one instruction over plain numbers. -/
section JK
variable {p : Program} {l : Launch} {e : Env} {R : Room} {s : State} {m : MethodId} {args : Array Value} {below : List Frame} {meth : Method} {c : Code} {Q : State → Prop}
variable {sh : List JS} {G : va_G} {cy : Nat → ClassId} {bb : Nat → Nat} {ws0 : va_W} {A : Nat → Prop} {own nm : String} {cc : ByteArray} {nL kc ks : Nat}
def JSim (sh : List JS) (G : va_G) (cy : Nat → ClassId) (bb : Nat → Nat) (ws0 : va_W) (A : Nat → Prop) (H0 : Heap) (nL : Nat) (ws : va_W) (L : JL) (S : List JV) (M : JM) (ls : Array Slot) (st : List Value) (H : Heap) (locs : List Loc) : Prop :=
  jH sh cy ws M ∧ jLc bb ws nL L ls ∧ jQ bb ws S st ∧ va_P G vwCl ws H ∧ va_D A ws ∧ va_S A H0 H locs ∧ sub_ ws0 ws
def Jk (p : Program) (l : Launch) (e : Env) (R : Room) (s : State) (m : MethodId) (args : Array Value) (below : List Frame) (meth : Method) (c : Code) (Q : State → Prop) (sh : List JS) (G : va_G) (cy : Nat → ClassId) (bb : Nat → Nat) (ws0 : va_W) (A : Nat → Prop) (nL kc ks pc : Nat) (L : JL) (S : List JV) (M : JM) : Prop :=
  ∀ (ws : va_W) (ls : Array Slot) (st : List Value) (H : Heap) (locs : List Loc), JSim sh G cy bb ws0 A s.heap nL ws L S M ls st H locs → W p l e R s m args below meth c H locs kc ks Q (F0 m pc ls st)
theorem jop_ok {f : Int32 → Int32 → Int32} {a b : Int} {x y : Int32} (hx : x.toInt = a) (hy : y.toInt = b) : (f x y).toInt = (f (Int32.ofInt a) (Int32.ofInt b)).toInt := by rw [← hx, ← hy, Int32.ofInt_toInt, Int32.ofInt_toInt]
theorem k_push (C : Cx p c m s args meth G cy A own nm cc nL) {ins : Instr} {len pc : Nat} {v : Int} {L : JL} {S : List JV} {M : JM} (hd : decode cc pc = .ok (ins, len)) (hv : jpu ins len = some v)
    (k : Jk p l e R s m args below meth c Q sh G cy bb ws0 A nL kc ks (pc + len) L (.inl v :: S) M) : Jk p l e R s m args below meth c Q sh G cy bb ws0 A nL kc ks pc L S M := by
  intro ws ls st H locs hs
  have kk : ∀ x : Int32, x.toInt = v → W p l e R s m args below meth c H locs kc ks Q (F0 m (pc + len) ls (.int x :: st)) := fun x hx => k ws ls _ H locs ⟨hs.1, hs.2.1, ⟨hx, hs.2.2.1⟩, hs.2.2.2⟩
  unfold jpu at hv
  split at hv
  · split at hv
    · rename_i n hl
      subst hl
      exact lv_iconst C.1 C.2.1 hd rfl (kk _ (Option.some.inj hv))
    · cases hv
  · split at hv
    · rename_i n hl
      subst hl
      exact lv_bipush C.1 C.2.1 hd rfl (kk _ (Option.some.inj hv))
    · cases hv
  · split at hv
    · rename_i n hl
      subst hl
      exact lv_sipush C.1 C.2.1 hd rfl (kk _ (Option.some.inj hv))
    · cases hv
  · cases hv
theorem k_load (C : Cx p c m s args meth G cy A own nm cc nL) {ins : Instr} {k len so pc : Nat} {a : JV} {L : JL} {S : List JV} {M : JM} (hd : decode cc pc = .ok (ins, len)) (hi : jld_ ins = some (k, (len, so))) (ha : L[k]? = some (some a)) (hs : srt a = so)
    (kk : Jk p l e R s m args below meth c Q sh G cy bb ws0 A nL kc ks (pc + len) L (a :: S) M) : Jk p l e R s m args below meth c Q sh G cy bb ws0 A nL kc ks pc L S M := by
  intro ws ls st H locs h
  obtain ⟨v, g1, g2⟩ := h.2.1.get ha
  have k1 : W p l e R s m args below meth c H locs kc ks Q (F0 m (pc + len) ls (v :: st)) := kk ws ls _ H locs ⟨h.1, h.2.1, ⟨g2, h.2.2.1⟩, h.2.2.2⟩
  unfold jld_ at hi
  split at hi <;> simp only [Option.some.injEq, Prod.mk.injEq, reduceCtorEq] at hi <;> obtain ⟨rfl, rfl, rfl⟩ := hi
  · rcases a with z9 | x9 | c9 <;> simp [srt] at hs
    obtain ⟨x, rfl, _⟩ := g2.int
    exact lv_iload_n C.1 C.2.1 hd rfl g1 k1
  · rcases a with z9 | x9 | c9 <;> simp [srt] at hs
    obtain ⟨x, rfl, _⟩ := g2.int
    exact lv_iload C.1 C.2.1 hd g1 k1
  · rcases a with z9 | x9 | c9 <;> simp [srt] at hs
    obtain rfl := g2.long
    exact lv_lload_n C.1 C.2.1 hd rfl g1 k1
  · rcases a with z9 | x9 | c9 <;> simp [srt] at hs
    obtain rfl := g2.long
    exact lv_lload C.1 C.2.1 hd g1 k1
  · rcases a with z9 | x9 | c9 | k9 <;> simp [srt] at hs
    · obtain ⟨q, e', rfl, _⟩ := g2.ref
      exact lv_aload_n C.1 C.2.1 hd rfl g1 k1
    · obtain rfl := g2.bas
      exact lv_aload_n C.1 C.2.1 hd rfl g1 k1
  · rcases a with z9 | x9 | c9 | k9 <;> simp [srt] at hs
    · obtain ⟨q, e', rfl, _⟩ := g2.ref
      exact lv_aload C.1 C.2.1 hd g1 k1
    · obtain rfl := g2.bas
      exact lv_aload C.1 C.2.1 hd g1 k1
theorem k_stor (C : Cx p c m s args meth G cy A own nm cc nL) {ins : Instr} {k len so pc : Nat} {a : JV} {L : JL} {S : List JV} {M : JM} (hd : decode cc pc = .ok (ins, len)) (hi : jst_ ins = some (k, (len, so))) (hs : srt a = so) (hk : k + so % 2 < L.length)
    (kk : Jk p l e R s m args below meth c Q sh G cy bb ws0 A nL kc ks (pc + len) (jst L k a) S M) : Jk p l e R s m args below meth c Q sh G cy bb ws0 A nL kc ks pc L (a :: S) M := by
  intro ws ls st H locs h
  obtain ⟨v, st1, rfl, g1, g2⟩ := h.2.2.1.cons
  obtain ⟨h0, lv, h1, h2⟩ := h.2.1
  have k1 : ∀ ls' : Array Slot, lv_has ls' nL ((k, v) :: lv.filter (fun q => !(q.1 == k) && !(q.1 + 1 == k && q.2.category == 2))) → W p l e R s m args below meth c H locs kc ks Q (F0 m (pc + len) ls' st1) := fun ls' hl' => kk ws ls' st1 H locs ⟨h.1, jLc.set1 h0 h2 g1 hl', g2, h.2.2.2⟩
  unfold jst_ at hi
  split at hi <;> simp only [Option.some.injEq, Prod.mk.injEq, reduceCtorEq] at hi <;> obtain ⟨rfl, rfl, rfl⟩ := hi
  · rcases a with z9 | x9 | c9 <;> simp [srt] at hs
    obtain ⟨x, rfl, _⟩ := g1.int
    exact lv_istore_n C.1 C.2.1 hd rfl h1 (by omega) rfl k1
  · rcases a with z9 | x9 | c9 <;> simp [srt] at hs
    obtain ⟨x, rfl, _⟩ := g1.int
    exact lv_istore C.1 C.2.1 hd h1 (by omega) rfl k1
  · rcases a with z9 | x9 | c9 <;> simp [srt] at hs
    obtain rfl := g1.long
    exact lv_lstore_n C.1 C.2.1 hd rfl h1 (by omega) rfl (fun ls' hl' => kk ws ls' st1 H locs ⟨h.1, jLc.set2 h0 h2 hl', g2, h.2.2.2⟩)
  · rcases a with z9 | x9 | c9 <;> simp [srt] at hs
    obtain rfl := g1.long
    exact lv_lstore C.1 C.2.1 hd h1 (by omega) rfl (fun ls' hl' => kk ws ls' st1 H locs ⟨h.1, jLc.set2 h0 h2 hl', g2, h.2.2.2⟩)
  · rcases a with z9 | x9 | c9 | k9 <;> simp [srt] at hs
    · obtain ⟨q, e', rfl, _⟩ := g1.ref
      exact lv_astore_n C.1 C.2.1 hd rfl h1 (by omega) rfl k1
    · obtain rfl := g1.bas
      exact lv_astore_n C.1 C.2.1 hd rfl h1 (by omega) rfl k1
  · rcases a with z9 | x9 | c9 | k9 <;> simp [srt] at hs
    · obtain ⟨q, e', rfl, _⟩ := g1.ref
      exact lv_astore C.1 C.2.1 hd h1 (by omega) rfl k1
    · obtain rfl := g1.bas
      exact lv_astore C.1 C.2.1 hd h1 (by omega) rfl k1
theorem k_iinc (C : Cx p c m s args meth G cy A own nm cc nL) {k pc : Nat} {n a : Int} {L : JL} {S : List JV} {M : JM} (hd : decode cc pc = .ok (.iinc k n, 3)) (ha : L[k]? = some (some (.inl a)))
    (kk : Jk p l e R s m args below meth c Q sh G cy bb ws0 A nL kc ks (pc + 3) (jst L k (.inl (Int32.ofInt a + Int32.ofInt n).toInt)) S M) : Jk p l e R s m args below meth c Q sh G cy bb ws0 A nL kc ks pc L S M := by
  intro ws ls st H locs h
  obtain ⟨h0, lv, h1, h2⟩ := h.2.1
  obtain ⟨v, g1, g2⟩ := h2 k _ ha
  obtain ⟨x, rfl, hx⟩ := g2.int
  obtain ⟨j, hj⟩ := List.getElem?_of_mem g1
  have hlt : k < L.length := (List.getElem?_eq_some_iff.mp ha).1
  exact lv_iinc C.1 C.2.1 hd h1 hj rfl (by omega) rfl (fun ls' hl' => kk ws ls' st H locs ⟨h.1, jLc.set1 (x := .int (x + Int32.ofInt n)) h0 h2 (by show _ = _; rw [← hx, Int32.ofInt_toInt]) hl', h.2.2⟩)
theorem k_iop (C : Cx p c m s args meth G cy A own nm cc nL) {ins : Instr} {f : Int32 → Int32 → Int32} {pc : Nat} {a b : Int} {L : JL} {S : List JV} {M : JM} (hd : decode cc pc = .ok (ins, 1)) (hf : jop ins = some f)
    (k : Jk p l e R s m args below meth c Q sh G cy bb ws0 A nL kc ks (pc + 1) L (.inl (f (Int32.ofInt a) (Int32.ofInt b)).toInt :: S) M) : Jk p l e R s m args below meth c Q sh G cy bb ws0 A nL kc ks pc L (.inl b :: .inl a :: S) M := by
  intro ws ls st H locs hs
  obtain ⟨v1, st1, rfl, g1, g2⟩ := hs.2.2.1.cons
  obtain ⟨v2, st2, rfl, g3, g4⟩ := g2.cons
  obtain ⟨y, rfl, hy⟩ := g1.int
  obtain ⟨x, rfl, hx⟩ := g3.int
  have kk : W p l e R s m args below meth c H locs kc ks Q (F0 m (pc + 1) ls (.int (f x y) :: st2)) := k ws ls _ H locs ⟨hs.1, hs.2.1, ⟨jop_ok hx hy, g4⟩, hs.2.2.2⟩
  unfold jop at hf
  split at hf <;> simp only [Option.some.injEq, reduceCtorEq] at hf <;> subst hf
  · exact lv_iadd C.1 C.2.1 hd kk
  · exact lv_isub C.1 C.2.1 hd kk
  · exact lv_imul C.1 C.2.1 hd kk
  · exact lv_iand C.1 C.2.1 hd kk
  · exact lv_ior C.1 C.2.1 hd kk
  · exact lv_ixor C.1 C.2.1 hd kk
  · exact lv_ishl C.1 C.2.1 hd kk
  · exact lv_ishr C.1 C.2.1 hd kk
  · exact lv_iushr C.1 C.2.1 hd rfl kk
theorem k_idv (C : Cx p c m s args meth G cy A own nm cc nL) {ins : Instr} {f : Int32 → Int32 → Int32} {pc : Nat} {a b : Int} {L : JL} {S : List JV} {M : JM} (hd : decode cc pc = .ok (ins, 1)) (hf : jod ins = some f) (hb : b ≠ 0)
    (k : Jk p l e R s m args below meth c Q sh G cy bb ws0 A nL kc ks (pc + 1) L (.inl (f (Int32.ofInt a) (Int32.ofInt b)).toInt :: S) M) : Jk p l e R s m args below meth c Q sh G cy bb ws0 A nL kc ks pc L (.inl b :: .inl a :: S) M := by
  intro ws ls st H locs hs
  obtain ⟨v1, st1, rfl, g1, g2⟩ := hs.2.2.1.cons
  obtain ⟨v2, st2, rfl, g3, g4⟩ := g2.cons
  obtain ⟨y, rfl, hy⟩ := g1.int
  obtain ⟨x, rfl, hx⟩ := g3.int
  have hy0 : ¬ y = 0 := fun h => hb (by rw [← hy, h]; rfl)
  have kk : W p l e R s m args below meth c H locs kc ks Q (F0 m (pc + 1) ls (.int (f x y) :: st2)) := k ws ls _ H locs ⟨hs.1, hs.2.1, ⟨jop_ok hx hy, g4⟩, hs.2.2.2⟩
  unfold jod at hf
  split at hf <;> simp only [Option.some.injEq, reduceCtorEq] at hf <;> subst hf
  · exact lv_idiv C.1 C.2.1 hd hy0 kk
  · exact lv_irem C.1 C.2.1 hd hy0 kk
theorem k_lop (C : Cx p c m s args meth G cy A own nm cc nL) {ins : Instr} {f : Int64 → Int64 → Int64} {pc : Nat} {a b : Int64} {L : JL} {S : List JV} {M : JM} (hd : decode cc pc = .ok (ins, 1)) (hf : jlo ins = some f ∨ (jld ins = some f ∧ b ≠ 0))
    (k : Jk p l e R s m args below meth c Q sh G cy bb ws0 A nL kc ks (pc + 1) L (.inr (.inl (f a b)) :: S) M) : Jk p l e R s m args below meth c Q sh G cy bb ws0 A nL kc ks pc L (.inr (.inl b) :: .inr (.inl a) :: S) M := by
  intro ws ls st H locs hs
  obtain ⟨v1, st1, rfl, g1, g2⟩ := hs.2.2.1.cons
  obtain ⟨v2, st2, rfl, g3, g4⟩ := g2.cons
  obtain rfl := g1.long
  obtain rfl := g3.long
  have kk : W p l e R s m args below meth c H locs kc ks Q (F0 m (pc + 1) ls (.long (f a b) :: st2)) := k ws ls _ H locs ⟨hs.1, hs.2.1, ⟨rfl, g4⟩, hs.2.2.2⟩
  rcases hf with hf | ⟨hf, hb⟩
  · unfold jlo at hf
    split at hf <;> simp only [Option.some.injEq, reduceCtorEq] at hf <;> subst hf
    · exact lv_ladd C.1 C.2.1 hd kk
    · exact lv_lsub C.1 C.2.1 hd kk
    · exact lv_lmul C.1 C.2.1 hd kk
    · exact lv_lor C.1 C.2.1 hd kk
  · unfold jld at hf
    split at hf <;> simp only [Option.some.injEq, reduceCtorEq] at hf <;> subst hf
    · exact lv_ldiv C.1 C.2.1 hd hb kk
    · exact lv_lrem C.1 C.2.1 hd hb kk
theorem k_lsh (C : Cx p c m s args meth G cy A own nm cc nL) {ins : Instr} {f : Int64 → Int32 → Int64} {pc : Nat} {a : Int64} {b : Int} {L : JL} {S : List JV} {M : JM} (hd : decode cc pc = .ok (ins, 1)) (hf : jlh ins = some f)
    (k : Jk p l e R s m args below meth c Q sh G cy bb ws0 A nL kc ks (pc + 1) L (.inr (.inl (f a (Int32.ofInt b))) :: S) M) : Jk p l e R s m args below meth c Q sh G cy bb ws0 A nL kc ks pc L (.inl b :: .inr (.inl a) :: S) M := by
  intro ws ls st H locs hs
  obtain ⟨v1, st1, rfl, g1, g2⟩ := hs.2.2.1.cons
  obtain ⟨v2, st2, rfl, g3, g4⟩ := g2.cons
  obtain ⟨y, rfl, hy⟩ := g1.int
  obtain rfl := g3.long
  have kk : W p l e R s m args below meth c H locs kc ks Q (F0 m (pc + 1) ls (.long (f a y) :: st2)) := k ws ls _ H locs ⟨hs.1, hs.2.1, ⟨by show _ = _; rw [← hy, Int32.ofInt_toInt], g4⟩, hs.2.2.2⟩
  unfold jlh at hf
  split at hf <;> simp only [Option.some.injEq, reduceCtorEq] at hf <;> subst hf
  · exact lv_lshl C.1 C.2.1 hd rfl kk
  · exact lv_lushr C.1 C.2.1 hd rfl kk
theorem k_un1 (C : Cx p c m s args meth G cy A own nm cc nL) {ins : Instr} {f : Int32 → Int32} {pc : Nat} {a : Int} {L : JL} {S : List JV} {M : JM} (hd : decode cc pc = .ok (ins, 1)) (hf : ju1 ins = some f)
    (k : Jk p l e R s m args below meth c Q sh G cy bb ws0 A nL kc ks (pc + 1) L (.inl (f (Int32.ofInt a)).toInt :: S) M) : Jk p l e R s m args below meth c Q sh G cy bb ws0 A nL kc ks pc L (.inl a :: S) M := by
  intro ws ls st H locs hs
  obtain ⟨v1, st1, rfl, g1, g2⟩ := hs.2.2.1.cons
  obtain ⟨y, rfl, hy⟩ := g1.int
  have kk : W p l e R s m args below meth c H locs kc ks Q (F0 m (pc + 1) ls (.int (f y) :: st1)) := k ws ls _ H locs ⟨hs.1, hs.2.1, ⟨by show _ = _; rw [← hy, Int32.ofInt_toInt], g2⟩, hs.2.2.2⟩
  unfold ju1 at hf
  split at hf <;> simp only [Option.some.injEq, reduceCtorEq] at hf <;> subst hf
  · exact lv_i2b C.1 C.2.1 hd rfl kk
  · exact lv_i2c C.1 C.2.1 hd rfl kk
theorem jcm_ok {cd : ClassFile.Cond} {a b : Int} {x y : Int32} (hx : x.toInt = a) (hy : y.toInt = b) : (match cd with
  | .eq => x = y
  | .ne => ¬ x = y
  | .lt => x < y
  | .ge => y ≤ x
  | .gt => y < x
  | .le => x ≤ y) ↔ jcm cd a b = true := by
  subst hx
  subst hy
  cases cd <;> simp only [jcm, decide_eq_true_eq, Bool.not_eq_true', decide_eq_false_iff_not]
  · exact Int32.toInt_inj.symm
  · rw [Int32.toInt_inj]
  · exact Int32.lt_iff_toInt_lt
  · exact Int32.le_iff_toInt_le
  · exact Int32.lt_iff_toInt_lt
  · exact Int32.le_iff_toInt_le
theorem k_icmp (C : Cx p c m s args meth G cy A own nm cc nL) {cd : ClassFile.Cond} {o a b : Int} {pc t pc2 : Nat} {L : JL} {S : List JV} {M : JM} (hd : decode cc pc = .ok (.if_icmp cd o, 3)) (ht : (pc : Int) + o = (t : Int)) (h : (jcm cd a b = true ∧ pc2 = t) ∨ (jcm cd a b = false ∧ pc2 = pc + 3))
    (k : Jk p l e R s m args below meth c Q sh G cy bb ws0 A nL kc ks pc2 L S M) : Jk p l e R s m args below meth c Q sh G cy bb ws0 A nL kc ks pc L (.inl b :: .inl a :: S) M := by
  intro ws ls st H locs hs
  obtain ⟨v1, st1, rfl, g1, g2⟩ := hs.2.2.1.cons
  obtain ⟨v2, st2, rfl, g3, g4⟩ := g2.cons
  obtain ⟨y, rfl, hy⟩ := g1.int
  obtain ⟨x, rfl, hx⟩ := g3.int
  have kk : W p l e R s m args below meth c H locs kc ks Q (F0 m pc2 ls st2) := k ws ls st2 H locs ⟨hs.1, hs.2.1, g4, hs.2.2.2⟩
  have ok := jcm_ok (cd := cd) hx hy
  have k1 : jcm cd a b = true → W p l e R s m args below meth c H locs kc ks Q (F0 m t ls st2) := by
    intro h1
    rcases h with ⟨_, rfl⟩ | ⟨h2, _⟩
    · exact kk
    · rw [h1] at h2; cases h2
  have k2 : ¬ jcm cd a b = true → W p l e R s m args below meth c H locs kc ks Q (F0 m (pc + 3) ls st2) := by
    intro h1
    rcases h with ⟨h2, _⟩ | ⟨_, rfl⟩
    · exact absurd h2 h1
    · exact kk
  cases cd with
  | eq => exact lv_icmp_eq C.1 C.2.1 hd ht (fun h1 => k1 (ok.mp h1)) (fun h1 => k2 (fun h2 => h1 (ok.mpr h2)))
  | ne => exact lv_icmp_ne C.1 C.2.1 hd ht (fun h1 => k1 (ok.mp h1)) (fun h1 => k2 (fun h2 => ok.mpr h2 h1))
  | lt => exact lv_icmp_lt C.1 C.2.1 hd ht (fun h1 => k1 (ok.mp h1)) (fun h1 => k2 (fun h2 => h1 (ok.mpr h2)))
  | ge => exact lv_icmp_ge C.1 C.2.1 hd ht (fun h1 => k1 (ok.mp h1)) (fun h1 => k2 (fun h2 => h1 (ok.mpr h2)))
  | gt => exact lv_icmp_gt C.1 C.2.1 hd ht (fun h1 => k1 (ok.mp h1)) (fun h1 => k2 (fun h2 => h1 (ok.mpr h2)))
  | le => exact lv_icmp_le C.1 C.2.1 hd ht (fun h1 => k1 (ok.mp h1)) (fun h1 => k2 (fun h2 => h1 (ok.mpr h2)))
theorem k_ifc (C : Cx p c m s args meth G cy A own nm cc nL) {cd : ClassFile.Cond} {o a : Int} {pc t pc2 : Nat} {L : JL} {S : List JV} {M : JM} (hd : decode cc pc = .ok (.ifCond cd o, 3)) (ht : (pc : Int) + o = (t : Int)) (h : (jcm cd a 0 = true ∧ pc2 = t) ∨ (jcm cd a 0 = false ∧ pc2 = pc + 3))
    (k : Jk p l e R s m args below meth c Q sh G cy bb ws0 A nL kc ks pc2 L S M) : Jk p l e R s m args below meth c Q sh G cy bb ws0 A nL kc ks pc L (.inl a :: S) M := by
  intro ws ls st H locs hs
  obtain ⟨v1, st1, rfl, g1, g2⟩ := hs.2.2.1.cons
  obtain ⟨x, rfl, hx⟩ := g1.int
  have kk : W p l e R s m args below meth c H locs kc ks Q (F0 m pc2 ls st1) := k ws ls st1 H locs ⟨hs.1, hs.2.1, g2, hs.2.2.2⟩
  have ok := jcm_ok (cd := cd) (y := 0) (b := 0) hx rfl
  have k1 : jcm cd a 0 = true → W p l e R s m args below meth c H locs kc ks Q (F0 m t ls st1) := by
    intro h1
    rcases h with ⟨_, rfl⟩ | ⟨h2, _⟩
    · exact kk
    · rw [h1] at h2; cases h2
  have k2 : ¬ jcm cd a 0 = true → W p l e R s m args below meth c H locs kc ks Q (F0 m (pc + 3) ls st1) := by
    intro h1
    rcases h with ⟨h2, _⟩ | ⟨_, rfl⟩
    · exact absurd h2 h1
    · exact kk
  cases cd with
  | eq => exact lv_if_eq C.1 C.2.1 hd ht (fun h1 => k1 (ok.mp h1)) (fun h1 => k2 (fun h2 => h1 (ok.mpr h2)))
  | ne => exact lv_if_ne C.1 C.2.1 hd ht (fun h1 => k1 (ok.mp h1)) (fun h1 => k2 (fun h2 => ok.mpr h2 h1))
  | lt => exact lv_if_lt C.1 C.2.1 hd ht (fun h1 => k1 (ok.mp h1)) (fun h1 => k2 (fun h2 => h1 (ok.mpr h2)))
  | ge => exact lv_if_ge C.1 C.2.1 hd ht (fun h1 => k1 (ok.mp h1)) (fun h1 => k2 (fun h2 => h1 (ok.mpr h2)))
  | gt => exact lv_if_gt C.1 C.2.1 hd ht (fun h1 => k1 (ok.mp h1)) (fun h1 => k2 (fun h2 => h1 (ok.mpr h2)))
  | le => exact lv_if_le C.1 C.2.1 hd ht (fun h1 => k1 (ok.mp h1)) (fun h1 => k2 (fun h2 => h1 (ok.mpr h2)))
end JK
