/-! The walk: a body, a call. -/
def okInv (P : Nat → Option MR) (own : String) (i x y : Nat) : Prop := (x = 5 → Cond.methodLink own i Lib.Math.min.name ∈ gtbl) ∧ (x = 6 → Cond.methodLink own i arraycopyName ∈ gtbl) ∧ (x = 7 → Cond.methodLink own i objectInit ∈ gtbl) ∧
  (x < 5 → ∃ mr, P y = some mr ∧ lnk own i x mr.1 mr.2.2.2.2.1 mr.2.2.2.2.2.1 ∧ ((x = 2 ∨ x = 4) → mr.2.2.2.1 = none))
def okL (P : Nat → Option MR) (own nm : String) (ins : Instr) (x y z : Nat) : Prop := match ins with
  | .getfield i => ∃ (C' : String) (T : u_T) (N : Nat), vwCl[x]? = some (C', T, N) ∧ y < N ∧ Cond.fieldLink own i (T y).1 (T y).2.1 (T y).2.2.1 ∈ gtbl
  | .putfield i => ∃ (C' : String) (T : u_T) (N : Nat) (ty : FieldType), vwCl[x]? = some (C', T, N) ∧ y < N ∧ Cond.fieldLink own i (T y).1 (T y).2.1 (T y).2.2.1 ∈ gtbl ∧ parseFieldDescriptor (T y).2.2.1 = some ty ∧ tcd z ty ∧ ((T y).2.2.2 = false ∨ ((T y).2.2.2 = true ∧ nm = "<init>" ∧ (T y).1 = own))
  | .new i => ∃ (C' : String) (T : u_T) (N : Nat), vwCl[x]? = some (C', T, N) ∧ Cond.classLink own i C' ∈ gtbl ∧ Cond.instantiable C' N ∈ gtbl ∧ Cond.initialized C' ∈ gtbl
  | .newarray t => Cond.arrayClass (Op.newarray.typeOf t) ∈ gtbl
  | .anewarray i => (x = 4 ∧ Cond.classLink own i "MerryDuchy$Duchy" ∈ gtbl) ∨ (x = 5 ∧ Cond.classLink own i "MerryDuchy$State" ∈ gtbl)
  | .invokevirtual i => okInv P own i x y
  | .invokestatic i => okInv P own i x y
  | .invokespecial i => okInv P own i x y
  | _ => True
def okT (P : Nat → Option MR) (own nm : String) (cc : ByteArray) (t : TB) : Prop := ∀ (pc : Nat) (ins : Instr) (len x y z : Nat), pg t pc = some (some (ins, (len, (x, (y, z))))) → decode cc pc = .ok (ins, len) ∧ okL P own nm ins x y z
def okM (P : Nat → Option MR) (mr : MR) : Prop := Cond.code mr.1 mr.2.1 mr.2.2.1 mr.2.2.2.1 ∈ gtbl ∧ mr.2.2.1 ≤ 80 ∧ plainName mr.1.cls = true ∧ okT P mr.1.cls mr.1.name mr.2.1 mr.2.2.2.2.2.2
theorem inj4 {a a' : Nat} {L L' : LO} {S S' : List AV} {h h' : AH} (hz : (some (Sum.inl (a, (L, (S, h)))) : Option NX) = some (.inl (a', (L', (S', h'))))) : a = a' ∧ L = L' ∧ S = S' ∧ h = h' := by
  simpa using hz
section RUN
variable {p : Program} {l : Launch} {e : Env} {R : Room} {s : State} {m : MethodId} {args : Array Value} {below : List Frame} {meth : Method} {c : Code} {Q : State → Prop}
variable {G : va_G} {cy : Nat → ClassId} {b : BB} {A : Nat → Prop} {own nm : String} {cc : ByteArray} {nL c0 s0 : Nat}
def okSc (s : State) (b : BB) (A : Nat → Prop) (sc : Option (Nat → AI)) : Prop := ∀ f, sc = some f → ∃ xs : Nat → Int32, va_X b.1 6 xs s s.heap ∧ b.1 < s.heap.size ∧ ¬ A b.1 ∧ ∀ j, j < 6 → (f j).1 ≤ (xs j).toInt ∧ (xs j).toInt ≤ (f j).2
theorem s_sld (C : Cx p c m s args meth G cy A own nm cc nL) {pc j : Nat} {L : LO} {S : List AV} {h : AH} {f : Nat → AI} {sc : Option (Nat → AI)} (hsc : okSc s b A sc) (hf : sc = some f) (hd : decode cc pc = .ok (.iaload, 1)) (hj : j < 6)
    (k : Wk p l e R s m args below meth c Q G cy b A nL c0 s0 (pc + 1) L (.inl (f j) :: S) h) : Wk p l e R s m args below meth c Q G cy b A nL c0 s0 pc L (.inl ((j : Int), (j : Int)) :: .inr (.inr (.inr 1)) :: S) h := by
  intro ws ls st H locs hs
  obtain ⟨v1, st0, rfl, g0, g00⟩ := hs.2.2.1.cons
  obtain ⟨x, rfl, hx⟩ := g0.int
  obtain ⟨w, st1, rfl, g1, g2⟩ := g00.cons
  obtain ⟨xs, hX, hbl, hbA, hin⟩ := hsc f hf
  rcases g1.ext with ⟨_, h1⟩ | ⟨rfl, _⟩
  · cases h1
  · refine va_sld C.1 C.2.1 hX hbl hbA hs.2.2.2.2.2 (vin_ok hx hj) hd ?_
    rw [(i32_nat hx).2]
    exact k ws ls _ H locs ⟨hs.1, hs.2.1, ⟨hin j hj, g2⟩, hs.2.2.2⟩
theorem s_slen (C : Cx p c m s args meth G cy A own nm cc nL) {pc : Nat} {L : LO} {S : List AV} {h : AH} {f : Nat → AI} {sc : Option (Nat → AI)} (hsc : okSc s b A sc) (hf : sc = some f) (hd : decode cc pc = .ok (.arraylength, 1))
    (k : Wk p l e R s m args below meth c Q G cy b A nL c0 s0 (pc + 1) L (.inl (6, 6) :: S) h) : Wk p l e R s m args below meth c Q G cy b A nL c0 s0 pc L (.inr (.inr (.inr 1)) :: S) h := by
  intro ws ls st H locs hs
  obtain ⟨w, st1, rfl, g1, g2⟩ := hs.2.2.1.cons
  obtain ⟨xs, hX, hbl, hbA, hin⟩ := hsc f hf
  rcases g1.ext with ⟨_, h1⟩ | ⟨rfl, _⟩
  · cases h1
  · exact va_slen C.1 C.2.1 hX hbl hbA hs.2.2.2.2.2 hd (k ws ls _ H locs ⟨hs.1, hs.2.1, ⟨⟨by decide, by decide⟩, g2⟩, hs.2.2.2⟩)
theorem ald_ok {sc : Option (Nat → AI)} {kd : Nat → Bool} {pc : Nat} {L : LO} {S : List AV} {h : AH} {z : NX} (hz : ald sc kd pc L S h = some z) :
    (∃ (a kk n j : Nat) (ch : List (List AV)) (v : AV) (r : List AV), S = .inl ((j : Int), (j : Int)) :: .inr (.inr (.inl a)) :: r ∧ hget h a = some (.inr (kk, (n, ch))) ∧ kd kk = true ∧ j < n ∧ pg ch j = some v ∧ z = .inl (pc + 1, (L, (v :: r, h)))) ∨
    (∃ (j : Nat) (f : Nat → AI) (r : List AV), sc = some f ∧ S = .inl ((j : Int), (j : Int)) :: .inr (.inr (.inr 1)) :: r ∧ kd 1 = true ∧ j < 6 ∧ z = .inl (pc + 1, (L, (.inl (f j) :: r, h)))) := by
  unfold ald at hz
  split at hz
  · rename_i i a r
    split at hz
    · rename_i kk n ch hg
      cases hk : kd kk with
      | false => simp [hk] at hz
      | true =>
        simp only [hk, cond_true] at hz
        obtain ⟨j, rfl, hj, hz⟩ := ix_ok hz
        split at hz
        · rename_i v hv
          rw [go_eq] at hz
          exact Or.inl ⟨a, kk, n, j, ch, v, r, rfl, hg, hk, hj, hv, (Option.some.inj hz).symm⟩
        · cases hz
    · cases hz
  · rename_i i r
    split at hz
    · rename_i f
      cases hk : kd 1 with
      | false => simp [hk] at hz
      | true =>
        simp only [hk, cond_true] at hz
        obtain ⟨j, rfl, hj, hz⟩ := ix_ok hz
        rw [go_eq] at hz
        exact Or.inr ⟨j, f, r, rfl, rfl, by first | rfl | exact hk, hj, (Option.some.inj hz).symm⟩
    · cases hz
  · cases hz
theorem ast_ok {h0 : AH} {ok : Nat → AV → Bool} {pc : Nat} {L : LO} {S : List AV} {h : AH} {z : NX} (hz : ast h0 ok pc L S h = some z) :
    ∃ (a kk n j : Nat) (ch : List (List AV)) (v : AV) (r : List AV), S = v :: .inl ((j : Int), (j : Int)) :: .inr (.inr (.inl a)) :: r ∧ hget h a = some (.inr (kk, (n, ch))) ∧ ok kk v = true ∧ j < n ∧ z = .inl (pc + 1, (L, (r, hset h a (.inr (kk, (n, ps ch j v)))))) := by
  unfold ast at hz
  split at hz
  · rename_i v i a r
    split at hz
    · rename_i kk n ch hg
      cases hk : ok kk v with
      | false => simp [hk] at hz
      | true =>
        simp only [hk, cond_true] at hz
        obtain ⟨j, rfl, hj, hz⟩ := ix_ok hz
        simp only [psK_eq, hsetK_eq, go_eq] at hz
        exact ⟨a, kk, n, j, ch, v, r, rfl, hg, hk, hj, (Option.some.inj hz).symm⟩
    · cases hz
  · cases hz
theorem acp_ok {pc : Nat} {L : LO} {S : List AV} {h : AH} {z : NX} (hz : acp pc L S h = some z) :
    ∃ (d s1 k n n1 n2 : Nat) (f g g' : List (List AV)) (r : List AV), S = .inl ((n : Int), (n : Int)) :: .inl (0, 0) :: .inr (.inr (.inl d)) :: .inl (0, 0) :: .inr (.inr (.inl s1)) :: r ∧ (k = 1 ∨ k = 2) ∧ hget h s1 = some (.inr (k, (n1, f))) ∧ hget h d = some (.inr (k, (n2, g))) ∧ n ≤ n1 ∧ n ≤ n2 ∧ cpy f g n = some g' ∧ r.length ≤ 4 ∧ z = .inl (pc + 3, (L, (r, hset h d (.inr (k, (n2, g')))))) := by
  unfold acp at hz
  split at hz
  · rename_i n dp d sp s1 r
    split at hz
    · rename_i k1 n1 f k2 n2 g h1 h2
      cases hk : ((Nat.beq k1 1 || Nat.beq k1 2) && (Nat.beq k1 k2 && (decide (dp = (0, 0)) && (decide (sp = (0, 0)) && Nat.ble r.length 4)))) with
      | false => rw [hk] at hz; cases hz
      | true =>
        simp only [hk, cond_true] at hz
        simp only [Bool.and_eq_true, Bool.or_eq_true, decide_eq_true_eq] at hk
        obtain ⟨hk1, hk2, rfl, rfl, hr⟩ := hk
        obtain rfl := Nat.eq_of_beq_eq_true hk2
        obtain ⟨m, rfl, hm, hz⟩ := ix_ok hz
        cases hm2 : Nat.ble m n2 with
        | false => simp [hm2] at hz
        | true =>
          simp only [hm2, cond_true, cpyK_eq] at hz
          cases hc : cpy f g m with
          | none => rw [hc] at hz; cases hz
          | some g' =>
            rw [hc] at hz
            simp only [Option.bind_some, hsetK_eq, go_eq] at hz
            exact ⟨d, s1, k1, m, n1, n2, f, g, g', r, rfl, hk1.imp Nat.eq_of_beq_eq_true Nat.eq_of_beq_eq_true, h1, h2, by omega, Nat.le_of_ble_eq_true hm2, hc, Nat.le_of_ble_eq_true hr, (Option.some.inj hz).symm⟩
    · cases hz
  · cases hz
end RUN
