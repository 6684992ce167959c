/-! More rows: numbers that are known, and bounds of those that aren't. -/
theorem jbv (x : Int32) : x.toInt = if 2 * x.toBitVec.toNat < 4294967296 then (x.toBitVec.toNat : Int) else (x.toBitVec.toNat : Int) - 4294967296 := BitVec.toInt_eq_toNat_cond x.toBitVec
theorem jandl {x y : Int32} (h : 0 ≤ x.toInt) : 0 ≤ (x &&& y).toInt ∧ (x &&& y).toInt ≤ x.toInt := by
  have h1 := jbv x
  have h2 := jbv (x &&& y)
  have h3 : (x &&& y).toBitVec.toNat ≤ x.toBitVec.toNat := by
    rw [Int32.toBitVec_and, BitVec.toNat_and]
    exact Nat.and_le_left
  have h4 : x.toBitVec.toNat < 4294967296 := x.toBitVec.isLt
  rw [h1] at h ⊢
  rw [h2]
  split at h
  · rename_i h5
    rw [if_pos h5, if_pos (by omega)]
    omega
  · omega
theorem jandr {x y : Int32} (h : 0 ≤ y.toInt) : 0 ≤ (x &&& y).toInt ∧ (x &&& y).toInt ≤ y.toInt := by
  have e : x &&& y = y &&& x := by
    apply Int32.toBitVec_inj.mp
    rw [Int32.toBitVec_and, Int32.toBitVec_and, BitVec.and_comm]
  rw [e]
  exact jandl h
theorem jdiv {a b : Int} (ha : 0 ≤ a ∧ a ≤ 2147483647) (hb : 0 < b ∧ b ≤ 2147483647) : (Int32.ofInt a / Int32.ofInt b).toInt = a / b := by
  have e1 := jwrap (z := a) (by omega) (by omega)
  have e2 := jwrap (z := b) (by omega) (by omega)
  rw [Int32.toInt_div_of_ne_right _ _ (fun h => by rw [h] at e2; have : (-1 : Int32).toInt = -1 := by decide
                                                   omega), e1, e2]
  exact Int.tdiv_eq_ediv_of_nonneg ha.1
theorem jrem {a b : Int} (ha : 0 ≤ a ∧ a ≤ 2147483647) (hb : 0 < b ∧ b ≤ 2147483647) : (Int32.ofInt a - Int32.ofInt a / Int32.ofInt b * Int32.ofInt b).toInt = a % b := by
  have h1 := jdiv ha hb
  have h3 : 0 ≤ a % b := Int.emod_nonneg a (by omega)
  have h5 : a % b < b := Int.emod_lt_of_pos a hb.1
  have h4 := Int.mul_ediv_add_emod a b
  have h6 : 0 ≤ a / b := Int.ediv_nonneg ha.1 (by omega)
  have h7 : b * (a / b) = a / b * b := Int.mul_comm _ _
  have e : Int32.ofInt a / Int32.ofInt b = Int32.ofInt (a / b) := by
    apply Int32.toInt_inj.mp
    have h8 : a / b ≤ a := Int.ediv_le_self b ha.1
    rw [h1, jwrap (by omega) (by omega)]
  rw [e, ← Int32.ofInt_mul, ← Int32.ofInt_sub, jwrap (by omega) (by omega)]
  omega
theorem jush {x : Int32} {k : UInt32} (hk : k = 8 ∨ k = 16) : 0 ≤ (x.toUInt32 >>> k).toInt32.toInt := by
  have h1 := jbv (x.toUInt32 >>> k).toInt32
  have h2 : (x.toUInt32 >>> k).toInt32.toBitVec.toNat = (x.toUInt32 >>> k).toNat := rfl
  have h3 : (x.toUInt32 >>> k).toNat < 2147483648 := by
    have h4 := x.toUInt32.toNat_lt
    rcases hk with rfl | rfl
    · rw [UInt32.toNat_shiftRight]
      show x.toUInt32.toNat >>> 8 < _
      rw [Nat.shiftRight_eq_div_pow]
      omega
    · rw [UInt32.toNat_shiftRight]
      show x.toUInt32.toNat >>> 16 < _
      rw [Nat.shiftRight_eq_div_pow]
      omega
  rw [h1, h2]
  split <;> omega
section RZ
variable {sh : List JS} {P : Nat → Option MR} {sc : Option (Nat × (Nat → Int))} {y pc len : Nat} {F : JP} {mr : MR} {ins : Instr} {q : Nat × (Nat × Nat)} {L L' : JL} {S r : List JV} {M M' : JM}
theorem jy_ic (c1 : jstC sh P sc y F) (hm : P y = some mr) {n : Int} (hp : pg mr.2.2.2.2.2.2 pc = some (some (.iconst n, (1, q)))) (hn : (decide (-2147483648 ≤ n) && decide (n ≤ 2147483647)) = true) (k : F (pc + 1) L (.inl n :: S) M) : F pc L S M := by
  simp only [Bool.and_eq_true, decide_eq_true_eq] at hn
  exact jx_push c1 hm hp (by show (if 1 = 1 then some (Int32.ofInt n).toInt else none) = _; rw [if_pos rfl, jwrap hn.1 hn.2]) k
theorem jy_bp (c1 : jstC sh P sc y F) (hm : P y = some mr) {n : Int} (hp : pg mr.2.2.2.2.2.2 pc = some (some (.bipush n, (2, q)))) (hn : (Int8.ofInt n).toInt32.toInt = n) (k : F (pc + 2) L (.inl n :: S) M) : F pc L S M := jx_push c1 hm hp (by show (if 2 = 2 then some (Int8.ofInt n).toInt32.toInt else none) = _; rw [if_pos rfl, hn]) k
theorem jy_sp (c1 : jstC sh P sc y F) (hm : P y = some mr) {n : Int} (hp : pg mr.2.2.2.2.2.2 pc = some (some (.sipush n, (3, q)))) (hn : (Int16.ofInt n).toInt32.toInt = n) (k : F (pc + 3) L (.inl n :: S) M) : F pc L S M := jx_push c1 hm hp (by show (if 3 = 3 then some (Int16.ofInt n).toInt32.toInt else none) = _; rw [if_pos rfl, hn]) k
theorem jy_add (c1 : jstC sh P sc y F) (hm : P y = some mr) {a b : Int} (v : Int) (hp : pg mr.2.2.2.2.2.2 pc = some (some (.iadd, (1, q)))) (h : a + b = v ∧ -2147483648 ≤ v ∧ v ≤ 2147483647) (k : F (pc + 1) L (.inl v :: r) M) : F pc L (.inl b :: .inl a :: r) M := jx_iop c1 hm hp rfl (by show (Int32.ofInt a + Int32.ofInt b).toInt = v; rw [jad (by omega) (by omega)]; exact h.1) k
theorem jy_sub (c1 : jstC sh P sc y F) (hm : P y = some mr) {a b : Int} (v : Int) (hp : pg mr.2.2.2.2.2.2 pc = some (some (.isub, (1, q)))) (h : a - b = v ∧ -2147483648 ≤ v ∧ v ≤ 2147483647) (k : F (pc + 1) L (.inl v :: r) M) : F pc L (.inl b :: .inl a :: r) M := jx_iop c1 hm hp rfl (by show (Int32.ofInt a - Int32.ofInt b).toInt = v; rw [jsb (by omega) (by omega)]; exact h.1) k
theorem jy_mul (c1 : jstC sh P sc y F) (hm : P y = some mr) {a b : Int} (v : Int) (hp : pg mr.2.2.2.2.2.2 pc = some (some (.imul, (1, q)))) (h : a * b = v ∧ -2147483648 ≤ v ∧ v ≤ 2147483647) (k : F (pc + 1) L (.inl v :: r) M) : F pc L (.inl b :: .inl a :: r) M := jx_iop c1 hm hp rfl (by show (Int32.ofInt a * Int32.ofInt b).toInt = v; rw [jml (by omega) (by omega)]; exact h.1) k
/-- both at least 0 -/
theorem jy_mup (c1 : jstC sh P sc y F) (hm : P y = some mr) {a b : Int} (A B C : Int) (hp : pg mr.2.2.2.2.2.2 pc = some (some (.imul, (1, q)))) (h : 0 ≤ a ∧ a ≤ A ∧ 0 ≤ b ∧ b ≤ B) (hC : A * B = C ∧ C ≤ 2147483647) (k : ∀ v : Int, 0 ≤ v → v ≤ C → F (pc + 1) L (.inl v :: r) M) : F pc L (.inl b :: .inl a :: r) M := by
  have h1 : 0 ≤ a * b := Int.mul_nonneg h.1 h.2.2.1
  have h2 : a * b ≤ A * B := Int.mul_le_mul h.2.1 h.2.2.2 h.2.2.1 (by omega)
  exact jx_iop c1 hm hp rfl (jml (by omega) (by omega)) (k _ h1 (by omega))
theorem jy_anl (c1 : jstC sh P sc y F) (hm : P y = some mr) {a b : Int} (hp : pg mr.2.2.2.2.2.2 pc = some (some (.iand, (1, q)))) (h : 0 ≤ a ∧ a ≤ 2147483647) (k : ∀ v : Int, 0 ≤ v → v ≤ a → F (pc + 1) L (.inl v :: r) M) : F pc L (.inl b :: .inl a :: r) M := by
  have e := jwrap (z := a) (by omega) h.2
  have h1 := jandl (x := Int32.ofInt a) (y := Int32.ofInt b) (by omega)
  exact jx_iop c1 hm hp rfl rfl (k _ h1.1 (by omega))
theorem jy_anr (c1 : jstC sh P sc y F) (hm : P y = some mr) {a b : Int} (hp : pg mr.2.2.2.2.2.2 pc = some (some (.iand, (1, q)))) (h : 0 ≤ b ∧ b ≤ 2147483647) (k : ∀ v : Int, 0 ≤ v → v ≤ b → F (pc + 1) L (.inl v :: r) M) : F pc L (.inl b :: .inl a :: r) M := by
  have e := jwrap (z := b) (by omega) h.2
  have h1 := jandr (x := Int32.ofInt a) (y := Int32.ofInt b) (by omega)
  exact jx_iop c1 hm hp rfl rfl (k _ h1.1 (by omega))
theorem jy_div (c1 : jstC sh P sc y F) (hm : P y = some mr) {a b : Int} (hp : pg mr.2.2.2.2.2.2 pc = some (some (.idiv, (1, q)))) (h : 0 ≤ a ∧ a ≤ 2147483647 ∧ 0 < b ∧ b ≤ 2147483647) (k : ∀ v : Int, v = a / b → 0 ≤ v → v ≤ a → F (pc + 1) L (.inl v :: r) M) : F pc L (.inl b :: .inl a :: r) M := jx_idv c1 hm hp rfl (by omega) (jdiv ⟨h.1, h.2.1⟩ h.2.2) (k _ rfl (Int.ediv_nonneg h.1 (by omega)) (Int.ediv_le_self b h.1))
theorem jy_rem (c1 : jstC sh P sc y F) (hm : P y = some mr) {a b : Int} (hp : pg mr.2.2.2.2.2.2 pc = some (some (.irem, (1, q)))) (h : 0 ≤ a ∧ a ≤ 2147483647 ∧ 0 < b ∧ b ≤ 2147483647) (k : ∀ v : Int, v = a % b → 0 ≤ v → v < b → F (pc + 1) L (.inl v :: r) M) : F pc L (.inl b :: .inl a :: r) M := jx_idv c1 hm hp rfl (by omega) (jrem ⟨h.1, h.2.1⟩ h.2.2) (k _ rfl (Int.emod_nonneg a (by omega)) (Int.emod_lt_of_pos a h.2.2.1))
theorem jy_ush (c1 : jstC sh P sc y F) (hm : P y = some mr) {a b : Int} (hp : pg mr.2.2.2.2.2.2 pc = some (some (.iushr, (1, q)))) (h : b = 8 ∨ b = 16) (k : ∀ v : Int, 0 ≤ v → v ≤ 2147483647 → F (pc + 1) L (.inl v :: r) M) : F pc L (.inl b :: .inl a :: r) M := by
  refine jx_iop c1 hm hp rfl rfl (k _ ?_ (i32_hi _))
  rcases h with rfl | rfl
  · exact jush (Or.inl (by decide))
  · exact jush (Or.inr (by decide))
theorem jy_sh1 (c1 : jstC sh P sc y F) (hm : P y = some mr) {b : Int} (hp : pg mr.2.2.2.2.2.2 pc = some (some (.ishl, (1, q)))) (h : 0 ≤ b ∧ b ≤ 6) (k : ∀ v : Int, 1 ≤ v → v ≤ 64 → F (pc + 1) L (.inl v :: r) M) : F pc L (.inl b :: .inl 1 :: r) M := by
  have hb : b = 0 ∨ b = 1 ∨ b = 2 ∨ b = 3 ∨ b = 4 ∨ b = 5 ∨ b = 6 := by omega
  refine jx_iop c1 hm hp rfl rfl (k _ ?_ ?_)
  · rcases hb with rfl | rfl | rfl | rfl | rfl | rfl | rfl <;> decide
  · rcases hb with rfl | rfl | rfl | rfl | rfl | rfl | rfl <;> decide
theorem jy_i2b (c1 : jstC sh P sc y F) (hm : P y = some mr) {a : Int} (hp : pg mr.2.2.2.2.2.2 pc = some (some (.i2b, (1, q)))) (k : ∀ v : Int, -128 ≤ v → v ≤ 127 → F (pc + 1) L (.inl v :: r) M) : F pc L (.inl a :: r) M := by
  have h := ib_ok (p := iTop) (iTop_ok (Int32.ofInt a))
  exact jx_un1 c1 hm hp rfl rfl (k _ h.1 h.2)
theorem jy_scha (c1 : jstC sh P sc y F) (hm : P y = some mr) {i x : Nat} {q : Nat × Nat} {t : List Int} {a : Int} (hp : pg mr.2.2.2.2.2.2 pc = some (some (.invokevirtual i, (3, (12, q))))) (hS : Nat.ble r.length 4 = true) (hk : Nat.blt 0 x = true) (ht : jtx[x]? = some t) (h : 0 ≤ a ∧ a < (t.length : Int)) (k : ∀ v : Int, F (pc + 3) L (.inl v :: r) M) : F pc L (.inl a :: .inr (.inr (.inr x)) :: r) M := jx_scha c1 hm hp hS hk ht h (k _)
end RZ
