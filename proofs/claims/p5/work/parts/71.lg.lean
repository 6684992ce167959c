/-! Longs as whole numbers. -/
theorem bm64 {z : Int} (h1 : -9223372036854775808 ≤ z) (h2 : z ≤ 9223372036854775807) : z.bmod (2 ^ 64) = z := Int.bmod_eq_of_le (by simpa using h1) (by simp; omega)
theorem jl_add {a b w : Int64} {x y : Int} (e : w = a + b) (ha : a.toInt = x) (hb : b.toInt = y) (h : -9223372036854775808 ≤ x + y ∧ x + y ≤ 9223372036854775807) : w.toInt = x + y := by
  rw [e, Int64.toInt_add, ha, hb, bm64 h.1 h.2]
theorem jl_sub {a b w : Int64} {x y : Int} (e : w = a - b) (ha : a.toInt = x) (hb : b.toInt = y) (h : -9223372036854775808 ≤ x - y ∧ x - y ≤ 9223372036854775807) : w.toInt = x - y := by
  rw [e, Int64.toInt_sub, ha, hb, bm64 h.1 h.2]
theorem jl_mul {a b w : Int64} {x y : Int} (e : w = a * b) (ha : a.toInt = x) (hb : b.toInt = y) (h : -9223372036854775808 ≤ x * y ∧ x * y ≤ 9223372036854775807) : w.toInt = x * y := by
  rw [e, Int64.toInt_mul, ha, hb, bm64 h.1 h.2]
theorem jl_i2l {a : Int} {w : Int64} (e : w = (Int32.ofInt a).toInt64) (h : -2147483648 ≤ a ∧ a ≤ 2147483647) : w.toInt = a := by
  rw [e, Int32.toInt_toInt64, jwrap h.1 h.2]
/-- how many times 27 goes into it -/
def lgm (z : Int) : Int := if z < 27 then 0 else if z < 729 then 1 else if z < 19683 then 2 else if z < 531441 then 3 else if z < 14348907 then 4 else if z < 387420489 then 5 else if z < 10460353203 then 6 else if z < 282429536481 then 7 else 8
theorem lgm_le (z : Int) : 0 ≤ lgm z ∧ lgm z ≤ 8 := by
  unfold lgm
  repeat' split
  all_goals omega
theorem lgm_lb {z : Int} (h : LB z) : 0 ≤ lgm z ∧ lgm z ≤ 7 := by
  unfold LB at h
  unfold lgm
  repeat' split
  all_goals omega
theorem lgm_lt {a : Int} (h1 : 27 ≤ a) (h2 : LB a) : lgm (a / 27) + 1 = lgm a ∧ LB (a / 27) := by
  unfold LB at h2 ⊢
  refine ⟨?_, by omega⟩
  by_cases c1 : a < 729
  · unfold lgm; rw [if_pos (by omega), if_neg (by omega), if_pos c1]; rfl
  by_cases c2 : a < 19683
  · unfold lgm; rw [if_neg (by omega), if_pos (by omega), if_neg (by omega), if_neg c1, if_pos c2]; rfl
  by_cases c3 : a < 531441
  · unfold lgm; rw [if_neg (by omega), if_neg (by omega), if_pos (by omega), if_neg (by omega), if_neg c1, if_neg c2, if_pos c3]; rfl
  by_cases c4 : a < 14348907
  · unfold lgm; rw [if_neg (by omega), if_neg (by omega), if_neg (by omega), if_pos (by omega), if_neg (by omega), if_neg c1, if_neg c2, if_neg c3, if_pos c4]; rfl
  by_cases c5 : a < 387420489
  · unfold lgm; rw [if_neg (by omega), if_neg (by omega), if_neg (by omega), if_neg (by omega), if_pos (by omega), if_neg (by omega), if_neg c1, if_neg c2, if_neg c3, if_neg c4, if_pos c5]; rfl
  by_cases c6 : a < 10460353203
  · unfold lgm; rw [if_neg (by omega), if_neg (by omega), if_neg (by omega), if_neg (by omega), if_neg (by omega), if_pos (by omega), if_neg (by omega), if_neg c1, if_neg c2, if_neg c3, if_neg c4, if_neg c5, if_pos c6]; rfl
  · unfold lgm; rw [if_neg (by omega), if_neg (by omega), if_neg (by omega), if_neg (by omega), if_neg (by omega), if_neg (by omega), if_pos (by omega), if_neg (by omega), if_neg c1, if_neg c2, if_neg c3, if_neg c4, if_neg c5, if_neg c6, if_pos (by omega)]; rfl
theorem jl_div {a w : Int64} (e : w = a / 27) (h : 0 ≤ a.toInt) : w.toInt = a.toInt / 27 := by
  have h1 : (a / 27).toInt = a.toInt.tdiv (27 : Int64).toInt := Int64.toInt_div_of_ne_right _ _ (by decide)
  rw [e, h1, show (27 : Int64).toInt = 27 by decide]
  exact Int.tdiv_eq_ediv_of_nonneg h
/-! What a forfeit costs, and pays, in the reference. -/
def cbw (d w t : Int) : Int := if d = 0 then 0 else if d - (if 20 < t then 20 else t) * w < 1 then 1 else d - (if 20 < t then 20 else t) * w
def cbv (M : JM) (m f t : Int) : Int := cbw (M.1 175 (6 * m + f + 17).toNat) (M.1 175 3) t
theorem cbw_l {t l : Int} (h1 : l ≤ 20 ∧ l ≤ t) (h2 : l = 20 ∨ l = t) : (if 20 < t then 20 else t) = l := by
  split <;> omega
theorem cbw_0 {d w t : Int} (hd : d = 0) : cbw d w t = 0 := by
  unfold cbw
  rw [if_pos hd]
theorem cbw_1 {d w t l p : Int} (hd : ¬ d = 0) (h1 : l ≤ 20 ∧ l ≤ t) (h2 : l = 20 ∨ l = t) (hp : p = l * w) (h : d - p < 1) : cbw d w t = 1 := by
  unfold cbw
  rw [if_neg hd, cbw_l h1 h2, ← hp, if_pos h]
theorem cbw_2 {d w t l p : Int} (hd : ¬ d = 0) (h1 : l ≤ 20 ∧ l ≤ t) (h2 : l = 20 ∨ l = t) (hp : p = l * w) (h : 1 ≤ d - p) : cbw d w t = d - p := by
  unfold cbw
  rw [if_neg hd, cbw_l h1 h2, ← hp, if_neg (by omega)]
def pbv (M : JM) (m f : Int) : Nat → Int
  | 0 => 0
  | Nat.succ k => pbv M m f k + cbv M m f (M.1 175 (6 * m + f + 156).toNat + k)
theorem pbv_s {M : JM} {m f i : Int} (h : 0 ≤ i) : pbv M m f (i + 1).toNat = pbv M m f i.toNat + cbv M m f (M.1 175 (6 * m + f + 156).toNat + i) := by
  have e : (i + 1).toNat = i.toNat + 1 := by omega
  have e2 : ((i.toNat : Nat) : Int) = i := by omega
  rw [e]
  show pbv M m f i.toNat + cbv M m f (M.1 175 (6 * m + f + 156).toNat + (i.toNat : Int)) = _
  rw [e2]
/-- so many times is one of those by which a sum is paid -/
def OFT (M : JM) (m f s v : Int) : Prop := ∃ k : Int, 0 ≤ k ∧ k ≤ 20 ∧ pbv M m f k.toNat ≤ s ∧ v = k + M.1 186 (100 * f + 100 + s - pbv M m f k.toNat).toNat
section RE
variable {sh : List JS} {P : Nat → Option MR} {sc : Option (Nat × (Nat → Int))} {y pc len : Nat} {F : JP} {mr : MR} {ins : Instr} {q : Nat × (Nat × Nat)} {L L' : JL} {S r : List JV} {M M' : JM}
theorem jy_mue (c1 : jstC sh P sc y F) (hm : P y = some mr) {a b : Int} (A B C : Int) (hp : pg mr.2.2.2.2.2.2 pc = some (some (.imul, (1, q)))) (h : 0 ≤ a ∧ a ≤ A ∧ 0 ≤ b ∧ b ≤ B) (hC : A * B = C ∧ C ≤ 2147483647) (k : ∀ v : Int, v = a * b → 0 ≤ v → v ≤ C → F (pc + 1) L (.inl v :: r) M) : F pc L (.inl b :: .inl a :: r) M := by
  have h1 : 0 ≤ a * b := Int.mul_nonneg h.1 h.2.2.1
  have h2 : a * b ≤ A * B := Int.mul_le_mul h.2.1 h.2.2.2 h.2.2.1 (by omega)
  exact jx_iop c1 hm hp rfl (jml (by omega) (by omega)) (k _ rfl h1 (by omega))
end RE
theorem lb0 : LB (0 : Int64).toInt := by unfold LB; decide
/-- how great a word of so many signs can be -/
def wbd (t : Int) : Int := if t ≤ 0 then 0 else if t = 1 then 159 else if t = 2 then 4452 else if t = 3 then 120363 else if t = 4 then 3249960 else if t = 5 then 87749079 else if t = 6 then 2369225292 else 63969083043
theorem wbd_0 {t : Int} (h : t ≤ 0) : wbd t = 0 := if_pos h
theorem wbd_s {t : Int} (h : 0 ≤ t ∧ t < 7) : wbd (t + 1) = 27 * wbd t + 159 := by
  have h1 : t = 0 ∨ t = 1 ∨ t = 2 ∨ t = 3 ∨ t = 4 ∨ t = 5 ∨ t = 6 := by omega
  rcases h1 with rfl | rfl | rfl | rfl | rfl | rfl | rfl <;> decide
theorem wbd_7 {t : Int} (h : 0 ≤ t ∧ t < 7) : 0 ≤ wbd t ∧ wbd t ≤ 2369225292 := by
  have h1 : t = 0 ∨ t = 1 ∨ t = 2 ∨ t = 3 ∨ t = 4 ∨ t = 5 ∨ t = 6 := by omega
  rcases h1 with rfl | rfl | rfl | rfl | rfl | rfl | rfl <;> decide
theorem wbd_m {t : Int} (h : 7 ≤ t) : wbd t = 63969083043 := by
  unfold wbd
  rw [if_neg (by omega), if_neg (by omega), if_neg (by omega), if_neg (by omega), if_neg (by omega), if_neg (by omega), if_neg (by omega)]
theorem wbd_n {W T F x y : Int} (h : -(wbd (T - F)) ≤ W ∧ W ≤ wbd (T - F)) (e1 : T = x) (e2 : F = y) (hx : 0 ≤ x - y ∧ x - y < 7) : -2369225292 ≤ W ∧ W ≤ 2369225292 := by
  rw [e1, e2] at h
  have := wbd_7 hx
  omega
theorem wbd_up {W W' T F T' F' x y : Int} (h : -(wbd (T - F)) ≤ W ∧ W ≤ wbd (T - F)) (e1 : T = x) (e2 : F = y) (e3 : T' = x + 1) (e4 : F' = y) (hx : 0 ≤ x - y ∧ x - y < 7) (hW : 27 * W - 159 ≤ W' ∧ W' ≤ 27 * W + 159) : -(wbd (T' - F')) ≤ W' ∧ W' ≤ wbd (T' - F') := by
  rw [e1, e2] at h
  rw [e3, e4, show x + 1 - y = x - y + 1 by omega, wbd_s hx]
  omega
theorem wbd_st {W W' T F T' F' x y : Int} (h : -(wbd (T - F)) ≤ W ∧ W ≤ wbd (T - F)) (e1 : T = x) (e2 : F = y) (e3 : T' = x + 1) (e4 : F' = y) (hx : 7 ≤ x - y) (hW : W' = W) : -(wbd (T' - F')) ≤ W' ∧ W' ≤ wbd (T' - F') := by
  rw [e1, e2, wbd_m hx] at h
  rw [e3, e4, wbd_m (show 7 ≤ x + 1 - y by omega), hW]
  exact h
