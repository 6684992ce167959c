/-! Bounds, frames; rows with both. -/
def lbc (c : Nat) : Bool := Nat.beq c 173 || (Nat.beq c 180 || (Nat.beq c 181 || Nat.beq c 182))
def LB (z : Int) : Prop := -282429536481 < z ∧ z < 282429536481
def kwW : List Int := [7168366, 28832984759363956, 469920277619, 1735356260, 1870095731, 512801993331, 469853168755, 1685022067, 1651865971, 465558201459, 125780002699635, 126943972911973, 2003133803, 28530, 6385252, 7237492, 482956244324, 478744768103, 6840691, 6580580, 482955846757, 109342978500980, 431197680755, 121450625394034]
def kwL (i : Nat) : Int64 := Int64.ofInt (kwW.getD i 0)
def HI (X : Int) (M : JM) : Prop := (∀ c i : Nat, (bnd X c i).1 ≤ M.1 c i ∧ M.1 c i ≤ (bnd X c i).2) ∧ (∀ c i : Nat, lbc c = true → LB (M.2 c i).toInt) ∧ ∀ i : Nat, i < 24 → M.2 3 i = kwL i
theorem ite2 {c : Prop} [Decidable c] {a b a' b' : Int × Int} (h1 : a'.1 ≤ a.1 ∧ a.2 ≤ a'.2) (h2 : b'.1 ≤ b.1 ∧ b.2 ≤ b'.2) : (if c then a' else b').1 ≤ (if c then a else b).1 ∧ (if c then a else b).2 ≤ (if c then a' else b').2 := by
  by_cases h : c
  · rw [if_pos h, if_pos h]; exact h1
  · rw [if_neg h, if_neg h]; exact h2
theorem ite1 {c : Prop} [Decidable c] {a b : Int × Int} (h1 : -2147483648 ≤ a.1 ∧ a.2 ≤ 2147483647) (h2 : -2147483648 ≤ b.1 ∧ b.2 ≤ 2147483647) : -2147483648 ≤ (if c then a else b).1 ∧ (if c then a else b).2 ≤ 2147483647 := by
  by_cases h : c
  · rw [if_pos h]; exact h1
  · rw [if_neg h]; exact h2
theorem bT_mono {X X' : Int} (h0 : 0 ≤ X) (h : X ≤ X') (t i : Nat) : (bT X' t i).1 ≤ (bT X t i).1 ∧ (bT X t i).2 ≤ (bT X' t i).2 := by
  unfold bT
  split <;> (repeat' (refine ite2 ?_ ?_)) <;> (refine ⟨?_, ?_⟩ <;> (try dsimp only) <;> omega)
theorem bT_i32 {X : Int} (h0 : 0 ≤ X) (h : X ≤ 100000000) (t i : Nat) : -2147483648 ≤ (bT X t i).1 ∧ (bT X t i).2 ≤ 2147483647 := by
  unfold bT
  split <;> (repeat' (refine ite1 ?_ ?_)) <;> (refine ⟨?_, ?_⟩ <;> (try dsimp only) <;> omega)
theorem HI.mono {X X' : Int} {M : JM} (h : HI X M) (h0 : 0 ≤ X) (hx : X ≤ X') : HI X' M := by
  refine ⟨fun c i => ?_, h.2⟩
  have h1 := h.1 c i
  have h2 := bT_mono h0 hx (btl.getD c 0) i
  unfold bnd at h1 ⊢
  omega
theorem HI.any {X : Int} {M : JM} (h : HI X M) (h0 : 0 ≤ X) (hx : X ≤ 100000000) (c i : Nat) : ∃ z, M.1 c i = z ∧ -2147483648 ≤ z ∧ z ≤ 2147483647 := by
  have h1 := h.1 c i
  have h2 := bT_i32 h0 hx (btl.getD c 0) i
  unfold bnd at h1
  exact ⟨_, rfl, by omega, by omega⟩
def jin (md : List (Nat × (Nat × Nat))) (c i : Nat) : Bool := md.any (fun q => Nat.beq q.1 c && (Nat.ble q.2.1 i && Nat.ble i q.2.2))
def jsub (md md' : List (Nat × (Nat × Nat))) : Bool := md.all (fun q => md'.any (fun r => Nat.beq r.1 q.1 && (Nat.ble r.2.1 q.2.1 && Nat.ble q.2.2 r.2.2)))
/-- only what is told may be another -/
def Fr (md : List (Nat × (Nat × Nat))) (M M' : JM) : Prop := ∀ c i : Nat, jin md c i = false → M'.1 c i = M.1 c i
theorem jin_of {md : List (Nat × (Nat × Nat))} {c i lo hi : Nat} (k : Nat) (hk : md[k]? = some (c, (lo, hi))) (h : lo ≤ i ∧ i ≤ hi) : jin md c i = true := by
  unfold jin
  refine List.any_eq_true.mpr ⟨_, List.mem_of_getElem? hk, ?_⟩
  simp only [Bool.and_eq_true]
  exact ⟨Nat.beq_refl c, Nat.ble_eq_true_of_le h.1, Nat.ble_eq_true_of_le h.2⟩
theorem jin_sub {md md' : List (Nat × (Nat × Nat))} (hs : jsub md md' = true) {c i : Nat} (h : jin md c i = true) : jin md' c i = true := by
  unfold jin at h ⊢
  obtain ⟨q, hq, h1⟩ := List.any_eq_true.mp h
  obtain ⟨r, hr, h2⟩ := List.any_eq_true.mp (List.all_eq_true.mp hs q hq)
  refine List.any_eq_true.mpr ⟨r, hr, ?_⟩
  simp only [Bool.and_eq_true] at h1 h2 ⊢
  have e1 := Nat.eq_of_beq_eq_true h1.1
  have e2 := Nat.eq_of_beq_eq_true h2.1
  have a1 := Nat.le_of_ble_eq_true h1.2.1
  have a2 := Nat.le_of_ble_eq_true h1.2.2
  have a3 := Nat.le_of_ble_eq_true h2.2.1
  have a4 := Nat.le_of_ble_eq_true h2.2.2
  exact ⟨by rw [e2, e1]; exact Nat.beq_refl c, Nat.ble_eq_true_of_le (by omega), Nat.ble_eq_true_of_le (by omega)⟩
theorem Fr.rf (md : List (Nat × (Nat × Nat))) (M : JM) : Fr md M M := fun _ _ _ => rfl
theorem Fr.tr {md md' : List (Nat × (Nat × Nat))} {M M1 M2 : JM} (h : Fr md M M1) (h2 : Fr md' M1 M2) (hs : jsub md' md = true) : Fr md M M2 := fun c i hc => by
  have : jin md' c i = false := by
    cases e : jin md' c i with
    | false => rfl
    | true => rw [jin_sub hs e] at hc; cases hc
  rw [h2 c i this, h c i hc]
theorem HI.ld {X : Int} {M : JM} (h : HI X M) {c i : Nat} {A B : Int} (hb : bnd X c i = (A, B)) : ∃ z, M.1 c i = z ∧ A ≤ z ∧ z ≤ B := by
  have := h.1 c i
  rw [hb] at this
  exact ⟨_, rfl, this.1, this.2⟩
theorem mup {X : Int} {M0 M : JM} {md : List (Nat × (Nat × Nat))} (h : HI X M) (f : Fr md M0 M) {c i : Nat} {v A B : Int} (hb : bnd X c i = (A, B)) (hv : A ≤ v ∧ v ≤ B) (hm : jin md c i = true) : ∃ M', (jup M.1 c i v, M.2) = M' ∧ HI X M' ∧ Fr md M0 M' ∧ M'.1 c i = v ∧ (∀ c' i', ¬ (c' = c ∧ i' = i) → M'.1 c' i' = M.1 c' i') ∧ ∀ c' i', M'.2 c' i' = M.2 c' i' := by
  have hne : ∀ c' i', ¬ (c' = c ∧ i' = i) → jup M.1 c i v c' i' = M.1 c' i' := fun c' i' hn => by
    by_cases e1 : c' = c
    · exact jup_slot _ _ _ _ (fun e2 => hn ⟨e1, e2⟩)
    · exact jup_cell _ _ _ _ e1
  refine ⟨_, rfl, ⟨fun c' i' => ?_, h.2⟩, fun c' i' hc => ?_, jup_at _ _ _ _, hne, fun _ _ => rfl⟩
  · by_cases e : c' = c ∧ i' = i
    · obtain ⟨rfl, rfl⟩ := e
      show (bnd X c' i').1 ≤ jup M.1 c' i' v c' i' ∧ jup M.1 c' i' v c' i' ≤ _
      rw [jup_at, hb]
      exact hv
    · show (bnd X c' i').1 ≤ jup M.1 c i v c' i' ∧ jup M.1 c i v c' i' ≤ _
      rw [hne c' i' e]
      exact h.1 c' i'
  · by_cases e : c' = c ∧ i' = i
    · obtain ⟨rfl, rfl⟩ := e
      rw [hm] at hc
      cases hc
    · show jup M.1 c i v c' i' = _
      rw [hne c' i' e]
      exact f c' i' hc
/-- a value that comes from a slot of the same bounds -/
theorem mupc {X : Int} {M0 M Ma : JM} {md : List (Nat × (Nat × Nat))} (h : HI X M) (f : Fr md M0 M) (ha : HI X Ma) {c i c1 i1 : Nat} {v : Int} (hv : Ma.1 c1 i1 = v) (hb : bnd X c i = bnd X c1 i1) (hm : jin md c i = true) : ∃ M', (jup M.1 c i v, M.2) = M' ∧ HI X M' ∧ Fr md M0 M' ∧ M'.1 c i = v ∧ (∀ c' i', ¬ (c' = c ∧ i' = i) → M'.1 c' i' = M.1 c' i') ∧ ∀ c' i', M'.2 c' i' = M.2 c' i' := by
  have h1 := ha.1 c1 i1
  rw [hv] at h1
  exact mup h f (A := (bnd X c i).1) (B := (bnd X c i).2) rfl (by rw [hb]; exact h1) hm
/-- a long is another: nothing of the ints -/
theorem mul {X : Int} {M0 M : JM} {md : List (Nat × (Nat × Nat))} (h : HI X M) (f : Fr md M0 M) {c i : Nat} {v : Int64} (hv : lbc c = true → LB v.toInt) (h3 : Nat.beq c 3 = false := by decide) : ∃ M', (M.1, jup M.2 c i v) = M' ∧ HI X M' ∧ Fr md M0 M' ∧ (∀ c' i', M'.1 c' i' = M.1 c' i') ∧ M'.2 c i = v ∧ (∀ c' i', ¬ (c' = c ∧ i' = i) → M'.2 c' i' = M.2 c' i') := by
  have hne : ∀ c' i', ¬ (c' = c ∧ i' = i) → jup M.2 c i v c' i' = M.2 c' i' := fun c' i' hn => by
    by_cases e1 : c' = c
    · exact jup_slot _ _ _ _ (fun e2 => hn ⟨e1, e2⟩)
    · exact jup_cell _ _ _ _ e1
  refine ⟨_, rfl, ⟨h.1, fun c' i' hc => ?_, fun i' hi' => ?_⟩, f, fun _ _ => rfl, jup_at _ _ _ _, hne⟩
  case refine_2 =>
    exact (hne 3 i' (fun e => by rw [← e.1] at h3; cases h3)).trans (h.2.2 i' hi')
  show LB (jup M.2 c i v c' i').toInt
  by_cases e : c' = c ∧ i' = i
  · obtain ⟨rfl, rfl⟩ := e
    rw [jup_at]
    exact hv hc
  · rw [hne c' i' e]
    exact h.2.1 c' i' hc
/-- the first n of a row come into another one -/
theorem mcp {X : Int} {M0 M : JM} {md : List (Nat × (Nat × Nat))} (h : HI X M) (f : Fr md M0 M) {c1 c2 : Nat} {n : Int} (hb : ∀ j : Nat, (j : Int) < n → bnd X c2 j = bnd X c1 j) (hm : ∀ j : Nat, (j : Int) < n → jin md c2 j = true) : ∃ M', (jcp M.1 c1 c2 n, M.2) = M' ∧ HI X M' ∧ Fr md M0 M' ∧ (∀ c' i', c' ≠ c2 → M'.1 c' i' = M.1 c' i') ∧ ∀ c' i', M'.2 c' i' = M.2 c' i' := by
  refine ⟨_, rfl, ⟨fun c i => ?_, h.2⟩, fun c i hc => ?_, fun c i hc => if_neg hc, fun _ _ => rfl⟩
  · show (bnd X c i).1 ≤ jcp M.1 c1 c2 n c i ∧ jcp M.1 c1 c2 n c i ≤ _
    unfold jcp
    by_cases e : c = c2
    · rw [if_pos e]
      by_cases e2 : (i : Int) < n
      · rw [if_pos e2, e, hb i e2]
        exact h.1 c1 i
      · rw [if_neg e2]
        exact h.1 c i
    · rw [if_neg e]
      exact h.1 c i
  · show jcp M.1 c1 c2 n c i = _
    unfold jcp
    by_cases e : c = c2
    · rw [if_pos e]
      by_cases e2 : (i : Int) < n
      · rw [e, hm i e2] at hc
        cases hc
      · rw [if_neg e2]
        exact f c i hc
    · rw [if_neg e]
      exact f c i hc
/-- the same of longs, in cells of the class -/
theorem mcl {X : Int} {M0 M : JM} {md : List (Nat × (Nat × Nat))} (h : HI X M) (f : Fr md M0 M) {c1 c2 : Nat} {n : Int} (hc2 : lbc c2 = false) (h3 : Nat.beq c2 3 = false := by decide) : ∃ M', (M.1, jcp M.2 c1 c2 n) = M' ∧ HI X M' ∧ Fr md M0 M' ∧ ∀ c' i', M'.1 c' i' = M.1 c' i' := by
  refine ⟨_, rfl, ⟨h.1, fun c i hc => ?_, fun i hi => ?_⟩, f, fun _ _ => rfl⟩
  case refine_2 =>
    show jcp M.2 c1 c2 n 3 i = _
    unfold jcp
    rw [if_neg (fun e => by rw [← e] at h3; cases h3)]
    exact h.2.2 i hi
  show LB (jcp M.2 c1 c2 n c i).toInt
  unfold jcp
  by_cases e : c = c2
  · rw [e, hc2] at hc
    cases hc
  · rw [if_neg e]
    exact h.2.1 c i hc
def jRi (Q : Int → JM → Prop) : JR := fun r M => ∃ v, r = some (.inl v) ∧ Q v M
def jRl (Q : Int64 → JM → Prop) : JR := fun r M => ∃ v, r = some (.inr (.inl v)) ∧ Q v M
def jRv (Q : JM → Prop) : JR := fun r M => r = none ∧ Q M
section RW
variable {sh : List JS} {P : Nat → Option MR} {sc : Option (Nat × (Nat → Int))} {y pc len : Nat} {F : JP} {mr : MR} {ins : Instr} {q : Nat × (Nat × Nat)} {L L' : JL} {S r : List JV} {M M' : JM}
theorem jc_eq (c1 : jstC sh P sc y F) (hm : P y = some mr) {o a b : Int} (t : Nat) (hp : pg mr.2.2.2.2.2.2 pc = some (some (.if_icmp .eq o, (3, q)))) (ht : (pc : Int) + o = (t : Int)) (k1 : a = b → F t L r M) (k2 : ¬ a = b → F (pc + 3) L r M) : F pc L (.inl b :: .inl a :: r) M := jx_icmp c1 hm t hp ht (fun h => k1 (by simpa [jcm] using h)) (fun h => k2 (by simpa [jcm] using h))
theorem jc_ne (c1 : jstC sh P sc y F) (hm : P y = some mr) {o a b : Int} (t : Nat) (hp : pg mr.2.2.2.2.2.2 pc = some (some (.if_icmp .ne o, (3, q)))) (ht : (pc : Int) + o = (t : Int)) (k1 : ¬ a = b → F t L r M) (k2 : a = b → F (pc + 3) L r M) : F pc L (.inl b :: .inl a :: r) M := jx_icmp c1 hm t hp ht (fun h => k1 (by simpa [jcm] using h)) (fun h => k2 (by simpa [jcm] using h))
theorem jc_lt (c1 : jstC sh P sc y F) (hm : P y = some mr) {o a b : Int} (t : Nat) (hp : pg mr.2.2.2.2.2.2 pc = some (some (.if_icmp .lt o, (3, q)))) (ht : (pc : Int) + o = (t : Int)) (k1 : a < b → F t L r M) (k2 : b ≤ a → F (pc + 3) L r M) : F pc L (.inl b :: .inl a :: r) M := jx_icmp c1 hm t hp ht (fun h => k1 (by simpa [jcm] using h)) (fun h => k2 (by simpa [jcm] using h))
theorem jc_ge (c1 : jstC sh P sc y F) (hm : P y = some mr) {o a b : Int} (t : Nat) (hp : pg mr.2.2.2.2.2.2 pc = some (some (.if_icmp .ge o, (3, q)))) (ht : (pc : Int) + o = (t : Int)) (k1 : b ≤ a → F t L r M) (k2 : a < b → F (pc + 3) L r M) : F pc L (.inl b :: .inl a :: r) M := jx_icmp c1 hm t hp ht (fun h => k1 (by simpa [jcm] using h)) (fun h => k2 (by simpa [jcm] using h))
theorem jc_gt (c1 : jstC sh P sc y F) (hm : P y = some mr) {o a b : Int} (t : Nat) (hp : pg mr.2.2.2.2.2.2 pc = some (some (.if_icmp .gt o, (3, q)))) (ht : (pc : Int) + o = (t : Int)) (k1 : b < a → F t L r M) (k2 : a ≤ b → F (pc + 3) L r M) : F pc L (.inl b :: .inl a :: r) M := jx_icmp c1 hm t hp ht (fun h => k1 (by simpa [jcm] using h)) (fun h => k2 (by simpa [jcm] using h))
theorem jc_le (c1 : jstC sh P sc y F) (hm : P y = some mr) {o a b : Int} (t : Nat) (hp : pg mr.2.2.2.2.2.2 pc = some (some (.if_icmp .le o, (3, q)))) (ht : (pc : Int) + o = (t : Int)) (k1 : a ≤ b → F t L r M) (k2 : b < a → F (pc + 3) L r M) : F pc L (.inl b :: .inl a :: r) M := jx_icmp c1 hm t hp ht (fun h => k1 (by simpa [jcm] using h)) (fun h => k2 (by simpa [jcm] using h))
theorem jz_eq (c1 : jstC sh P sc y F) (hm : P y = some mr) {o a : Int} (t : Nat) (hp : pg mr.2.2.2.2.2.2 pc = some (some (.ifCond .eq o, (3, q)))) (ht : (pc : Int) + o = (t : Int)) (k1 : a = 0 → F t L r M) (k2 : ¬ a = 0 → F (pc + 3) L r M) : F pc L (.inl a :: r) M := jx_ifc c1 hm t hp ht (fun h => k1 (by simpa [jcm] using h)) (fun h => k2 (by simpa [jcm] using h))
theorem jz_ne (c1 : jstC sh P sc y F) (hm : P y = some mr) {o a : Int} (t : Nat) (hp : pg mr.2.2.2.2.2.2 pc = some (some (.ifCond .ne o, (3, q)))) (ht : (pc : Int) + o = (t : Int)) (k1 : ¬ a = 0 → F t L r M) (k2 : a = 0 → F (pc + 3) L r M) : F pc L (.inl a :: r) M := jx_ifc c1 hm t hp ht (fun h => k1 (by simpa [jcm] using h)) (fun h => k2 (by simpa [jcm] using h))
theorem jz_lt (c1 : jstC sh P sc y F) (hm : P y = some mr) {o a : Int} (t : Nat) (hp : pg mr.2.2.2.2.2.2 pc = some (some (.ifCond .lt o, (3, q)))) (ht : (pc : Int) + o = (t : Int)) (k1 : a < 0 → F t L r M) (k2 : 0 ≤ a → F (pc + 3) L r M) : F pc L (.inl a :: r) M := jx_ifc c1 hm t hp ht (fun h => k1 (by simpa [jcm] using h)) (fun h => k2 (by simpa [jcm] using h))
theorem jz_ge (c1 : jstC sh P sc y F) (hm : P y = some mr) {o a : Int} (t : Nat) (hp : pg mr.2.2.2.2.2.2 pc = some (some (.ifCond .ge o, (3, q)))) (ht : (pc : Int) + o = (t : Int)) (k1 : 0 ≤ a → F t L r M) (k2 : a < 0 → F (pc + 3) L r M) : F pc L (.inl a :: r) M := jx_ifc c1 hm t hp ht (fun h => k1 (by simpa [jcm] using h)) (fun h => k2 (by simpa [jcm] using h))
theorem jz_gt (c1 : jstC sh P sc y F) (hm : P y = some mr) {o a : Int} (t : Nat) (hp : pg mr.2.2.2.2.2.2 pc = some (some (.ifCond .gt o, (3, q)))) (ht : (pc : Int) + o = (t : Int)) (k1 : 0 < a → F t L r M) (k2 : a ≤ 0 → F (pc + 3) L r M) : F pc L (.inl a :: r) M := jx_ifc c1 hm t hp ht (fun h => k1 (by simpa [jcm] using h)) (fun h => k2 (by simpa [jcm] using h))
theorem jz_le (c1 : jstC sh P sc y F) (hm : P y = some mr) {o a : Int} (t : Nat) (hp : pg mr.2.2.2.2.2.2 pc = some (some (.ifCond .le o, (3, q)))) (ht : (pc : Int) + o = (t : Int)) (k1 : a ≤ 0 → F t L r M) (k2 : 0 < a → F (pc + 3) L r M) : F pc L (.inl a :: r) M := jx_ifc c1 hm t hp ht (fun h => k1 (by simpa [jcm] using h)) (fun h => k2 (by simpa [jcm] using h))
theorem jm_iast (c1 : jstC sh P sc y F) (hm : P y = some mr) {c n : Nat} {a v : Int} (hp : pg mr.2.2.2.2.2.2 pc = some (some (.iastore, (1, q)))) (hc : sh[c]? = some (.inr (.inl (1, n)))) (h : 0 ≤ a ∧ a < (n : Int)) (hM : (jup M.1 c a.toNat v, M.2) = M') (k : F (pc + 1) L r M') : F pc L (.inl v :: .inl a :: .inr (.inr (.inl c)) :: r) M := jx_iast c1 hm hp hc h (by rw [hM]; exact k)
theorem jm_bast (c1 : jstC sh P sc y F) (hm : P y = some mr) {c n kd : Nat} {a v : Int} (hp : pg mr.2.2.2.2.2.2 pc = some (some (.bastore, (1, q)))) (hc : sh[c]? = some (.inr (.inl (kd, n)))) (hk : (kd = 0 ∧ -128 ≤ v ∧ v ≤ 127) ∨ (kd = 3 ∧ 0 ≤ v ∧ v ≤ 1)) (h : 0 ≤ a ∧ a < (n : Int)) (hM : (jup M.1 c a.toNat v, M.2) = M') (k : F (pc + 1) L r M') : F pc L (.inl v :: .inl a :: .inr (.inr (.inl c)) :: r) M := jx_bast c1 hm hp hc hk h (by rw [hM]; exact k)
theorem jm_last (c1 : jstC sh P sc y F) (hm : P y = some mr) {c n : Nat} {a : Int} {v : Int64} (hp : pg mr.2.2.2.2.2.2 pc = some (some (.lastore, (1, q)))) (hc : sh[c]? = some (.inr (.inl (2, n)))) (h : 0 ≤ a ∧ a < (n : Int)) (hM : (M.1, jup M.2 c a.toNat v) = M') (k : F (pc + 1) L r M') : F pc L (.inr (.inl v) :: .inl a :: .inr (.inr (.inl c)) :: r) M := jx_last c1 hm hp hc h (by rw [hM]; exact k)
theorem jm_puti (c1 : jstC sh P sc y F) (hm : P y = some mr) {i x f c : Nat} {v : Int} {fs : List JF} (hp : pg mr.2.2.2.2.2.2 pc = some (some (.putfield i, (3, (x, (f, 0)))))) (hc : sh[c]? = some (.inl (x, fs))) (hf : fs[f]? = some (.inl 0)) (hM : (jup M.1 c f v, M.2) = M') (k : F (pc + 3) L r M') : F pc L (.inl v :: .inr (.inr (.inl c)) :: r) M := jx_puti c1 hm hp hc hf (by rw [hM]; exact k)
theorem jm_putz (c1 : jstC sh P sc y F) (hm : P y = some mr) {i x f c : Nat} {v : Int} {fs : List JF} (hp : pg mr.2.2.2.2.2.2 pc = some (some (.putfield i, (3, (x, (f, 1)))))) (hc : sh[c]? = some (.inl (x, fs))) (hf : fs[f]? = some (.inl 1)) (h : 0 ≤ v ∧ v ≤ 1) (hM : (jup M.1 c f v, M.2) = M') (k : F (pc + 3) L r M') : F pc L (.inl v :: .inr (.inr (.inl c)) :: r) M := jx_putz c1 hm hp hc hf h (by rw [hM]; exact k)
theorem jm_putl (c1 : jstC sh P sc y F) (hm : P y = some mr) {i x f c : Nat} {v : Int64} {fs : List JF} (hp : pg mr.2.2.2.2.2.2 pc = some (some (.putfield i, (3, (x, (f, 2)))))) (hc : sh[c]? = some (.inl (x, fs))) (hf : fs[f]? = some (.inl 2)) (hM : (M.1, jup M.2 c f v) = M') (k : F (pc + 3) L r M') : F pc L (.inr (.inl v) :: .inr (.inr (.inl c)) :: r) M := jx_putl c1 hm hp hc hf (by rw [hM]; exact k)
theorem jm_acpi (c1 : jstC sh P sc y F) (hm : P y = some mr) {i c1' c2 n1 n2 : Nat} {q : Nat × Nat} {n : Int} (hp : pg mr.2.2.2.2.2.2 pc = some (some (.invokestatic i, (3, (6, q))))) (hS : Nat.ble r.length 4 = true) (h1 : sh[c1']? = some (.inr (.inl (1, n1)))) (h2 : sh[c2]? = some (.inr (.inl (1, n2)))) (h : 0 ≤ n ∧ n ≤ (n1 : Int) ∧ n ≤ (n2 : Int)) (hM : (jcp M.1 c1' c2 n, M.2) = M') (k : F (pc + 3) L r M') : F pc L (.inl n :: .inl 0 :: .inr (.inr (.inl c2)) :: .inl 0 :: .inr (.inr (.inl c1')) :: r) M := jx_acpi c1 hm hp hS h1 h2 h (by rw [hM]; exact k)
theorem jm_acpl (c1 : jstC sh P sc y F) (hm : P y = some mr) {i c1' c2 n1 n2 : Nat} {q : Nat × Nat} {n : Int} (hp : pg mr.2.2.2.2.2.2 pc = some (some (.invokestatic i, (3, (6, q))))) (hS : Nat.ble r.length 4 = true) (h1 : sh[c1']? = some (.inr (.inl (2, n1)))) (h2 : sh[c2]? = some (.inr (.inl (2, n2)))) (h : 0 ≤ n ∧ n ≤ (n1 : Int) ∧ n ≤ (n2 : Int)) (hM : (M.1, jcp M.2 c1' c2 n) = M') (k : F (pc + 3) L r M') : F pc L (.inl n :: .inl 0 :: .inr (.inr (.inl c2)) :: .inl 0 :: .inr (.inr (.inl c1')) :: r) M := jx_acpl c1 hm hp hS h1 h2 h (by rw [hM]; exact k)
variable {ok : Nat → List JV → JM → JR → Prop}
theorem jv_i (c3 : jcaC sh P ok y F) (hm : P y = some mr) {i y' z : Nat} {mr2 : MR} {As : List JV} {Q : Int → JM → Prop} (hp : pg mr.2.2.2.2.2.2 pc = some (some (.invokevirtual i, (3, (1, (y', z)))))) (hm2 : P y' = some mr2) (hS : jtk mr2.2.2.2.2.1 S [] = some (As, r)) (hr : Nat.ble r.length 4 = true) (hc : ∃ (c : Nat) (fs : List JF) (As' : List JV), As = .inr (.inr (.inl c)) :: As' ∧ sh[c]? = some (.inl (mr2.2.2.2.2.2.1, fs))) (hf : Nat.ble (jsl As).length mr2.2.2.1 = true) (h : ok y' As M (jRi Q)) (k : ∀ v M', Q v M' → F (pc + 3) L (.inl v :: r) M') : F pc L S M := jx_call c3 hm hp hm2 hS hr hc hf h (fun v M' ⟨w, e, h⟩ => by rw [e]; exact k w M' h)
theorem jv_l (c3 : jcaC sh P ok y F) (hm : P y = some mr) {i y' z : Nat} {mr2 : MR} {As : List JV} {Q : Int64 → JM → Prop} (hp : pg mr.2.2.2.2.2.2 pc = some (some (.invokevirtual i, (3, (1, (y', z)))))) (hm2 : P y' = some mr2) (hS : jtk mr2.2.2.2.2.1 S [] = some (As, r)) (hr : Nat.ble r.length 4 = true) (hc : ∃ (c : Nat) (fs : List JF) (As' : List JV), As = .inr (.inr (.inl c)) :: As' ∧ sh[c]? = some (.inl (mr2.2.2.2.2.2.1, fs))) (hf : Nat.ble (jsl As).length mr2.2.2.1 = true) (h : ok y' As M (jRl Q)) (k : ∀ v M', Q v M' → F (pc + 3) L (.inr (.inl v) :: r) M') : F pc L S M := jx_call c3 hm hp hm2 hS hr hc hf h (fun v M' ⟨w, e, h⟩ => by rw [e]; exact k w M' h)
theorem jv_v (c3 : jcaC sh P ok y F) (hm : P y = some mr) {i y' z : Nat} {mr2 : MR} {As : List JV} {Q : JM → Prop} (hp : pg mr.2.2.2.2.2.2 pc = some (some (.invokevirtual i, (3, (1, (y', z)))))) (hm2 : P y' = some mr2) (hS : jtk mr2.2.2.2.2.1 S [] = some (As, r)) (hr : Nat.ble r.length 4 = true) (hc : ∃ (c : Nat) (fs : List JF) (As' : List JV), As = .inr (.inr (.inl c)) :: As' ∧ sh[c]? = some (.inl (mr2.2.2.2.2.2.1, fs))) (hf : Nat.ble (jsl As).length mr2.2.2.1 = true) (h : ok y' As M (jRv Q)) (k : ∀ M', Q M' → F (pc + 3) L r M') : F pc L S M := jx_call c3 hm hp hm2 hS hr hc hf h (fun v M' ⟨e, h⟩ => by rw [e]; exact k M' h)
theorem jt_i (c3 : jcaC sh P ok y F) (hm : P y = some mr) {i x y' z : Nat} {mr2 : MR} {As : List JV} {Q : Int → JM → Prop} (hp : pg mr.2.2.2.2.2.2 pc = some (some (.invokestatic i, (3, (x, (y', z)))))) (hx : (Nat.beq x 0 || Nat.beq x 3) = true) (hm2 : P y' = some mr2) (hS : jtk mr2.2.2.2.2.1 S [] = some (As, r)) (hr : Nat.ble r.length 4 = true) (hf : Nat.ble (jsl As).length mr2.2.2.1 = true) (h : ok y' As M (jRi Q)) (k : ∀ v M', Q v M' → F (pc + 3) L (.inl v :: r) M') : F pc L S M := jx_calls c3 hm hp hx hm2 hS hr hf h (fun v M' ⟨w, e, h⟩ => by rw [e]; exact k w M' h)
theorem jt_l (c3 : jcaC sh P ok y F) (hm : P y = some mr) {i x y' z : Nat} {mr2 : MR} {As : List JV} {Q : Int64 → JM → Prop} (hp : pg mr.2.2.2.2.2.2 pc = some (some (.invokestatic i, (3, (x, (y', z)))))) (hx : (Nat.beq x 0 || Nat.beq x 3) = true) (hm2 : P y' = some mr2) (hS : jtk mr2.2.2.2.2.1 S [] = some (As, r)) (hr : Nat.ble r.length 4 = true) (hf : Nat.ble (jsl As).length mr2.2.2.1 = true) (h : ok y' As M (jRl Q)) (k : ∀ v M', Q v M' → F (pc + 3) L (.inr (.inl v) :: r) M') : F pc L S M := jx_calls c3 hm hp hx hm2 hS hr hf h (fun v M' ⟨w, e, h⟩ => by rw [e]; exact k w M' h)
theorem jt_v (c3 : jcaC sh P ok y F) (hm : P y = some mr) {i x y' z : Nat} {mr2 : MR} {As : List JV} {Q : JM → Prop} (hp : pg mr.2.2.2.2.2.2 pc = some (some (.invokestatic i, (3, (x, (y', z)))))) (hx : (Nat.beq x 0 || Nat.beq x 3) = true) (hm2 : P y' = some mr2) (hS : jtk mr2.2.2.2.2.1 S [] = some (As, r)) (hr : Nat.ble r.length 4 = true) (hf : Nat.ble (jsl As).length mr2.2.2.1 = true) (h : ok y' As M (jRv Q)) (k : ∀ M', Q M' → F (pc + 3) L r M') : F pc L S M := jx_calls c3 hm hp hx hm2 hS hr hf h (fun v M' ⟨e, h⟩ => by rw [e]; exact k M' h)
end RW
