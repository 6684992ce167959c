/-! Rows of the law: its script. -/
theorem jin_hi {md : List (Nat × (Nat × Nat))} {c b i : Nat} (h : md.all (fun q => !Nat.beq q.1 c || Nat.blt q.2.2 b) = true) (hb : b ≤ i) : jin md c i = false := by
  unfold jin
  rw [List.any_eq_false]
  intro q hq hc
  have h1 := List.all_eq_true.mp h q hq
  simp only [Bool.and_eq_true] at hc
  rw [hc.1] at h1
  have h2 : Nat.blt q.2.2 b = true := by simpa using h1
  have h3 := Nat.blt_eq.mp h2
  have h4 := Nat.le_of_ble_eq_true hc.2.2
  omega
def jr_L_law : MR := (yL_law, (cL_law, (7, ((some .boolean), (1, (99, jb_L_law))))))
noncomputable def PL : Nat → Option MR := fun y => if y = 1000 then some jr_L_law else PJ y
theorem pl_law : PL 1000 = some jr_L_law := if_pos rfl
theorem plp {y : Nat} {mr : MR} (h : PJ y = some mr) (hy : Nat.beq y 1000 = false) : PL y = some mr := by
  have h2 : y ≠ 1000 := fun e => by rw [e] at hy; cases hy
  unfold PL
  rw [if_neg h2]
  exact h
section SR
variable {sh : List JS} {P : Nat → Option MR} {y pc len n : Nat} {f : Nat → Int} {F : JP} {mr : MR} {q : Nat × (Nat × Nat)} {L : JL} {S r : List JV} {M : JM}
theorem jx_sald (c1 : jstC sh P (some (n, f)) y F) (hm : P y = some mr) {a v : Int} (hp : pg mr.2.2.2.2.2.2 pc = some (some (.iaload, (1, q)))) (h : 0 ≤ a ∧ a < (n : Int)) (hv : f a.toNat = v) (k : F (pc + 1) L (.inl v :: r) M) : F pc L (.inl a :: .inr (.inr (.inr 0)) :: r) M := jx_r c1 hm hp ⟨rfl, a, r, h.1, Or.inr ⟨n, f, rfl, rfl, h.2, by rw [hv]; exact k⟩⟩
theorem jx_slen (c1 : jstC sh P (some (n, f)) y F) (hm : P y = some mr) {v : Int} (hp : pg mr.2.2.2.2.2.2 pc = some (some (.arraylength, (1, q)))) (hv : (n : Int) = v) (k : F (pc + 1) L (.inl v :: r) M) : F pc L (.inr (.inr (.inr 0)) :: r) M := jx_r c1 hm hp ⟨rfl, r, Or.inr ⟨n, f, rfl, rfl, by rw [hv]; exact k⟩⟩
end SR
