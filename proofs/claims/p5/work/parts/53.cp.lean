/-! Rows of the same bounds. -/
theorem cso {X : Int} {j i : Nat} (h : i = 101 + j % 133) : bT X 14 j = bT X 11 i := by
  have h1 : j % 133 < 133 := Nat.mod_lt _ (by decide)
  show (if (j % 133) < 1 then (-2147483648, 2147483647) else if (j % 133) < 7 then ((-20) * X, 99) else if (j % 133) < 55 then (-2147483648, 2147483647) else if (j % 133) < 91 then (0, 1 * X) else (-2147483648, 2147483647)) = _
  by_cases a1 : j % 133 < 1
  · rw [if_pos a1, bs_11_7 X i (by omega) (by omega)]
  · by_cases a2 : j % 133 < 7
    · rw [if_neg a1, if_pos a2, bs_11_8 X i (by omega) (by omega)]
    · by_cases a3 : j % 133 < 55
      · rw [if_neg a1, if_neg a2, if_pos a3, bs_11_9 X i (by omega) (by omega)]
      · by_cases a4 : j % 133 < 91
        · rw [if_neg a1, if_neg a2, if_neg a3, if_pos a4, bs_11_10 X i (by omega) (by omega)]
        · rw [if_neg a1, if_neg a2, if_neg a3, if_neg a4, bs_11_11 X i (by omega) (by omega)]
theorem csn {X : Int} {j i : Nat} (h : i % 133 = j % 133) : bT X 14 j = bT X 14 i := by
  rw [cso (j := j) (i := 101 + j % 133) rfl, cso (j := i) (i := 101 + j % 133) (by omega)]
theorem ckp {X : Int} {j i : Nat} (h : i = j % 476) : bT X 13 j = bT X 11 i := by
  subst h
  have h1 : j % 476 < 476 := Nat.mod_lt _ (by decide)
  by_cases a : j % 476 < 3
  · rw [bs_13_0 X j (by omega) (by omega), bs_11_0 X _ (by omega) (by omega)]
  by_cases a : j % 476 < 5
  · rw [bs_13_1 X j (by omega) (by omega), bs_11_1 X _ (by omega) (by omega)]
  by_cases a : j % 476 < 11
  · rw [bs_13_2 X j (by omega) (by omega), bs_11_2 X _ (by omega) (by omega)]
  by_cases a : j % 476 < 17
  · rw [bs_13_3 X j (by omega) (by omega), bs_11_3 X _ (by omega) (by omega)]
  by_cases a : j % 476 < 53
  · rw [bs_13_4 X j (by omega) (by omega), bs_11_4 X _ (by omega) (by omega)]
  by_cases a : j % 476 < 59
  · rw [bs_13_5 X j (by omega) (by omega), bs_11_5 X _ (by omega) (by omega)]
  by_cases a : j % 476 < 65
  · rw [bs_13_6 X j (by omega) (by omega), bs_11_6 X _ (by omega) (by omega)]
  by_cases a : j % 476 < 102
  · rw [bs_13_7 X j (by omega) (by omega), bs_11_7 X _ (by omega) (by omega)]
  by_cases a : j % 476 < 108
  · rw [bs_13_8 X j (by omega) (by omega), bs_11_8 X _ (by omega) (by omega)]
  by_cases a : j % 476 < 156
  · rw [bs_13_9 X j (by omega) (by omega), bs_11_9 X _ (by omega) (by omega)]
  by_cases a : j % 476 < 192
  · rw [bs_13_10 X j (by omega) (by omega), bs_11_10 X _ (by omega) (by omega)]
  rw [bs_13_11 X j (by omega) (by omega), bs_11_11 X _ (by omega) (by omega)]
theorem crd {X : Int} {i : Nat} (h : i < 101) : bT X 11 i = bT X 12 i := by
  by_cases a : i < 3
  · rw [bs_11_0 X _ (by omega) (by omega), bs_12_0 X _ (by omega) (by omega)]
  by_cases a : i < 5
  · rw [bs_11_1 X _ (by omega) (by omega), bs_12_1 X _ (by omega) (by omega)]
  by_cases a : i < 11
  · rw [bs_11_2 X _ (by omega) (by omega), bs_12_2 X _ (by omega) (by omega)]
  by_cases a : i < 17
  · rw [bs_11_3 X _ (by omega) (by omega), bs_12_3 X _ (by omega) (by omega)]
  by_cases a : i < 53
  · rw [bs_11_4 X _ (by omega) (by omega), bs_12_4 X _ (by omega) (by omega)]
  by_cases a : i < 59
  · rw [bs_11_5 X _ (by omega) (by omega), bs_12_5 X _ (by omega) (by omega)]
  by_cases a : i < 65
  · rw [bs_11_6 X _ (by omega) (by omega), bs_12_6 X _ (by omega) (by omega)]
  rw [bs_11_7 X _ (by omega) (by omega), bs_12_7 X _ (by omega)]
/-- 0 fits what is so -/
theorem czn {X : Int} (hX : 0 ≤ X) {i : Nat} (h : 101 ≤ i) : (bT X 11 i).1 ≤ 0 ∧ 0 ≤ (bT X 11 i).2 := by
  by_cases a : i < 102
  · rw [bs_11_7 X _ (by omega) (by omega)]; exact ⟨by decide, by decide⟩
  by_cases a : i < 108
  · rw [bs_11_8 X _ (by omega) (by omega)]; exact ⟨by show (-20) * X ≤ 0; omega, by show (0 : Int) ≤ 99; decide⟩
  by_cases a : i < 156
  · rw [bs_11_9 X _ (by omega) (by omega)]; exact ⟨by decide, by decide⟩
  by_cases a : i < 192
  · rw [bs_11_10 X _ (by omega) (by omega)]; exact ⟨by show (0 : Int) ≤ 0; decide, by show 0 ≤ 1 * X; omega⟩
  by_cases a : i < 476
  · rw [bs_11_11 X _ (by omega) (by omega)]; exact ⟨by decide, by decide⟩
  rw [bs_11_12 X _ (by omega)]; exact ⟨by decide, by decide⟩
theorem czr {X : Int} (i : Nat) : (bT X 12 i).1 ≤ 0 ∧ 0 ≤ (bT X 12 i).2 := by
  by_cases a : i < 3
  · rw [bs_12_0 X _ (by omega) (by omega)]; exact ⟨by decide, by decide⟩
  by_cases a : i < 5
  · rw [bs_12_1 X _ (by omega) (by omega)]; exact ⟨by decide, by decide⟩
  by_cases a : i < 11
  · rw [bs_12_2 X _ (by omega) (by omega)]; exact ⟨by decide, by decide⟩
  by_cases a : i < 17
  · rw [bs_12_3 X _ (by omega) (by omega)]; exact ⟨by decide, by decide⟩
  by_cases a : i < 53
  · rw [bs_12_4 X _ (by omega) (by omega)]; exact ⟨by decide, by decide⟩
  by_cases a : i < 59
  · rw [bs_12_5 X _ (by omega) (by omega)]; exact ⟨by decide, by decide⟩
  by_cases a : i < 65
  · rw [bs_12_6 X _ (by omega) (by omega)]; exact ⟨by decide, by decide⟩
  rw [bs_12_7 X _ (by omega)]; exact ⟨by decide, by decide⟩
def lsn : List (Int × Int) → Int → Prop
  | [], _ => True
  | q :: r, a => ¬ a = q.1 ∧ lsn r a
theorem jlsd {a d : Int} : ∀ {ps : List (Int × Int)}, lsn ps a → Op.lookupswitch.offset ps d a = d
  | [], _ => rfl
  | (k, o) :: ps, h => by
    rw [Op.lookupswitch.offset_cons, if_neg (fun e => h.1 e.symm)]
    exact jlsd h.2
section RC
variable {sh : List JS} {P : Nat → Option MR} {sc : Option (Nat × (Nat → Int))} {y pc len : Nat} {F : JP} {mr : MR} {ins : Instr} {L L' : JL} {S r : List JV} {M M' : JM}
theorem jy_schb (c1 : jstC sh P sc y F) (hm : P y = some mr) {i x : Nat} {q : Nat × Nat} {t : List Int} {a : Int} (hp : pg mr.2.2.2.2.2.2 pc = some (some (.invokevirtual i, (3, (12, q))))) (hS : Nat.ble r.length 4 = true) (hk : Nat.blt 0 x = true) (ht : jtx[x]? = some t) (hb : t.all (fun c => decide (0 ≤ c) && decide (c ≤ 127)) = true) (h : 0 ≤ a ∧ a < (t.length : Int)) (k : ∀ v : Int, 0 ≤ v → v ≤ 127 → F (pc + 3) L (.inl v :: r) M) : F pc L (.inl a :: .inr (.inr (.inr x)) :: r) M := by
  have hv : 0 ≤ t.getD a.toNat 0 ∧ t.getD a.toNat 0 ≤ 127 := by
    rw [List.getD_eq_getElem?_getD]
    cases e : t[a.toNat]? with
    | none => exact ⟨by decide, by decide⟩
    | some c =>
      have h1 := List.all_eq_true.mp hb c (List.mem_of_getElem? e)
      simp only [Bool.and_eq_true, decide_eq_true_eq] at h1
      exact h1
  exact jx_scha c1 hm hp hS hk ht h (k _ hv.1 hv.2)
end RC
