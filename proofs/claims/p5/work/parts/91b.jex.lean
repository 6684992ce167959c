theorem getD_map {l : List Int} {j : Nat} : (l.map Int32.ofInt).getD j 0 = Int32.ofInt (l.getD j 0) := by
  rw [List.getD_eq_getElem?_getD, List.getD_eq_getElem?_getD, List.getElem?_map]
  cases l[j]? <;> rfl
def KB1 : List Int32 := (jtx.getD 1 []).map Int32.ofInt
theorem ST1_el : ∀ j : Nat, j < 10 → (flatC (Jvm.Cond.and given_1 narrow_1))[194 + j]? = some (Cond.eq (.elem (.field (.string "MerryDuchy" 297) "java/lang/String" "value" "[B") (.int (Int32.ofNat j))) (.int (KB1.getD j 0))) := by decide +kernel
theorem start_S1 {s : State} {b : Nat} (hts : ∀ w ∈ lw_tbl, w.before #[Value.ref b] s = true) (hgv : (Jvm.Cond.and given_1 narrow_1).before #[Value.ref b] s = true) : ∃ a v, jS1 297 " would not" 10 1 a v (fun q => s.heap.size ≤ q) s := by
  have hq := flat_of_before _ hgv
  have hA : ∀ a : Nat, a < s.heap.size → ¬ (fun q : Nat => s.heap.size ≤ q) a := fun a h => Nat.not_le.mpr h
  have e1 : ∀ i : Nat, i < 1 → ([10] : List Nat).getD i 0 < 2 ^ 31 := by
    intro i hi
    obtain rfl : i = 0 := by omega
    decide
  have e5 : ∀ i : Nat, i < 1 → (Cond.eq (.length (.field (Term.string "MerryDuchy" 297) "java/lang/String" "value" "[B")) (.int (Int32.ofNat (([10] : List Nat).getD i 0)))).before #[Value.ref b] s = true := by
    intro i hi
    obtain rfl : i = 0 := by omega
    exact hq _ (List.mem_of_getElem? (i := 193) (by decide +kernel))
  have e6 : ∀ i : Nat, i < 1 → ∀ j : Nat, j < ([10] : List Nat).getD i 0 → (Cond.eq (.elem (.field (Term.string "MerryDuchy" 297) "java/lang/String" "value" "[B") (.int (Int32.ofNat j))) (.int ((([KB1] : List (List Int32)).getD i []).getD j 0))).before #[Value.ref b] s = true := by
    intro i hi j hj
    obtain rfl : i = 0 := by omega
    exact hq _ (List.mem_of_getElem? (ST1_el j hj))
  obtain ⟨adK, adV, hS, hev⟩ := vk_Sof (args := #[Value.ref b]) (s := s) (N := 1) (tm := fun _ => .string "MerryDuchy" 297) (len := [10]) (byt := [KB1]) (A := fun q : Nat => s.heap.size ≤ q) e1 (fun i hi => hq _ (List.mem_of_getElem? (i := 190) (by decide +kernel))) (fun i hi => hq _ (List.mem_of_getElem? (i := 191) (by decide +kernel))) (fun i hi => hq _ (List.mem_of_getElem? (i := 192) (by decide +kernel))) e5 e6 (fun i j hi hj hne => absurd (by omega) hne) hA
  obtain ⟨h1, h2, h3, h4⟩ := hS.1 0 (by decide)
  refine ⟨adK 0, adV 0, vk_R.of (hts _ (List.mem_append_right _ (List.mem_append_right _ (List.mem_append_right _ (List.mem_append_right _ (List.mem_append_right _ (List.mem_append_left _ (List.mem_of_getElem? (i := 15) (by decide +kernel))))))))) (hev 0 (by decide)), h1, h2, h3, ?_⟩
  have he : (fun j => Value.int (Int32.ofInt ((jtx.getD 1 []).getD j 0))) = (fun j => Value.int (KB1.getD j 0)) := funext fun j => by unfold KB1; rw [getD_map]
  rw [he]
  exact h4
def KB2 : List Int32 := (jtx.getD 2 []).map Int32.ofInt
theorem ST2_el : ∀ j : Nat, j < 7 → (flatC (Jvm.Cond.and given_1 narrow_1))[209 + j]? = some (Cond.eq (.elem (.field (.string "MerryDuchy" 303) "java/lang/String" "value" "[B") (.int (Int32.ofNat j))) (.int (KB2.getD j 0))) := by decide +kernel
theorem start_S2 {s : State} {b : Nat} (hts : ∀ w ∈ lw_tbl, w.before #[Value.ref b] s = true) (hgv : (Jvm.Cond.and given_1 narrow_1).before #[Value.ref b] s = true) : ∃ a v, jS1 303 " would " 7 2 a v (fun q => s.heap.size ≤ q) s := by
  have hq := flat_of_before _ hgv
  have hA : ∀ a : Nat, a < s.heap.size → ¬ (fun q : Nat => s.heap.size ≤ q) a := fun a h => Nat.not_le.mpr h
  have e1 : ∀ i : Nat, i < 1 → ([7] : List Nat).getD i 0 < 2 ^ 31 := by
    intro i hi
    obtain rfl : i = 0 := by omega
    decide
  have e5 : ∀ i : Nat, i < 1 → (Cond.eq (.length (.field (Term.string "MerryDuchy" 303) "java/lang/String" "value" "[B")) (.int (Int32.ofNat (([7] : List Nat).getD i 0)))).before #[Value.ref b] s = true := by
    intro i hi
    obtain rfl : i = 0 := by omega
    exact hq _ (List.mem_of_getElem? (i := 208) (by decide +kernel))
  have e6 : ∀ i : Nat, i < 1 → ∀ j : Nat, j < ([7] : List Nat).getD i 0 → (Cond.eq (.elem (.field (Term.string "MerryDuchy" 303) "java/lang/String" "value" "[B") (.int (Int32.ofNat j))) (.int ((([KB2] : List (List Int32)).getD i []).getD j 0))).before #[Value.ref b] s = true := by
    intro i hi j hj
    obtain rfl : i = 0 := by omega
    exact hq _ (List.mem_of_getElem? (ST2_el j hj))
  obtain ⟨adK, adV, hS, hev⟩ := vk_Sof (args := #[Value.ref b]) (s := s) (N := 1) (tm := fun _ => .string "MerryDuchy" 303) (len := [7]) (byt := [KB2]) (A := fun q : Nat => s.heap.size ≤ q) e1 (fun i hi => hq _ (List.mem_of_getElem? (i := 205) (by decide +kernel))) (fun i hi => hq _ (List.mem_of_getElem? (i := 206) (by decide +kernel))) (fun i hi => hq _ (List.mem_of_getElem? (i := 207) (by decide +kernel))) e5 e6 (fun i j hi hj hne => absurd (by omega) hne) hA
  obtain ⟨h1, h2, h3, h4⟩ := hS.1 0 (by decide)
  refine ⟨adK 0, adV 0, vk_R.of (hts _ (List.mem_append_right _ (List.mem_append_right _ (List.mem_append_right _ (List.mem_append_right _ (List.mem_append_right _ (List.mem_append_left _ (List.mem_of_getElem? (i := 22) (by decide +kernel))))))))) (hev 0 (by decide)), h1, h2, h3, ?_⟩
  have he : (fun j => Value.int (Int32.ofInt ((jtx.getD 2 []).getD j 0))) = (fun j => Value.int (KB2.getD j 0)) := funext fun j => by unfold KB2; rw [getD_map]
  rw [he]
  exact h4
def KB3 : List Int32 := (jtx.getD 3 []).map Int32.ofInt
theorem ST3_el : ∀ j : Nat, j < 5 → (flatC (Jvm.Cond.and given_1 narrow_1))[222 + j]? = some (Cond.eq (.elem (.field (.string "MerryDuchy" 305) "java/lang/String" "value" "[B") (.int (Int32.ofNat j))) (.int (KB3.getD j 0))) := by decide +kernel
theorem start_S3 {s : State} {b : Nat} (hts : ∀ w ∈ lw_tbl, w.before #[Value.ref b] s = true) (hgv : (Jvm.Cond.and given_1 narrow_1).before #[Value.ref b] s = true) : ∃ a v, jS1 305 " for " 5 3 a v (fun q => s.heap.size ≤ q) s := by
  have hq := flat_of_before _ hgv
  have hA : ∀ a : Nat, a < s.heap.size → ¬ (fun q : Nat => s.heap.size ≤ q) a := fun a h => Nat.not_le.mpr h
  have e1 : ∀ i : Nat, i < 1 → ([5] : List Nat).getD i 0 < 2 ^ 31 := by
    intro i hi
    obtain rfl : i = 0 := by omega
    decide
  have e5 : ∀ i : Nat, i < 1 → (Cond.eq (.length (.field (Term.string "MerryDuchy" 305) "java/lang/String" "value" "[B")) (.int (Int32.ofNat (([5] : List Nat).getD i 0)))).before #[Value.ref b] s = true := by
    intro i hi
    obtain rfl : i = 0 := by omega
    exact hq _ (List.mem_of_getElem? (i := 221) (by decide +kernel))
  have e6 : ∀ i : Nat, i < 1 → ∀ j : Nat, j < ([5] : List Nat).getD i 0 → (Cond.eq (.elem (.field (Term.string "MerryDuchy" 305) "java/lang/String" "value" "[B") (.int (Int32.ofNat j))) (.int ((([KB3] : List (List Int32)).getD i []).getD j 0))).before #[Value.ref b] s = true := by
    intro i hi j hj
    obtain rfl : i = 0 := by omega
    exact hq _ (List.mem_of_getElem? (ST3_el j hj))
  obtain ⟨adK, adV, hS, hev⟩ := vk_Sof (args := #[Value.ref b]) (s := s) (N := 1) (tm := fun _ => .string "MerryDuchy" 305) (len := [5]) (byt := [KB3]) (A := fun q : Nat => s.heap.size ≤ q) e1 (fun i hi => hq _ (List.mem_of_getElem? (i := 218) (by decide +kernel))) (fun i hi => hq _ (List.mem_of_getElem? (i := 219) (by decide +kernel))) (fun i hi => hq _ (List.mem_of_getElem? (i := 220) (by decide +kernel))) e5 e6 (fun i j hi hj hne => absurd (by omega) hne) hA
  obtain ⟨h1, h2, h3, h4⟩ := hS.1 0 (by decide)
  refine ⟨adK 0, adV 0, vk_R.of (hts _ (List.mem_append_right _ (List.mem_append_right _ (List.mem_append_right _ (List.mem_append_right _ (List.mem_append_right _ (List.mem_append_left _ (List.mem_of_getElem? (i := 23) (by decide +kernel))))))))) (hev 0 (by decide)), h1, h2, h3, ?_⟩
  have he : (fun j => Value.int (Int32.ofInt ((jtx.getD 3 []).getD j 0))) = (fun j => Value.int (KB3.getD j 0)) := funext fun j => by unfold KB3; rw [getD_map]
  rw [he]
  exact h4
def bbS (b a1 a2 a3 : Nat) : Nat → Nat := fun k => match k with
  | 0 => b
  | 1 => a1
  | 2 => a2
  | _ => a3
theorem start_JX {s : State} {b : Nat} (hts : ∀ w ∈ lw_tbl, w.before #[Value.ref b] s = true) (hgv : (Jvm.Cond.and given_1 narrow_1).before #[Value.ref b] s = true) : ∃ bb : Nat → Nat, bb 0 = b ∧ jEX bb (fun q => s.heap.size ≤ q) s := by
  obtain ⟨a1, v1, h1⟩ := start_S1 hts hgv
  obtain ⟨a2, v2, h2⟩ := start_S2 hts hgv
  obtain ⟨a3, v3, h3⟩ := start_S3 hts hgv
  exact ⟨bbS b a1 a2 a3, rfl, v1, v2, v3, h1, h2, h3⟩
