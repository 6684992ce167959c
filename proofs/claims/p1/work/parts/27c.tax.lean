/-! tax(t), 1 to 120, on a model without men: its loops by hand. -/
section WEAK
variable {p : Program} {l : Launch} {e : Env} {R : Room} {s : State} {m : MethodId} {args : Array Value} {below : List Frame} {meth : Method} {c : Code} {Q : State → Prop}
variable {G : va_G} {cy : Nat → ClassId} {b : BB} {A : Nat → Prop} {own nm : String} {cc : ByteArray} {nL c0 s0 : Nat}
/-- a local's interval may be widened -/
theorem w_loc {pc i : Nat} {L : LO} {S : List AV} {h : AH} {x y : AI} (hi : ldL L i = some (.inl x)) (h1 : y.1 ≤ x.1) (h2 : x.2 ≤ y.2) (k : Wk p l e R s m args below meth c Q G cy b A nL c0 s0 pc (L.set i (some (.inl y))) S h) : Wk p l e R s m args below meth c Q G cy b A nL c0 s0 pc L S h := by
  intro ws ls st H locs hs
  refine k ws ls st H locs ⟨hs.1, ?_, hs.2.2⟩
  obtain ⟨h0, lv, g1, g2, g3⟩ := hs.2.1
  refine ⟨by rw [List.length_set]; exact h0, lv, g1, fun j a ha => ?_, g3⟩
  rcases ldL_set ha with ⟨rfl, rfl⟩ | ⟨_, hd⟩
  · obtain ⟨v, z1, z2, z3⟩ := g2 _ _ hi
    obtain ⟨w, rfl, hw⟩ := z2.int
    exact ⟨.int w, z1, ⟨by omega, by omega⟩, z3⟩
  · exact g2 j a hd
/-- a local's interval may be cut in two -/
theorem w_cut {pc i : Nat} {L : LO} {S : List AV} {h : AH} {x : AI} (z : Int) (hi : ldL L i = some (.inl x)) (k1 : Wk p l e R s m args below meth c Q G cy b A nL c0 s0 pc (L.set i (some (.inl (x.1, z)))) S h) (k2 : Wk p l e R s m args below meth c Q G cy b A nL c0 s0 pc (L.set i (some (.inl (z + 1, x.2)))) S h) : Wk p l e R s m args below meth c Q G cy b A nL c0 s0 pc L S h := by
  intro ws ls st H locs hs
  obtain ⟨h0, lv, g1, g2, g3⟩ := hs.2.1
  obtain ⟨v, z1, z2, z3⟩ := g2 _ _ hi
  obtain ⟨w, rfl, hw⟩ := z2.int
  by_cases hz : w.toInt ≤ z
  · refine k1 ws ls st H locs ⟨hs.1, ⟨by rw [List.length_set]; exact h0, lv, g1, fun j a ha => ?_, g3⟩, hs.2.2⟩
    rcases ldL_set ha with ⟨rfl, rfl⟩ | ⟨_, hd⟩
    · exact ⟨.int w, z1, ⟨hw.1, hz⟩, z3⟩
    · exact g2 j a hd
  · refine k2 ws ls st H locs ⟨hs.1, ⟨by rw [List.length_set]; exact h0, lv, g1, fun j a ha => ?_, g3⟩, hs.2.2⟩
    rcases ldL_set ha with ⟨rfl, rfl⟩ | ⟨_, hd⟩
    · exact ⟨.int w, z1, ⟨by show z + 1 ≤ w.toInt; omega, hw.2⟩, z3⟩
    · exact g2 j a hd
/-- the top of the stack may be widened -/
theorem w_top {pc : Nat} {L : LO} {S : List AV} {h : AH} {x y : AI} (h1 : y.1 ≤ x.1) (h2 : x.2 ≤ y.2) (k : Wk p l e R s m args below meth c Q G cy b A nL c0 s0 pc L (.inl y :: S) h) : Wk p l e R s m args below meth c Q G cy b A nL c0 s0 pc L (.inl x :: S) h := by
  intro ws ls st H locs hs
  obtain ⟨v, st1, rfl, g1, g2⟩ := hs.2.2.1.cons
  obtain ⟨w, rfl, hw⟩ := g1.int
  exact k ws ls _ H locs ⟨hs.1, hs.2.1, ⟨⟨by omega, by omega⟩, g2⟩, hs.2.2.2⟩
/-- booleans that are all 0 in a stretch -/
theorem s_baldI (C : Cx p c m s args meth G cy A own nm cc nL) {pc a n : Nat} {x : AI} {L : LO} {S : List AV} {h : AH} {ch : List (List AV)} (hd : decode cc pc = .ok (.baload, 1)) (hg : hget h a = some (.inr (3, (n, ch)))) (h1 : 0 ≤ x.1) (h2 : x.2 < (n : Int)) (hv : ∀ j : Nat, x.1 ≤ (j : Int) → (j : Int) ≤ x.2 → pg ch j = some (.inl (0, 0)))
    (k : Wk p l e R s m args below meth c Q G cy b A nL c0 s0 (pc + 1) L (.inl (0, 0) :: S) h) : Wk p l e R s m args below meth c Q G cy b A nL c0 s0 pc L (.inl x :: .inr (.inr (.inl a)) :: S) h := by
  intro ws ls st H locs hs
  obtain ⟨v1, st0, rfl, g0, g00⟩ := hs.2.2.1.cons
  obtain ⟨w, rfl, hw⟩ := g0.int
  obtain ⟨j, hj⟩ : ∃ j : Nat, w.toInt = (j : Int) := ⟨w.toInt.toNat, by omega⟩
  have hs2 : Sim G cy b A s.heap nL ws L (.inl ((j : Int), (j : Int)) :: .inr (.inr (.inl a)) :: S) h ls (.int w :: st0) H locs := ⟨hs.1, hs.2.1, ⟨⟨by show (j : Int) ≤ w.toInt; omega, by show w.toInt ≤ (j : Int); omega⟩, g00⟩, hs.2.2.2⟩
  exact s_bald C hd (Or.inr rfl) hg (by omega) (hv j (by omega) (by omega)) k ws ls (.int w :: st0) H locs hs2
theorem inc_ok {a : AI} (h1 : -2147483648 ≤ a.1) (h2 : a.2 < 2147483647) {x : Int32} (hx : a.1 ≤ x.toInt ∧ x.toInt ≤ a.2) : (a.1 + 1) ≤ (x + Int32.ofInt 1).toInt ∧ (x + Int32.ofInt 1).toInt ≤ (a.2 + 1) := by
  rw [Int32.toInt_add, show (Int32.ofInt 1).toInt = 1 from rfl, bm_id (by omega) (by omega)]
  omega
end WEAK
noncomputable def rowsZ (i : Nat) (h : AH) : Option (Nat × (Nat × List (List AV))) := match hget h i with
  | some (.inl (c, fs)) => bif Nat.beq c 12 then (match lg fs 38 with
    | some (.inr (.inr (.inl r))) => (match hget h r with
      | some (.inr (k, (n, ch))) => bif Nat.beq k 3 && Nat.ble 121 n && (List.range 120).all (fun j => decide (pg ch (j + 1) = some (.inl (0, 0)))) then some (r, (n, ch)) else none
      | _ => none)
    | _ => none) else none
  | _ => none
noncomputable def taxS (cal : CAL) (As : List AV) (h : AH) : Option (Option AV × AH) := match As with
  | [.inr (.inr (.inl i)), .inl q] => bif decide (1 ≤ q.1) && decide (q.2 ≤ 120) then (match hget h i with
    | some (.inl (c, fs)) => bif Nat.beq c 12 && Nat.beq fs.length 53 then lsK fs 0 (.inl (0, 0)) (fun fs => hsetK h i (.inl (12, fs)) (fun h0 => match cal 82 [.inl (1, 120), .inl (0, 0), .inl (200, 200)] h0 with
      | some (some (.inl a), h1) => bif decide (a = (1, 1)) then (match cal 88 [.inr (.inr (.inl i)), .inl (0, 20)] h1 with
        | some (none, h2) => (match cal 88 [.inr (.inr (.inl i)), .inl (0, 20)] h2 with
          | some (none, h3) => bif decide (h3 = h2) && isO h1 12 (.inr (.inr (.inl i))) && isO h2 12 (.inr (.inr (.inl i))) then (match rowsZ i h2 with
            | some _ => some (some (.inl (-1, -1)), h2)
            | none => none) else none
          | _ => none)
        | _ => none) else none
      | _ => none)) else none
    | _ => none) else none
  | _ => none
noncomputable def cal1 : CAL := fun y As h => bif Nat.beq y 117 then (match taxS (evG FM 7 100000 11) As h with
  | some r => some r
  | none => cal0 y As h) else cal0 y As h
