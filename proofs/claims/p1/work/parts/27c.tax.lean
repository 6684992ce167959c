/-! tax(t), 1 to 120, on a model without men: its loops by hand. -/
section WEAK
variable {p : Program} {l : Launch} {e : Env} {R : Room} {s : State} {m : MethodId} {args : Array Value} {below : List Frame} {meth : Method} {c : Code} {Q : State → Prop}
variable {G : va_G} {cy : Nat → ClassId} {b : BB} {A : Nat → Prop} {own nm : String} {cc : ByteArray} {nL c0 s0 : Nat}
/-- a local's interval may be widened -/
theorem w_loc {pc i : Nat} {L : LO} {S : List AV} {h : AH} {x y : AI} (hi : ldL L i = some (.inl x)) (h1 : y.1 ≤ x.1) (h2 : x.2 ≤ y.2) (k : Wk p l e R s m args below meth c Q G cy b A nL c0 s0 pc (L.set i (some (.inl y))) S h) : Wk p l e R s m args below meth c Q G cy b A nL c0 s0 pc L S h := by
  intro ws ls st H locs hs
  refine k ws ls st H locs ⟨hs.1, ?_, hs.2.2⟩
  obtain ⟨h0, lv, g1, g2, g3⟩ := hs.2.1
  refine ⟨by rw [List.length_set]; exact h0, lv, g1, fun j a ha => ?_, g3⟩
  rcases ldL_set ha with ⟨rfl, rfl⟩ | ⟨_, hd⟩
  · obtain ⟨v, z1, z2, z3⟩ := g2 _ _ hi
    obtain ⟨w, rfl, hw⟩ := z2.int
    exact ⟨.int w, z1, ⟨by omega, by omega⟩, z3⟩
  · exact g2 j a hd
/-- a local's interval may be cut in two -/
theorem w_cut {pc i : Nat} {L : LO} {S : List AV} {h : AH} {x : AI} (z : Int) (hi : ldL L i = some (.inl x)) (k1 : Wk p l e R s m args below meth c Q G cy b A nL c0 s0 pc (L.set i (some (.inl (x.1, z)))) S h) (k2 : Wk p l e R s m args below meth c Q G cy b A nL c0 s0 pc (L.set i (some (.inl (z + 1, x.2)))) S h) : Wk p l e R s m args below meth c Q G cy b A nL c0 s0 pc L S h := by
  intro ws ls st H locs hs
  obtain ⟨h0, lv, g1, g2, g3⟩ := hs.2.1
  obtain ⟨v, z1, z2, z3⟩ := g2 _ _ hi
  obtain ⟨w, rfl, hw⟩ := z2.int
  by_cases hz : w.toInt ≤ z
  · refine k1 ws ls st H locs ⟨hs.1, ⟨by rw [List.length_set]; exact h0, lv, g1, fun j a ha => ?_, g3⟩, hs.2.2⟩
    rcases ldL_set ha with ⟨rfl, rfl⟩ | ⟨_, hd⟩
    · exact ⟨.int w, z1, ⟨hw.1, hz⟩, z3⟩
    · exact g2 j a hd
  · refine k2 ws ls st H locs ⟨hs.1, ⟨by rw [List.length_set]; exact h0, lv, g1, fun j a ha => ?_, g3⟩, hs.2.2⟩
    rcases ldL_set ha with ⟨rfl, rfl⟩ | ⟨_, hd⟩
    · exact ⟨.int w, z1, ⟨by show z + 1 ≤ w.toInt; omega, hw.2⟩, z3⟩
    · exact g2 j a hd
/-- the top of the stack may be widened -/
theorem w_top {pc : Nat} {L : LO} {S : List AV} {h : AH} {x y : AI} (h1 : y.1 ≤ x.1) (h2 : x.2 ≤ y.2) (k : Wk p l e R s m args below meth c Q G cy b A nL c0 s0 pc L (.inl y :: S) h) : Wk p l e R s m args below meth c Q G cy b A nL c0 s0 pc L (.inl x :: S) h := by
  intro ws ls st H locs hs
  obtain ⟨v, st1, rfl, g1, g2⟩ := hs.2.2.1.cons
  obtain ⟨w, rfl, hw⟩ := g1.int
  exact k ws ls _ H locs ⟨hs.1, hs.2.1, ⟨⟨by omega, by omega⟩, g2⟩, hs.2.2.2⟩
/-- booleans that are all 0 in a stretch -/
theorem s_baldI (C : Cx p c m s args meth G cy A own nm cc nL) {pc a n : Nat} {x : AI} {L : LO} {S : List AV} {h : AH} {ch : List (List AV)} (hd : decode cc pc = .ok (.baload, 1)) (hg : hget h a = some (.inr (3, (n, ch)))) (h1 : 0 ≤ x.1) (h2 : x.2 < (n : Int)) (hv : ∀ j : Nat, x.1 ≤ (j : Int) → (j : Int) ≤ x.2 → pg ch j = some (.inl (0, 0)))
    (k : Wk p l e R s m args below meth c Q G cy b A nL c0 s0 (pc + 1) L (.inl (0, 0) :: S) h) : Wk p l e R s m args below meth c Q G cy b A nL c0 s0 pc L (.inl x :: .inr (.inr (.inl a)) :: S) h := by
  intro ws ls st H locs hs
  obtain ⟨v1, st0, rfl, g0, g00⟩ := hs.2.2.1.cons
  obtain ⟨w, rfl, hw⟩ := g0.int
  obtain ⟨j, hj⟩ : ∃ j : Nat, w.toInt = (j : Int) := ⟨w.toInt.toNat, by omega⟩
  have hs2 : Sim G cy b A s.heap nL ws L (.inl ((j : Int), (j : Int)) :: .inr (.inr (.inl a)) :: S) h ls (.int w :: st0) H locs := ⟨hs.1, hs.2.1, ⟨⟨by show (j : Int) ≤ w.toInt; omega, by show w.toInt ≤ (j : Int); omega⟩, g00⟩, hs.2.2.2⟩
  exact s_bald C hd (Or.inr rfl) hg (by omega) (hv j (by omega) (by omega)) k ws ls (.int w :: st0) H locs hs2
theorem inc_ok {a : AI} (h1 : -2147483648 ≤ a.1) (h2 : a.2 < 2147483647) {x : Int32} (hx : a.1 ≤ x.toInt ∧ x.toInt ≤ a.2) : (a.1 + 1) ≤ (x + Int32.ofInt 1).toInt ∧ (x + Int32.ofInt 1).toInt ≤ (a.2 + 1) := by
  rw [Int32.toInt_add, show (Int32.ofInt 1).toInt = 1 from rfl, bm_id (by omega) (by omega)]
  omega
end WEAK
noncomputable def rowsZ (i : Nat) (h : AH) : Option (Nat × (Nat × List (List AV))) := match hget h i with
  | some (.inl (c, fs)) => bif Nat.beq c 12 then (match lg fs 38 with
    | some (.inr (.inr (.inl r))) => (match hget h r with
      | some (.inr (k, (n, ch))) => bif Nat.beq k 3 && Nat.ble 121 n && (List.range 120).all (fun j => decide (pg ch (j + 1) = some (.inl (0, 0)))) then some (r, (n, ch)) else none
      | _ => none)
    | _ => none) else none
  | _ => none
def dAV : DecidableEq AV := inferInstance
def dLAV : DecidableEq (List AV) := @instDecidableEqList AV dAV
def dAC : DecidableEq AC := @instDecidableEqSum (Nat × List AV) (Nat × (Nat × List (List AV))) (@instDecidableEqProd Nat (List AV) inferInstance dLAV) (@instDecidableEqProd Nat (Nat × List (List AV)) inferInstance (@instDecidableEqProd Nat (List (List AV)) inferInstance (@instDecidableEqList (List AV) dLAV)))
def dOAC : DecidableEq (Option AC) := fun a b => match a, b with
  | none, none => isTrue rfl
  | some x, some y => (match dAC x y with
    | isTrue h => isTrue (congrArg some h)
    | isFalse h => isFalse (fun e => h (Option.some.inj e)))
  | none, some _ => isFalse (fun e => by cases e)
  | some _, none => isFalse (fun e => by cases e)
def dAH : DecidableEq AH := @instDecidableEqProd Nat (Nat × List (List (Option AC))) inferInstance (@instDecidableEqProd Nat (List (List (Option AC))) inferInstance (@instDecidableEqList _ (@instDecidableEqList _ dOAC)))
noncomputable def taxS (cal : CAL) (As : List AV) (h : AH) : Option (Option AV × AH) := match As with
  | [.inr (.inr (.inl i)), .inl q] => bif decide (1 ≤ q.1) && decide (q.2 ≤ 120) then (match hget h i with
    | some (.inl (c, fs)) => bif Nat.beq c 12 && Nat.beq fs.length 53 then lsK fs 0 (.inl (0, 0)) (fun fs => hsetK h i (.inl (12, fs)) (fun h0 => match cal 82 [.inl (1, 120), .inl (0, 0), .inl (200, 200)] h0 with
      | some (some (.inl a), h1) => bif decide (a = (1, 1)) then (match cal 88 [.inr (.inr (.inl i)), .inl (0, 20)] h1 with
        | some (none, h2) => (match cal 88 [.inr (.inr (.inl i)), .inl (0, 20)] h2 with
          | some (none, h3) => bif @decide (h3 = h2) (dAH h3 h2) && isO h1 12 (.inr (.inr (.inl i))) && isO h2 12 (.inr (.inr (.inl i))) then (match rowsZ i h2 with
            | some _ => some (some (.inl (-1, -1)), h2)
            | none => none) else none
          | _ => none)
        | _ => none) else none
      | _ => none)) else none
    | _ => none) else none
  | _ => none
noncomputable def cal1 : CAL := fun y As h => bif Nat.beq y 117 then (match taxS (evG FM 7 100000 11) As h with
  | some r => some r
  | none => cal0 y As h) else cal0 y As h
section TAXW
variable {p : Program} {l : Launch} {e : Env} {R : Room} {s : State} {m : MethodId} {args : Array Value} {below : List Frame} {meth : Method} {c : Code} {Q : State → Prop}
variable {G : va_G} {cy : Nat → ClassId} {b : BB} {A : Nat → Prop} {c0 s0 : Nat}
def LT (i : Nat) (t mo su : AI) : LO := [some (.inr (.inr (.inl i))), some (.inl t), some (.inl mo), some (.inl su), none, none, none]
theorem tax_in (C : Cx p c m s args meth G cy A "MerryDuchyModel" "tax" cX12_tax 7) {i r n : Nat} {fs : List AV} {ch : List (List AV)} {h2 : AH} (y1 : hget h2 i = some (.inl (12, fs))) (y2 : fs[38]? = some (.inr (.inr (.inl r)))) (y3 : hget h2 r = some (.inr (3, (n, ch)))) (y4 : 121 ≤ n) (y5 : ∀ j : Nat, (1 : Int) ≤ (j : Int) → (j : Int) ≤ 120 → pg ch j = some (.inl (0, 0))) {t mo : AI}
    (k : Wk p l e R s m args below meth c Q G cy b A 7 c0 s0 23 (LT i t mo (121, 121)) [] h2) : ∀ j : Nat, j ≤ 120 → Wk p l e R s m args below meth c Q G cy b A 7 c0 s0 45 (LT i t mo (121 - (j : Int), 121)) [] h2
  | 0, _ => by
    refine s_iload (i := 3) (a := (121, 121)) rfl (fun H locs ls st x hx kk => lv_iload_n C.1 C.2.1 dd_X12_tax_45 rfl hx kk) ?_
    refine s_push (v := 120) (a := (120, 120)) (fun H locs ls st kk => lv_bipush C.1 C.2.1 dd_X12_tax_46 (by decide) kk) ⟨by decide, by decide⟩ ?_
    exact s_icmp (t := 23) (pc2 := 23) (r := true) C dd_X12_tax_48 (by decide) (by decide) (Or.inl ⟨rfl, rfl⟩) k
  | j + 1, hj => by
    have e1 : ((121 : Int) - ((j + 1 : Nat) : Int)) + 1 = 121 - (j : Int) := by omega
    refine w_cut (i := 3) (x := (121 - ((j + 1 : Nat) : Int), 121)) 120 rfl ?_ (tax_in C y1 y2 y3 y4 y5 k 0 (by decide))
    refine s_iload (i := 3) (a := (121 - ((j + 1 : Nat) : Int), 120)) rfl (fun H locs ls st x hx kk => lv_iload_n C.1 C.2.1 dd_X12_tax_45 rfl hx kk) ?_
    refine s_push (v := 120) (a := (120, 120)) (fun H locs ls st kk => lv_bipush C.1 C.2.1 dd_X12_tax_46 (by decide) kk) ⟨by decide, by decide⟩ ?_
    refine s_icmp (t := 23) (pc2 := 51) (r := false) C dd_X12_tax_48 ?_ (by decide) (Or.inr ⟨rfl, rfl⟩) ?_
    · show lt3 (120, 120) (121 - ((j + 1 : Nat) : Int), 120) = some false
      unfold lt3
      have d1 : decide ((120 : Int) < 121 - ((j + 1 : Nat) : Int)) = false := by simp; omega
      simp only [d1, cond_false]
      rfl
    refine s_aload (i := 0) (a := .inl i) rfl (fun H locs ls st x hx kk => lv_aload_n C.1 C.2.1 dd_X12_tax_51 rfl hx kk) (fun H locs ls st hx kk => lv_aload_nN C.1 C.2.1 dd_X12_tax_51 rfl hx kk) ?_
    refine s_get C (x := 12) (y := 38) dd_X12_tax_52 ⟨RX12, TX12, 53, rfl, by decide, q_f_MerryDuchyModel_154⟩ y1 y2 ?_
    refine s_iload (i := 3) (a := (121 - ((j + 1 : Nat) : Int), 120)) rfl (fun H locs ls st x hx kk => lv_iload_n C.1 C.2.1 dd_X12_tax_55 rfl hx kk) ?_
    refine s_baldI C dd_X12_tax_56 y3 (by show (0 : Int) ≤ 121 - ((j + 1 : Nat) : Int); omega) (by show (120 : Int) < (n : Int); omega) (fun z z1 z2 => y5 z (by have z1 : 121 - ((j + 1 : Nat) : Int) ≤ (z : Int) := z1; omega) z2) ?_
    refine s_if (t := 23) (pc2 := 60) (r := false) C dd_X12_tax_57 (by decide) (by decide) (Or.inr ⟨rfl, rfl⟩) ?_
    refine s_iinc (i := 3) (n := 1) (r := (121 - (j : Int), 121)) C dd_X12_tax_60 (a := (121 - ((j + 1 : Nat) : Int), 120)) rfl (by show _ < 7; omega) (fun x hx => ?_) ?_
    · have := inc_ok (a := (121 - ((j + 1 : Nat) : Int), 120)) (by show (-2147483648 : Int) ≤ 121 - ((j + 1 : Nat) : Int); omega) (by show (120 : Int) < 2147483647; decide) hx
      rw [← e1]
      exact this
    refine s_goto C (t := 45) dd_X12_tax_63 (by decide) ?_
    exact tax_in C y1 y2 y3 y4 y5 k j (by omega)
/-- one more reach is laid, the sum looked for, to the outer loop's head -/
theorem tax_lay (C : Cx p c m s args meth G cy A "MerryDuchyModel" "tax" cX12_tax 7) {i r n : Nat} {fs : List AV} {ch : List (List AV)} {h1 h2 : AH} {mo su : AI} (hm1 : 0 ≤ mo.1) (hm2 : mo.2 ≤ 20) (y1 : hget h2 i = some (.inl (12, fs))) (y2 : fs[38]? = some (.inr (.inr (.inl r)))) (y3 : hget h2 r = some (.inr (3, (n, ch)))) (y4 : 121 ≤ n) (y5 : ∀ j : Nat, (1 : Int) ≤ (j : Int) → (j : Int) ≤ 120 → pg ch j = some (.inl (0, 0)))
    (ho : isO h1 12 (.inr (.inr (.inl i))) = true) (t3 : Ctr l G cy mr_X12_layReach 11 [.inr (.inr (.inl i)), .inl (0, 20)] h1 none h2) (hRf : 12 ≤ R.frames) (hRl : 1200 ≤ R.locals) (hc0 : c0 ≤ h1.1 + 1) (hs0 : s0 ≤ h1.2.1) (hRc : h2.1 + 1 - c0 ≤ R.cells ∧ h2.2.1 - s0 ≤ R.slots)
    (k : Wk p l e R s m args below meth c Q G cy b A 7 c0 s0 23 (LT i (1, 120) mo (121, 121)) [] h2) : Wk p l e R s m args below meth c Q G cy b A 7 c0 s0 38 (LT i (1, 120) mo su) [] h1 := by
  refine s_aload (i := 0) (a := .inl i) rfl (fun H locs ls st x hx kk => lv_aload_n C.1 C.2.1 dd_X12_tax_38 rfl hx kk) (fun H locs ls st hx kk => lv_aload_nN C.1 C.2.1 dd_X12_tax_38 rfl hx kk) ?_
  refine s_iload (i := 2) (a := mo) rfl (fun H locs ls st x hx kk => lv_iload_n C.1 C.2.1 dd_X12_tax_39 rfl hx kk) ?_
  refine w_top (y := (0, 20)) hm1 hm2 ?_
  refine s_call C (mr := mr_X12_layReach) (d := 11) (x := 1) (As := [.inr (.inr (.inl i)), .inl (0, 20)]) (S := []) (r := none) (Or.inr (Or.inl ⟨rfl, dd_X12_tax_40⟩)) ⟨nb_X12_layReach.1, nb_X12_layReach.2.1, 1, nb_X12_layReach.2.2, Or.inr (Or.inl ⟨rfl, rfl, q_m_MerryDuchyModel_345, q_v_X12_layReach, q_e_X12_layReach, TX12, 53, rfl⟩)⟩ rfl q_k_X12_layReach (by decide) (fun _ => ⟨_, _, rfl, ho⟩) (fun h => absurd h (by decide)) t3 (by decide) hRf (by omega) hc0 hs0 hRc ?_
  refine s_iload (i := 1) (a := (1, 120)) rfl (fun H locs ls st x hx kk => lv_iload_n C.1 C.2.1 dd_X12_tax_43 rfl hx kk) ?_
  refine s_store (i := 3) (a := .inl (1, 120)) rfl (by show _ < 7; omega) (fun H locs ls st lv ws x hx hlv hn kk => by obtain ⟨x, rfl, _⟩ := hx.int; exact lv_istore_n C.1 C.2.1 dd_X12_tax_44 rfl hlv hn rfl kk) ?_
  refine w_loc (i := 3) (x := (1, 120)) (y := (121 - ((120 : Nat) : Int), 121)) rfl (by decide) (by decide) ?_
  exact tax_in C y1 y2 y3 y4 y5 k 120 (by decide)
theorem tax_out (C : Cx p c m s args meth G cy A "MerryDuchyModel" "tax" cX12_tax 7) {i r n : Nat} {fs : List AV} {ch : List (List AV)} {h2 : AH} (y1 : hget h2 i = some (.inl (12, fs))) (y2 : fs[38]? = some (.inr (.inr (.inl r)))) (y3 : hget h2 r = some (.inr (3, (n, ch)))) (y4 : 121 ≤ n) (y5 : ∀ j : Nat, (1 : Int) ≤ (j : Int) → (j : Int) ≤ 120 → pg ch j = some (.inl (0, 0)))
    (ho : isO h2 12 (.inr (.inr (.inl i))) = true) (t3 : Ctr l G cy mr_X12_layReach 11 [.inr (.inr (.inl i)), .inl (0, 20)] h2 none h2) (hRf : 12 ≤ R.frames) (hRl : 1200 ≤ R.locals) (hc0 : c0 ≤ h2.1 + 1) (hs0 : s0 ≤ h2.2.1) (hRc : h2.1 + 1 - c0 ≤ R.cells ∧ h2.2.1 - s0 ≤ R.slots)
    (k : ∀ L, L.length = 7 → Wk p l e R s m args below meth c Q G cy b A 7 c0 s0 73 L [.inl (-1, -1)] h2) : ∀ j : Nat, j ≤ 20 → Wk p l e R s m args below meth c Q G cy b A 7 c0 s0 23 (LT i (1, 120) (20 - (j : Int), 20) (121, 121)) [] h2
  | 0, _ => by
    refine s_iload (i := 3) (a := (121, 121)) rfl (fun H locs ls st x hx kk => lv_iload_n C.1 C.2.1 dd_X12_tax_23 rfl hx kk) ?_
    refine s_push (v := 120) (a := (120, 120)) (fun H locs ls st kk => lv_bipush C.1 C.2.1 dd_X12_tax_24 (by decide) kk) ⟨by decide, by decide⟩ ?_
    refine s_icmp (t := 66) (pc2 := 29) (r := false) C dd_X12_tax_26 (by decide) (by decide) (Or.inr ⟨rfl, rfl⟩) ?_
    refine s_iload (i := 2) (a := (20, 20)) rfl (fun H locs ls st x hx kk => lv_iload_n C.1 C.2.1 dd_X12_tax_29 rfl hx kk) ?_
    refine s_push (v := 20) (a := (20, 20)) (fun H locs ls st kk => lv_bipush C.1 C.2.1 dd_X12_tax_30 (by decide) kk) ⟨by decide, by decide⟩ ?_
    refine s_icmp (t := 66) (pc2 := 66) (r := true) C dd_X12_tax_32 (by decide) (by decide) (Or.inl ⟨rfl, rfl⟩) ?_
    refine s_iload (i := 3) (a := (121, 121)) rfl (fun H locs ls st x hx kk => lv_iload_n C.1 C.2.1 dd_X12_tax_66 rfl hx kk) ?_
    refine s_push (v := 120) (a := (120, 120)) (fun H locs ls st kk => lv_bipush C.1 C.2.1 dd_X12_tax_67 (by decide) kk) ⟨by decide, by decide⟩ ?_
    refine s_icmp (t := 74) (pc2 := 72) (r := false) C dd_X12_tax_69 (by decide) (by decide) (Or.inr ⟨rfl, rfl⟩) ?_
    refine s_push (v := -1) (a := (-1, -1)) (fun H locs ls st kk => lv_iconst C.1 C.2.1 dd_X12_tax_72 (by decide) kk) ⟨by decide, by decide⟩ ?_
    exact k _ rfl
  | j + 1, hj => by
    have e1 : ((20 : Int) - ((j + 1 : Nat) : Int)) + 1 = 20 - (j : Int) := by omega
    refine w_cut (i := 2) (x := (20 - ((j + 1 : Nat) : Int), 20)) 19 rfl ?_ (tax_out C y1 y2 y3 y4 y5 ho t3 hRf hRl hc0 hs0 hRc k 0 (by decide))
    refine s_iload (i := 3) (a := (121, 121)) rfl (fun H locs ls st x hx kk => lv_iload_n C.1 C.2.1 dd_X12_tax_23 rfl hx kk) ?_
    refine s_push (v := 120) (a := (120, 120)) (fun H locs ls st kk => lv_bipush C.1 C.2.1 dd_X12_tax_24 (by decide) kk) ⟨by decide, by decide⟩ ?_
    refine s_icmp (t := 66) (pc2 := 29) (r := false) C dd_X12_tax_26 (by decide) (by decide) (Or.inr ⟨rfl, rfl⟩) ?_
    refine s_iload (i := 2) (a := (20 - ((j + 1 : Nat) : Int), 19)) rfl (fun H locs ls st x hx kk => lv_iload_n C.1 C.2.1 dd_X12_tax_29 rfl hx kk) ?_
    refine s_push (v := 20) (a := (20, 20)) (fun H locs ls st kk => lv_bipush C.1 C.2.1 dd_X12_tax_30 (by decide) kk) ⟨by decide, by decide⟩ ?_
    refine s_icmp (t := 66) (pc2 := 35) (r := false) C dd_X12_tax_32 rfl (by decide) (Or.inr ⟨rfl, rfl⟩) ?_
    refine s_iinc (i := 2) (n := 1) (r := (20 - (j : Int), 20)) C dd_X12_tax_35 (a := (20 - ((j + 1 : Nat) : Int), 19)) rfl (by show _ < 7; omega) (fun x hx => ?_) ?_
    · have := inc_ok (a := (20 - ((j + 1 : Nat) : Int), 19)) (by show (-2147483648 : Int) ≤ 20 - ((j + 1 : Nat) : Int); omega) (by show (19 : Int) < 2147483647; decide) hx
      rw [← e1]
      exact this
    refine tax_lay C (mo := (20 - (j : Int), 20)) (by show (0 : Int) ≤ 20 - (j : Int); omega) (by show (20 : Int) ≤ 20; decide) y1 y2 y3 y4 y5 ho t3 hRf hRl hc0 hs0 hRc ?_
    exact tax_out C y1 y2 y3 y4 y5 ho t3 hRf hRl hc0 hs0 hRc k j (by omega)
end TAXW
section TAX
variable {l : Launch} {G : va_G} {cy : Nat → ClassId}
theorem rowsZ_ok {i : Nat} {h : AH} {q : Nat × (Nat × List (List AV))} (hz : rowsZ i h = some q) : ∃ fs, hget h i = some (.inl (12, fs)) ∧ fs[38]? = some (.inr (.inr (.inl q.1))) ∧ hget h q.1 = some (.inr (3, (q.2.1, q.2.2))) ∧ 121 ≤ q.2.1 ∧ ∀ j : Nat, (1 : Int) ≤ (j : Int) → (j : Int) ≤ 120 → pg q.2.2 j = some (.inl (0, 0)) := by
  unfold rowsZ at hz
  split at hz
  · rename_i c fs hg
    cases hc : Nat.beq c 12 with
    | false => rw [hc] at hz; cases hz
    | true =>
      obtain rfl := Nat.eq_of_beq_eq_true hc
      simp only [hc, cond_true] at hz
      split at hz
      · rename_i r hr
        split at hz
        · rename_i k n ch hk
          cases hb : (Nat.beq k 3 && Nat.ble 121 n && (List.range 120).all (fun j => decide (pg ch (j + 1) = some (.inl (0, 0))))) with
          | false => rw [hb] at hz; cases hz
          | true =>
            simp only [hb, cond_true, Option.some.injEq] at hz
            subst hz
            simp only [Bool.and_eq_true] at hb
            obtain ⟨⟨h1, h2⟩, h3⟩ := hb
            obtain rfl := Nat.eq_of_beq_eq_true h1
            refine ⟨fs, hg, by rw [← lg_eq]; exact hr, hk, Nat.le_of_ble_eq_true h2, fun j j1 j2 => ?_⟩
            have h4 := List.all_eq_true.mp h3 (j - 1) (List.mem_range.mpr (by omega))
            have h5 := of_decide_eq_true h4
            rw [show j - 1 + 1 = j by omega] at h5
            exact h5
        · cases hz
      · cases hz
  · cases hz
theorem tax_ctr {cal : CAL} (hcal : ∀ y mr As h r h', PM y = some mr → cal y As h = some (r, h') → Ctr l G cy mr 11 As h r h') {As : List AV} {h : AH} {r : Option AV} {h' : AH} (hz : taxS cal As h = some (r, h')) : Ctr l G cy mr_X12_tax 12 As h r h' := by
  unfold taxS at hz
  split at hz
  · rename_i i q
    cases hb0 : (decide (1 ≤ q.1) && decide (q.2 ≤ 120)) with
    | false => rw [hb0] at hz; cases hz
    | true =>
    simp only [hb0, cond_true] at hz
    simp only [Bool.and_eq_true, decide_eq_true_eq] at hb0
    split at hz
    · rename_i c fs hg
      cases hb1 : (Nat.beq c 12 && Nat.beq fs.length 53) with
      | false => rw [hb1] at hz; cases hz
      | true =>
      simp only [hb1, cond_true, lsK_eq, hsetK_eq] at hz
      simp only [Bool.and_eq_true] at hb1
      obtain rfl := Nat.eq_of_beq_eq_true hb1.1
      have hlen := Nat.eq_of_beq_eq_true hb1.2
      generalize e0 : hset h i (.inl (12, fs.set 0 (.inl (0, 0)))) = h0 at hz
      split at hz
      · rename_i a h1 hc1
        cases hb2 : decide (a = (1, 1)) with
        | false => rw [hb2] at hz; cases hz
        | true =>
        simp only [hb2, cond_true] at hz
        obtain rfl := of_decide_eq_true hb2
        split at hz
        · rename_i h2 hc2
          split at hz
          · rename_i h3 hc3
            cases hb3 : (@decide (h3 = h2) (dAH h3 h2) && isO h1 12 (.inr (.inr (.inl i))) && isO h2 12 (.inr (.inr (.inl i)))) with
            | false => rw [hb3] at hz; cases hz
            | true =>
            simp only [hb3, cond_true] at hz
            simp only [Bool.and_eq_true, decide_eq_true_eq] at hb3
            obtain ⟨⟨rfl, ho1⟩, ho2⟩ := hb3
            split at hz
            · rename_i w hw
              simp only [Option.some.injEq, Prod.mk.injEq] at hz
              obtain ⟨rfl, rfl⟩ := hz
              obtain ⟨fs2, y1, y2, y3, y4, y5⟩ := rowsZ_ok hw
              have t1 := hcal 82 mr_X12_isIn _ _ _ _ rfl hc1
              have t2 := hcal 88 mr_X12_layReach _ _ _ _ rfl hc2
              have t3 := hcal 88 mr_X12_layReach _ _ _ _ rfl hc3
              have a0 : h0.1 = h.1 ∧ h0.2.1 = h.2.1 := by rw [← e0]; exact ⟨rfl, rfl⟩
              have b1 := t1.1
              have b1' := t1.2.1
              have b2 := t2.1
              have b2' := t2.2.1
              refine ⟨by omega, by omega, fun b vs ws sz hgs hgh => ?_⟩
              refine Met.ofW (cc := cX12_tax) (maxL := 7) (ret := some .int) (by decide +kernel) rfl ?_
              intro p e s m args below meth c s₁ B hml hv
              obtain ⟨rfl, hsz, hPw, hK, hD0, hE⟩ := hv
              have hts := atoms_spec (ws := Cond.code yX12_tax cX12_tax 7 (some .int) :: gtbl) B.pre
              subst hsz
              have hD := hD0.self (sz := s.heap.size)
              have hlocks := B.notSynchronized
              have C : Cx p c m s vs.toArray meth G cy (va_A ws s.heap.size) "MerryDuchyModel" "tax" cX12_tax 7 := ⟨B.exec, B.bytes, hml, findClass_of_methodNamed B.named, fun w hw => hts w (List.mem_cons_of_mem _ hw), hK, fun q hq => Or.inr hq, (name_of_methodNamed B.named B.method).1, hE⟩
              rw [lg_entry_eq]
              have g0 : hget h0 i = some (.inl (12, fs.set 0 (.inl (0, 0)))) := by rw [← e0]; exact hget_self hg
              have hRl : 1200 ≤ (rmD 12 (h3.1 - h.1) (h3.2.1 - h.2.1)).locals := by show 1200 ≤ 100 * 12; omega
              have key : Wk p l e (rmD 12 (h3.1 - h.1) (h3.2.1 - h.2.1)) s m vs.toArray below meth c (MQ below (Qg G cy b ws s.heap.size (some (.inl (-1, -1))) h3) vs.toArray s (h3.1 - h.1) (h3.2.1 - h.2.1) (va_A ws s.heap.size)) G cy (b, ws) (va_A ws s.heap.size) 7 (h.1 + 1) h.2.1 0 ([Sum.inr (Sum.inr (Sum.inl i)), Sum.inl q].map some ++ List.replicate (7 - 2) none) [] h := by
                refine w_loc (i := 1) (x := q) (y := (1, 120)) rfl hb0.1 hb0.2 ?_
                refine s_aload (i := 0) (a := .inl i) rfl (fun H locs ls st x hx kk => lv_aload_n C.1 C.2.1 dd_X12_tax_0 rfl hx kk) (fun H locs ls st hx kk => lv_aload_nN C.1 C.2.1 dd_X12_tax_0 rfl hx kk) ?_
                refine s_push (v := 0) (a := (0, 0)) (fun H locs ls st kk => lv_iconst C.1 C.2.1 dd_X12_tax_1 (by decide) kk) ⟨by decide, by decide⟩ ?_
                refine s_put C (x := 12) (y := 0) (z := 0) dd_X12_tax_2 ⟨RX12, TX12, 53, tyX12 0, rfl, by decide, q_f_MerryDuchyModel_1, tyX12_ok 0 (by decide), Or.inl ⟨rfl, rfl⟩, Or.inl rfl⟩ hg rfl (by omega) ?_
                rw [e0]
                refine s_iload (i := 1) (a := (1, 120)) rfl (fun H locs ls st x hx kk => lv_iload_n C.1 C.2.1 dd_X12_tax_5 rfl hx kk) ?_
                refine s_push (v := 0) (a := (0, 0)) (fun H locs ls st kk => lv_iconst C.1 C.2.1 dd_X12_tax_6 (by decide) kk) ⟨by decide, by decide⟩ ?_
                refine s_push (v := 200) (a := (200, 200)) (fun H locs ls st kk => lv_sipush C.1 C.2.1 dd_X12_tax_7 (by decide) kk) ⟨by decide, by decide⟩ ?_
                refine s_call C (mr := mr_X12_isIn) (d := 11) (x := 0) (As := [.inl (1, 120), .inl (0, 0), .inl (200, 200)]) (S := []) (r := some (.inl (1, 1))) (Or.inl ⟨Or.inl rfl, dd_X12_tax_10⟩) ⟨nb_X12_isIn.1, nb_X12_isIn.2.1, 3, nb_X12_isIn.2.2, Or.inl ⟨rfl, rfl, q_m_MerryDuchyModel_75, q_s_X12_isIn⟩⟩ rfl q_k_X12_isIn (by decide) (fun h => absurd h (by decide)) (fun h => absurd h (by decide)) t1 (by decide) (by show 11 + 1 ≤ 12; omega) (by show 100 * 11 + 100 ≤ 100 * 12; omega) (by omega) (by omega) ⟨by show h1.1 + 1 - (h.1 + 1) ≤ h3.1 - h.1; omega, by show h1.2.1 - h.2.1 ≤ h3.2.1 - h.2.1; omega⟩ ?_
                refine s_if (t := 18) (pc2 := 18) (r := true) C dd_X12_tax_13 (by decide) (by decide) (Or.inl ⟨rfl, rfl⟩) ?_
                refine s_push (v := -1) (a := (-1, -1)) (fun H locs ls st kk => lv_iconst C.1 C.2.1 dd_X12_tax_18 (by decide) kk) ⟨by decide, by decide⟩ ?_
                refine s_store (i := 2) (a := .inl (-1, -1)) rfl (by show _ < 7; omega) (fun H locs ls st lv ws x hx hlv hn kk => by obtain ⟨x, rfl, _⟩ := hx.int; exact lv_istore_n C.1 C.2.1 dd_X12_tax_19 rfl hlv hn rfl kk) ?_
                refine s_push (v := 121) (a := (121, 121)) (fun H locs ls st kk => lv_bipush C.1 C.2.1 dd_X12_tax_20 (by decide) kk) ⟨by decide, by decide⟩ ?_
                refine s_store (i := 3) (a := .inl (121, 121)) rfl (by show _ < 7; omega) (fun H locs ls st lv ws x hx hlv hn kk => by obtain ⟨x, rfl, _⟩ := hx.int; exact lv_istore_n C.1 C.2.1 dd_X12_tax_22 rfl hlv hn rfl kk) ?_
                refine s_iload (i := 3) (a := (121, 121)) rfl (fun H locs ls st x hx kk => lv_iload_n C.1 C.2.1 dd_X12_tax_23 rfl hx kk) ?_
                refine s_push (v := 120) (a := (120, 120)) (fun H locs ls st kk => lv_bipush C.1 C.2.1 dd_X12_tax_24 (by decide) kk) ⟨by decide, by decide⟩ ?_
                refine s_icmp (t := 66) (pc2 := 29) (r := false) C dd_X12_tax_26 (by decide) (by decide) (Or.inr ⟨rfl, rfl⟩) ?_
                refine s_iload (i := 2) (a := (-1, -1)) rfl (fun H locs ls st x hx kk => lv_iload_n C.1 C.2.1 dd_X12_tax_29 rfl hx kk) ?_
                refine s_push (v := 20) (a := (20, 20)) (fun H locs ls st kk => lv_bipush C.1 C.2.1 dd_X12_tax_30 (by decide) kk) ⟨by decide, by decide⟩ ?_
                refine s_icmp (t := 66) (pc2 := 35) (r := false) C dd_X12_tax_32 (by decide) (by decide) (Or.inr ⟨rfl, rfl⟩) ?_
                refine s_iinc (i := 2) (n := 1) (r := (0, 0)) C dd_X12_tax_35 (a := (-1, -1)) rfl (by show _ < 7; omega) (fun x hx => inc_ok (a := (-1, -1)) (by decide) (by decide) hx) ?_
                refine w_loc (i := 2) (x := (0, 0)) (y := (20 - ((20 : Nat) : Int), 20)) rfl (by decide) (by decide) ?_
                refine tax_lay C (mo := (20 - ((20 : Nat) : Int), 20)) (su := (121, 121)) (by decide) (by decide) y1 y2 y3 y4 y5 ho1 t2 (by show 12 ≤ 12; omega) hRl (by omega) (by omega) ⟨by show h3.1 + 1 - (h.1 + 1) ≤ h3.1 - h.1; omega, Nat.le_refl _⟩ ?_
                refine tax_out C y1 y2 y3 y4 y5 ho2 t3 (by show 12 ≤ 12; omega) hRl (by omega) (by omega) ⟨by show h3.1 + 1 - (h.1 + 1) ≤ h3.1 - h.1; omega, Nat.le_refl _⟩ (fun L hL => ?_) 20 (by decide)
                intro ws1 ls st H locs hs
                obtain ⟨v, st1, rfl, gv, g2⟩ := hs.2.2.1.cons
                obtain rfl := g2.nil
                obtain ⟨x, rfl, hx⟩ := gv.int
                refine W.widen (k := h3.1 - h.1) (n := h3.2.1 - h.2.1) (by omega) (Nat.le_refl _) ?_
                exact W.zret (ty := .int) C.1 C.2.1 B.returns rfl (fun t hth hW => ⟨⟨_, ws1, rfl, by rw [hth]; exact hs.2.2.2.1, hs.2.2.2.2.1, hs.1, hs.2.1.from, hx⟩, hs.2.2.2.2.2.F hth⟩) hs.2.2.2.2.2.2.2 dd_X12_tax_73
              have hw1 := key ws _ [] s.heap [] ⟨hgh, gL_entry hgs rfl rfl (by decide), trivial, hPw, hD, va_S.rf⟩
              rw [Nat.sub_self, Nat.sub_self] at hw1
              exact hw1
            · cases hz
          · cases hz
        · cases hz
      · cases hz
    · cases hz
  · cases hz
end TAX
section TAXL
variable {l : Launch} {G : va_G} {cy : Nat → ClassId}
theorem cal11_ok : ∀ y mr As h r h', PM y = some mr → evG FM 7 100000 11 y As h = some (r, h') → Ctr l G cy mr 11 As h r h' := fun y mr As h r h' hp hz => evG_sound PM_ok DF_ok FM_ok (fun d As h r h' mr hd hm hz => tok_ctr hd (PM_tok hm) hz) 11 y mr As h r h' hp hz
theorem PM_tax {mr : MR} (h : PM 117 = some mr) : mr = mr_X12_tax := by
  have h2 : PM 117 = some mr_X12_tax := rfl
  rw [h2] at h
  exact (Option.some.inj h).symm
theorem cal1_ok : ∀ y mr As h r h', PM y = some mr → cal1 y As h = some (r, h') → Ctr l G cy mr 12 As h r h' := by
  intro y mr As h r h' hp hz
  unfold cal1 at hz
  cases hy : Nat.beq y 117 with
  | false =>
    rw [hy] at hz
    exact cal0_ok y mr As h r h' hp hz
  | true =>
    rw [hy] at hz
    simp only [cond_true] at hz
    split at hz
    · rename_i q hq
      obtain rfl := Nat.eq_of_beq_eq_true hy
      obtain rfl := PM_tax hp
      obtain rfl := Option.some.inj hz
      exact tax_ctr cal11_ok hq
    · exact cal0_ok y mr As h r h' hp hz
end TAXL
noncomputable def taxB : Bool := match headR with
  | some (_, (_, h)) => chkG cal1 (tg 28) Lw [] (fb ((1, 120), ((-2147483648, 2147483647), (-2147483648, 2147483647)))) h
  | none => false
theorem tax_run : taxB = true := by decide +kernel
theorem tax_get : chkG cal1 (tg 28) Lw [] (fb ((1, 120), ((-2147483648, 2147483647), (-2147483648, 2147483647)))) hS = true := by
  have h := tax_run
  unfold taxB at h
  rw [head_eq.1] at h
  exact h
