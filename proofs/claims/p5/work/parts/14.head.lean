noncomputable def hp0 : AH := (0, (0, List.replicate 7 (List.replicate 32 none)))
noncomputable def cal0 : CAL := evG FM 1 100000 12
def Lw0 : LO := [some (.inr (.inr (.inr 1))), none, none, none, none, none, none]
def Lw : LO := [some (.inr (.inr (.inr 1))), some (.inr (.inr (.inl 0))), some (.inr (.inr (.inl 173))), some (.inr (.inr (.inl 198))), some (.inl (0, 0)), none, none]
noncomputable def headR : Option (LO × (List AV × AH)) := evT cal0 none 23 ft_L_law 100 0 Lw0 [] hp0
noncomputable def headOK : Bool := match headR with
  | some (L, (S, h)) => decide (L = Lw) && (decide (S = []) && (Nat.ble h.1 1000 && Nat.ble h.2.1 100000))
  | none => false
theorem head_ok : headOK = true := by decide +kernel
noncomputable def hS : AH := match headR with
  | some (_, (_, h)) => h
  | none => hp0
theorem head_eq : headR = some (Lw, ([], hS)) ∧ hS.1 ≤ 1000 ∧ hS.2.1 ≤ 100000 := by
  have h := head_ok
  unfold headOK at h
  unfold hS
  split at h
  · rename_i L S hh hr
    simp only [Bool.and_eq_true, decide_eq_true_eq] at h
    obtain ⟨rfl, rfl, h1, h2⟩ := h
    rw [hr]
    exact ⟨rfl, Nat.le_of_ble_eq_true h1, Nat.le_of_ble_eq_true h2⟩
  · cases h
section LAW
variable {p : Program} {l : Launch} {e : Env} {s : State} {m : MethodId} {below : List Frame} {meth : Method} {c : Code} {b : Nat}
variable {G : va_G} {cy : Nat → ClassId}
theorem PM_tok {mr : MR} (h : PM 1 = some mr) : mr.1 = yX10_init ∧ mr.2.1 = cX10_init ∧ mr.2.2.1 = 6 ∧ mr.2.2.2.1 = none := by
  have h2 : PM 1 = some mr_X10_init := rfl
  rw [h2] at h
  obtain rfl := Option.some.inj h
  exact ⟨rfl, rfl, rfl, rfl⟩
theorem cal0_ok : ∀ y mr As h r h', PM y = some mr → cal0 y As h = some (r, h') → Ctr l G cy mr 12 As h r h' := fun y mr As h r h' hp hz => evG_sound PM_ok DF_ok FM_ok (fun d As h r h' mr hd hm hz => tok_ctr hd (PM_tok hm) hz) 12 y mr As h r h' hp hz
abbrev CxL (p : Program) (c : Code) (m : MethodId) (s : State) (b : Nat) (meth : Method) (G : va_G) (cy : Nat → ClassId) : Prop := Cx p c m s #[Value.ref b] meth G cy (fun q : Nat => s.heap.size ≤ q) "MerryDuchyLaw" meth.name cL_law 7
abbrev WkL (p : Program) (l : Launch) (e : Env) (s : State) (m : MethodId) (b : Nat) (below : List Frame) (meth : Method) (c : Code) (G : va_G) (cy : Nat → ClassId) (x0 pc : Nat) (L : LO) (S : List AV) (h : AH) : Prop := Wk p l e room_1 s m #[Value.ref b] below meth c (lw_Z below #[Value.ref b] s) G cy (b, []) (fun q : Nat => s.heap.size ≤ q) 7 x0 0 pc L S h
theorem law_head (C : CxL p c m s b meth G cy) (k : WkL p l e s m b below meth c G cy 1 23 Lw [] hS) : WkL p l e s m b below meth c G cy 1 0 Lw0 [] hp0 := by
  obtain ⟨h1, h2, h3⟩ := head_eq
  exact evT_sound C PM_ok cal0_ok (sc := none) (fun f hf => by cases hf) DF_ok (ot_L_law meth.name) (rt := some .boolean) fk_L_law (by decide) (by decide) ⟨by show hS.1 + 1 - 1 ≤ 601024; omega, by show hS.2.1 - 0 ≤ 7293034; omega⟩ k h1 (Nat.le_add_left _ _) (Nat.zero_le _)
theorem hp0_none (i : Nat) (cc : AC) : hget hp0 i ≠ some cc := by
  intro h
  unfold hget hp0 pg at h
  simp only [lg_eq, List.getElem?_replicate] at h
  by_cases h1 : i / 32 < 7
  · simp only [if_pos h1, List.getElem?_replicate] at h
    rw [if_pos (Nat.mod_lt _ (by decide))] at h
    cases h
  · simp only [if_neg h1] at h
    cases h
end LAW
