/-! No tape at the start, both rows of zeros; the key words. -/
noncomputable def ok0f (h : AH) (c i : Nat) : Bool := match hget h c with
  | some (.inl (_, as)) => (match as[i]? with
    | some (.inl p) => decide (p = (0, 0))
    | _ => false)
  | _ => false
theorem rdI_0f {cy : Nat → ClassId} {b : Nat} {ws : va_W} {h : AH} (hg : gH cy b ws h) {c i : Nat} (hk : ok0f h c i = true) : rdI ws c i = 0 := by
  unfold ok0f at hk
  split at hk
  · rename_i ci as ha
    split at hk
    · rename_i p hp
      have e3 : p = (0, 0) := of_decide_eq_true hk
      subst e3
      obtain ⟨q, e, h1, h2⟩ := hg.2 c _ ha
      obtain ⟨vs, rfl, h3, h4⟩ := h2.obj
      obtain ⟨v, h6, h7⟩ := h4 i _ hp
      obtain ⟨x, rfl, hx⟩ := h7.int
      unfold rdI
      rw [h1]
      simp only [h6]
      have h8 : (0 : Int) ≤ x.toInt ∧ x.toInt ≤ 0 := hx
      omega
    · cases hk
  · cases hk
noncomputable def ok0v (ch : List (List AV)) (i : Nat) : Bool := match pg ch i with
  | some (.inl p) => decide (p = (0, 0))
  | _ => false
noncomputable def ok0a (h : AH) (c n : Nat) : Bool := match hget h c with
  | some (.inr (kd, (m, ch))) => (Nat.beq kd 0 || Nat.beq kd 1) && (Nat.beq m n && (List.range n).all (ok0v ch))
  | _ => false
theorem rdI_0a {cy : Nat → ClassId} {b : Nat} {ws : va_W} {h : AH} (hg : gH cy b ws h) {c n i : Nat} (hk : ok0a h c n = true) (hi : i < n) : rdI ws c i = 0 := by
  unfold ok0a at hk
  split at hk
  · rename_i kd m ch ha
    simp only [Bool.and_eq_true] at hk
    obtain ⟨e1, e2, e3⟩ := hk
    have e2 := Nat.eq_of_beq_eq_true e2
    subst e2
    have hkd : kd = 0 ∨ kd = 1 := by
      rcases (Bool.or_eq_true _ _).mp e1 with e | e
      · exact Or.inl (Nat.eq_of_beq_eq_true e)
      · exact Or.inr (Nat.eq_of_beq_eq_true e)
    have e4 := List.all_eq_true.mp e3 i (List.mem_range.mpr hi)
    unfold ok0v at e4
    split at e4
    · rename_i p hp
      have e5 : p = (0, 0) := of_decide_eq_true e4
      subst e5
      obtain ⟨q, e, h1, h2⟩ := hg.2 c _ ha
      obtain ⟨r, rfl, -, h3⟩ := h2.arr
      rcases h3 with ⟨_, f, h4, h5⟩ | ⟨h4, _⟩ | ⟨h4, _⟩
      · have h4 : r = .inl f := h4
        subst h4
        unfold rdI
        rw [h1]
        simp only [if_pos hi]
        have h6 : (0 : Int) ≤ (f i).toInt ∧ (f i).toInt ≤ 0 := h5 i _ hi hp
        omega
      · omega
      · omega
    · cases e4
  · cases hk
noncomputable def okK (h : AH) (i : Nat) : Bool := match hget h 3 with
  | some (.inr (kd, (n, ch))) => Nat.beq kd 2 && (Nat.blt i n && (match pg ch i with
    | some (.inr (.inl (some x))) => decide (x = kwL i)
    | _ => false))
  | _ => false
theorem rdL_k {cy : Nat → ClassId} {b : Nat} {ws : va_W} {h : AH} (hg : gH cy b ws h) {i : Nat} (hk : okK h i = true) : rdL ws 3 i = kwL i := by
  unfold okK at hk
  split at hk
  · rename_i kd n ch ha
    simp only [Bool.and_eq_true] at hk
    obtain ⟨e1, e2, e3⟩ := hk
    have e1 := Nat.eq_of_beq_eq_true e1
    subst e1
    have hi := Nat.blt_eq.mp e2
    split at e3
    · rename_i x hp
      have e3 : x = kwL i := of_decide_eq_true e3
      obtain ⟨q, e, h1, h2⟩ := hg.2 3 _ ha
      obtain ⟨p, rfl, -, h3⟩ := h2.arr
      rcases h3 with ⟨h4, _⟩ | ⟨_, f, h4, h5⟩ | ⟨h4, _⟩
      · omega
      · have h4 : p = .inr (.inl f) := h4
        subst h4
        unfold rdL
        rw [h1]
        simp only [if_pos hi]
        have h6 : ∀ k, some x = some k → f i = k := h5 i _ hi hp
        exact (h6 x rfl).trans e3
      · omega
    · cases e3
  · cases hk
noncomputable def okX (a : Option AV) (x : Int) : Bool := match a with
  | some (.inl p) => decide (p = (x, x))
  | _ => false
noncomputable def okE (h : AH) (q : Nat × (Nat × Int)) : Bool := match hget h q.1 with
  | some (.inl (_, as)) => okX (as[q.2.1]?) q.2.2
  | some (.inr (kd, (n, ch))) => (Nat.beq kd 0 || (Nat.beq kd 1 || Nat.beq kd 3)) && (Nat.blt q.2.1 n && okX (pg ch q.2.1) q.2.2)
  | none => false
theorem okX_p {a : Option AV} {x : Int} (h : okX a x = true) : a = some (.inl (x, x)) := by
  unfold okX at h
  split at h
  · rename_i p
    have e : p = (x, x) := of_decide_eq_true h
    rw [e]
  · cases h
theorem rdI_E {cy : Nat → ClassId} {b : Nat} {ws : va_W} {h : AH} (hg : gH cy b ws h) {c i : Nat} {x : Int} (hk : okE h (c, (i, x)) = true) : rdI ws c i = x := by
  unfold okE at hk
  split at hk
  · rename_i ci as ha
    have hp := okX_p hk
    obtain ⟨q, e, h1, h2⟩ := hg.2 c _ ha
    obtain ⟨vs, rfl, h3, h4⟩ := h2.obj
    obtain ⟨v, h6, h7⟩ := h4 i _ hp
    obtain ⟨y, rfl, hx⟩ := h7.int
    unfold rdI
    rw [h1]
    simp only [h6]
    have h8 : x ≤ y.toInt ∧ y.toInt ≤ x := hx
    omega
  · rename_i kd n ch ha
    simp only [Bool.and_eq_true] at hk
    obtain ⟨e1, e2, e3⟩ := hk
    have hi : i < n := Nat.blt_eq.mp e2
    have hp := okX_p e3
    have hkd : kd = 0 ∨ kd = 1 ∨ kd = 3 := by
      rcases (Bool.or_eq_true _ _).mp e1 with e | e
      · exact Or.inl (Nat.eq_of_beq_eq_true e)
      · rcases (Bool.or_eq_true _ _).mp e with e | e
        · exact Or.inr (Or.inl (Nat.eq_of_beq_eq_true e))
        · exact Or.inr (Or.inr (Nat.eq_of_beq_eq_true e))
    obtain ⟨q, e, h1, h2⟩ := hg.2 c _ ha
    obtain ⟨r, rfl, -, h3⟩ := h2.arr
    rcases h3 with ⟨_, f, h4, h5⟩ | ⟨h4, _⟩ | ⟨h4, _⟩
    · have h4 : r = .inl f := h4
      subst h4
      unfold rdI
      rw [h1]
      simp only [if_pos hi]
      have h6 : x ≤ (f i).toInt ∧ (f i).toInt ≤ x := h5 i _ hi hp
      omega
    · omega
    · omega
  · cases hk
def startE : List (Nat × (Nat × Int)) := [(6, (0, 0)), (6, (1, 0)), (6, (2, 0)), (175, (0, 0)), (175, (1, 0)), (175, (2, 0)), (46, (0, 0)), (46, (1, 0)), (183, (0, 0)), (183, (1, 0)), (0, (3, 0)), (173, (10, 0))]
noncomputable def chkP : Bool := match headR with
  | some (_, (_, h)) => ok0f h 0 2 && (ok0f h 173 2 && (ok0a h 2 940 && (ok0a h 174 940 && ((List.range 24).all (okK h) && startE.all (okE h)))))
  | none => false
theorem chk_P : chkP = true := by decide +kernel
theorem chk_Pg : ok0f hS 0 2 = true ∧ ok0f hS 173 2 = true ∧ ok0a hS 2 940 = true ∧ ok0a hS 174 940 = true ∧ (List.range 24).all (okK hS) = true ∧ startE.all (okE hS) = true := by
  have h := chk_P
  unfold chkP at h
  rw [head_eq.1] at h
  have h : (ok0f hS 0 2 && (ok0f hS 173 2 && (ok0a hS 2 940 && (ok0a hS 174 940 && ((List.range 24).all (okK hS) && startE.all (okE hS)))))) = true := h
  simp only [Bool.and_eq_true] at h
  exact h
theorem TPQ_start {cy : Nat → ClassId} {b : Nat} {ws : va_W} (hg : gH cy b ws hS) : TPQ (rdI ws, rdL ws) := by
  obtain ⟨h1, h2, _⟩ := chk_Pg
  show rdI ws 0 2 = rdI ws 173 2
  rw [rdI_0f hg h1, rdI_0f hg h2]
theorem TBQ_start {cy : Nat → ClassId} {b : Nat} {ws : va_W} (hg : gH cy b ws hS) : TBQ (rdI ws, rdL ws) := by
  obtain ⟨_, _, h3, h4, _⟩ := chk_Pg
  intro j hj
  show rdI ws 174 j = u8 (rdI ws 2 j)
  rw [rdI_0a hg h4 hj, rdI_0a hg h3 hj]
  decide
theorem KW_start {cy : Nat → ClassId} {b : Nat} {ws : va_W} (hg : gH cy b ws hS) : ∀ i : Nat, i < 24 → rdL ws 3 i = kwL i := by
  obtain ⟨_, _, _, _, h5, _⟩ := chk_Pg
  intro i hi
  exact rdL_k hg (List.all_eq_true.mp h5 i (List.mem_range.mpr hi))
theorem sE {cy : Nat → ClassId} {b : Nat} {ws : va_W} (hg : gH cy b ws hS) {c i : Nat} {x : Int} (hm : (c, (i, x)) ∈ startE) : rdI ws c i = x := by
  obtain ⟨_, _, _, _, _, h6⟩ := chk_Pg
  exact rdI_E hg (List.all_eq_true.mp h6 _ hm)
theorem IMG_start {cy : Nat → ClassId} {b : Nat} {ws : va_W} (hg : gH cy b ws hS) : IMG (rdI ws, rdL ws) := by
  intro j hj
  show rdI ws 46 j = rdI ws 183 j
  rcases j with _ | _ | j
  · rw [sE hg (c := 46) (i := 0) (x := 0) (by decide), sE hg (c := 183) (i := 0) (x := 0) (by decide)]
  · rw [sE hg (c := 46) (i := 0 + 1) (x := 0) (by decide), sE hg (c := 183) (i := 0 + 1) (x := 0) (by decide)]
  · omega
theorem HNQ_start {cy : Nat → ClassId} {b : Nat} {ws : va_W} (hg : gH cy b ws hS) : HNQ (rdI ws, rdL ws) := by
  refine ⟨st0, ⟨fun s hs => ?_, fun k _ hl => ?_⟩, ⟨fun s hs => ?_, fun k _ hl => ?_⟩, fun s _ => ⟨Int.le_refl _, by show (0 : Int) ≤ 6; decide⟩, fun k _ hl => ?_, fun k k' _ _ hl _ _ => ?_⟩
  · show rdI ws 6 s = 0
    rcases s with _ | _ | _ | s
    · exact sE hg (by decide)
    · exact sE hg (by decide)
    · exact sE hg (by decide)
    · omega
  · exfalso
    have hl : ((k % 6 : Nat) : Int) < 0 := hl
    omega
  · show rdI ws 175 (0 + s) = 0
    rcases s with _ | _ | _ | s
    · exact sE hg (by decide)
    · exact sE hg (by decide)
    · exact sE hg (by decide)
    · omega
  · exfalso
    have hl : ((k % 6 : Nat) : Int) < 0 := hl
    omega
  · exfalso
    have hl : ((k % 6 : Nat) : Int) < 0 := hl
    omega
  · exfalso
    have hl : ((k % 6 : Nat) : Int) < 0 := hl
    omega
theorem IHQ_start {cy : Nat → ClassId} {b : Nat} {ws : va_W} (hg : gH cy b ws hS) : IHQ (rdI ws, rdL ws) := by
  have h0 : rdI ws 46 0 = 0 := sE hg (by decide)
  have h1 : rdI ws 46 1 = 0 := sE hg (by decide)
  exact ⟨fun e => absurd h0 e, fun e => absurd h1 e⟩
theorem FQ_start {cy : Nat → ClassId} {b : Nat} {ws : va_W} (hg : gH cy b ws hS) : FQ (rdI ws, rdL ws) := by
  show rdI ws 0 3 = rdI ws 173 10
  rw [sE hg (c := 0) (i := 3) (x := 0) (by decide), sE hg (c := 173) (i := 10) (x := 0) (by decide)]
