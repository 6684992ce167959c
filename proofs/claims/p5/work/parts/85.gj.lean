/-! Cells of intervals are cells of plain numbers. -/
def rdI (ws : va_W) (c i : Nat) : Int := match ws[c]? with
  | some (_, .inr (_, vs)) => (match vs[i]? with
    | some (.int x) => x.toInt
    | _ => 0)
  | some (_, .inl (_, (n, .inl f))) => if i < n then (f i).toInt else 0
  | _ => 0
def rdL (ws : va_W) (c i : Nat) : Int64 := match ws[c]? with
  | some (_, .inr (_, vs)) => (match vs[i]? with
    | some (.long x) => x
    | _ => 0)
  | some (_, .inl (_, (n, .inr (.inl f)))) => if i < n then f i else 0
  | _ => 0
def okF (f : JF) (a : AV) : Bool := match f, a with
  | .inl 2, .inr (.inl _) => true
  | .inl 0, .inl _ => true
  | .inl 1, .inl _ => true
  | .inr c, .inr (.inr (.inl d)) => Nat.beq c d
  | _, _ => false
noncomputable def okCs (sc : JS) (ac : AC) : Bool := match sc, ac with
  | .inl (ci, fs), .inl (cj, as) => Nat.beq ci cj && (Nat.beq fs.length as.length && (fs.zip as).all (fun q => okF q.1 q.2))
  | .inr (.inl (kd, n)), .inr (kj, (nj, _)) => Nat.beq kd kj && (Nat.beq n nj && Nat.blt kd 4)
  | .inr (.inr (kd, cs)), .inr (kj, (nj, ch)) => Nat.beq kd kj && (Nat.beq cs.length nj && ((Nat.beq kd 4 || Nat.beq kd 5) && (List.range cs.length).all (fun i => match cs[i]?, pg ch i with
    | some k, some (.inr (.inr (.inl d))) => Nat.beq k d
    | _, _ => false)))
  | _, _ => false
theorem jH_of {cy : Nat → ClassId} {b : Nat} {ws : va_W} {h : AH} (hg : gH cy b ws h) (hs : ∀ (c : Nat) (sc : JS), shp[c]? = some sc → ∃ ac, hget h c = some ac ∧ okCs sc ac = true) : jH shp cy ws (rdI ws, rdL ws) := by
  intro c sc hc
  obtain ⟨ac, h1, h2⟩ := hs c sc hc
  obtain ⟨q, e, h3, h4⟩ := hg.2 c ac h1
  refine ⟨q, e, h3, ?_⟩
  rcases sc with ⟨ci, fs⟩ | ⟨kd, n⟩ | ⟨kd, cs⟩
  · rcases ac with ⟨cj, as⟩ | ac
    · simp only [okCs, Bool.and_eq_true] at h2
      obtain ⟨e1, e2, e3⟩ := h2
      have e1 := Nat.eq_of_beq_eq_true e1
      have e2 := Nat.eq_of_beq_eq_true e2
      subst e1
      obtain ⟨vs, rfl, h5, h6⟩ := h4.obj
      refine ⟨vs, rfl, by rw [e2, h5], fun k f hf => ?_⟩
      have hlt : k < as.length := by rw [← e2]; exact (List.getElem?_eq_some_iff.mp hf).1
      have ha : as[k]? = some as[k] := List.getElem?_eq_getElem hlt
      obtain ⟨v, h7, h8⟩ := h6 k _ ha
      have hz : okF f as[k] = true := by
        have hm : (f, as[k]) ∈ fs.zip as := by
          refine List.mem_of_getElem? (i := k) ?_
          rw [List.getElem?_zip_eq_some]
          exact ⟨hf, ha⟩
        exact List.all_eq_true.mp e3 _ hm
      refine ⟨v, h7, ?_⟩
      have hI : ∀ x, v = .int x → rdI ws c k = x.toInt := fun x hx => by
        unfold rdI
        rw [h3]
        simp only [h7, hx]
      have hL : ∀ x, v = .long x → rdL ws c k = x := fun x hx => by
        unfold rdL
        rw [h3]
        simp only [h7, hx]
      generalize as[k] = a at h8 hz
      unfold okF at hz
      unfold jFv
      split at hz
      · obtain ⟨x, rfl⟩ : ∃ x, v = .long x := by cases v <;> simp_all [gV]
        show Value.long x = Value.long (rdL ws c k)
        rw [hL x rfl]
      · obtain ⟨x, rfl⟩ : ∃ x, v = .int x := by cases v <;> simp_all [gV]
        exact ⟨x, rfl, (hI x rfl).symm⟩
      · obtain ⟨x, rfl⟩ : ∃ x, v = .int x := by cases v <;> simp_all [gV]
        exact ⟨x, rfl, (hI x rfl).symm⟩
      · rename_i c' d
        have hz := Nat.eq_of_beq_eq_true hz
        subst hz
        cases v <;> simp only [gV] at h8
        obtain ⟨e', he'⟩ := h8
        exact ⟨_, e', rfl, he'⟩
      · cases hz
    · simp [okCs] at h2
  · rcases ac with ac | ⟨kj, nj, ch⟩
    · simp [okCs] at h2
    · simp only [okCs, Bool.and_eq_true] at h2
      obtain ⟨e1, e2, e3⟩ := h2
      have e1 := Nat.eq_of_beq_eq_true e1
      have e2 := Nat.eq_of_beq_eq_true e2
      have e3 := Nat.blt_eq.mp e3
      subst e1; subst e2
      obtain ⟨p, rfl, -, h5⟩ := h4.arr
      rcases h5 with ⟨h6, f, h7, -⟩ | ⟨h6, f, h7, -⟩ | ⟨h6, -⟩
      · have h7 : p = .inl f := h7
        subst h7
        refine Or.inl ⟨h6, f, rfl, fun i hi => ?_⟩
        show _ = rdI ws c i
        unfold rdI
        rw [h3]
        simp only [if_pos hi]
      · have h7 : p = .inr (.inl f) := h7
        subst h7
        refine Or.inr ⟨h6, f, rfl, fun i hi => ?_⟩
        show _ = rdL ws c i
        unfold rdL
        rw [h3]
        simp only [if_pos hi]
      · omega
  · rcases ac with ac | ⟨kj, nj, ch⟩
    · simp [okCs] at h2
    · simp only [okCs, Bool.and_eq_true] at h2
      obtain ⟨e1, e2, e3, e4⟩ := h2
      have e1 := Nat.eq_of_beq_eq_true e1
      have e2 := Nat.eq_of_beq_eq_true e2
      subst e1; subst e2
      have e3 : kd = 4 ∨ kd = 5 := by simpa using e3
      obtain ⟨p, rfl, -, h5⟩ := h4.arr
      rcases h5 with ⟨h6, _⟩ | ⟨h6, _⟩ | ⟨h6, f, h7, h8⟩
      · omega
      · omega
      · have h7 : p = .inr (.inr (.inr (.inr f))) := h7
        subst h7
        refine ⟨e3, f, rfl, fun i k hk => ?_⟩
        have hi : i < cs.length := (List.getElem?_eq_some_iff.mp hk).1
        have h9 := List.all_eq_true.mp e4 i (List.mem_range.mpr hi)
        rw [hk] at h9
        cases hp : pg ch i with
        | none => rw [hp] at h9; cases h9
        | some a =>
          rw [hp] at h9
          have h10 := h8 i a hi hp
          rcases a with z | o | d | o
          · cases h9
          · cases h9
          · have hd := Nat.eq_of_beq_eq_true h9
            subst hd
            cases hf : f i with
            | none => rw [hf] at h10; simp [va_rf, gV] at h10
            | some q2 =>
              rw [hf] at h10
              simp only [va_rf, gV] at h10
              obtain ⟨e', he'⟩ := h10
              exact ⟨q2, e', rfl, he'⟩
          · cases h9
