section FS
variable {l : Launch} {G : va_G} {cy : Nat → ClassId}
/-- a call of some depth, by the fast run -/
theorem evG_sound {P : Nat → Option MR} (hP : ∀ y mr, P y = some mr → okM P mr) {dfs : Nat → Option (List AV)} (hdf : okDf dfs) {FP : Nat → Option FR} (hFP : okG P dfs FP) {tok F : Nat} (htok : ∀ (d : Nat) (As : List AV) (h : AH) (r : Option AV) (h' : AH) (mr : MR), 8 ≤ d → P tok = some mr → tokS As h = some (r, h') → Ctr l G cy mr (d + 1) As h r h') :
    ∀ (d y : Nat) (mr : MR) (As : List AV) (h : AH) (r : Option AV) (h' : AH), P y = some mr → evG FP tok F d y As h = some (r, h') → Ctr l G cy mr d As h r h'
  | 0, _, _, _, _, _, _, _, hz => by cases hz
  | d + 1, y, mr, As, h, r, h', hmr, hz => by
    have hz : (bif Nat.beq y tok then (bif Nat.ble 8 d then tokS As h else none) else (match FP y with
      | some (mL, (rt, (na, (f, t)))) => bif Nat.beq As.length na && (Nat.ble na mL && !(As.any isL)) then evF (evG FP tok F d) none rt f t F 0 (As.map some ++ List.replicate (mL - na) none) [] h else none
      | none => none)) = some (r, h') := hz
    cases hy : Nat.beq y tok with
    | true =>
      obtain rfl := Nat.eq_of_beq_eq_true hy
      rw [hy] at hz
      cases hd : Nat.ble 8 d with
      | false => simp [hd] at hz
      | true =>
        simp only [hd, cond_true] at hz
        exact htok d As h r h' mr (Nat.le_of_ble_eq_true hd) hmr hz
    | false =>
      rw [hy] at hz
      simp only [cond_false] at hz
      cases hq : FP y with
      | none => rw [hq] at hz; cases hz
      | some q =>
        obtain ⟨yn, bytes, ci, h1, h2⟩ := hFP y q hq
        rw [hq] at hz
        obtain ⟨mL, rt, na, f, t⟩ := q
        rw [hmr] at h1
        obtain rfl := Option.some.inj h1
        simp only [] at hz
        cases hc : (Nat.beq As.length na && (Nat.ble na mL && !(As.any isL))) with
        | false => rw [hc] at hz; cases hz
        | true =>
          rw [hc] at hz
          simp only [cond_true] at hz
          simp only [Bool.and_eq_true, Bool.not_eq_true'] at hc
          have hz2 := evF_ok (P := P) (dfs := dfs) h2 rfl hz
          exact ctr_of hP hdf (evG_sound hP hdf hFP htok d) hmr (Nat.eq_of_beq_eq_true hc.1) (Nat.le_of_ble_eq_true hc.2.1) hc.2.2 hz2
end FS
def allF (Q : Nat → SF → EN → Prop) : Nat → List (Option SF) → List (Option EN) → Prop
  | _, [], _ => True
  | k, none :: r, _ :: q => allF Q (k + 1) r q
  | k, some g :: r, some e :: q => Q k g e ∧ allF Q (k + 1) r q
  | _, _, _ => False
def allFT (Q : Nat → SF → EN → Prop) : Nat → FB → TB → Prop
  | _, [], _ => True
  | k, c :: r, d :: q => allF Q k c d ∧ allFT Q (k + 32) r q
  | _, _ :: _, [] => False
theorem allF_get {Q : Nat → SF → EN → Prop} : ∀ {r : List (Option SF)} {q : List (Option EN)} {k i : Nat} {g : SF}, allF Q k r q → r[i]? = some (some g) → ∃ e, q[i]? = some (some e) ∧ Q (k + i) g e
  | [], _, _, _, _, _, h => by simp at h
  | none :: r, [], _, _, _, hq, _ => hq.elim
  | some _ :: r, [], _, _, _, hq, _ => hq.elim
  | some _ :: r, none :: q, _, _, _, hq, _ => hq.elim
  | none :: r, _ :: q, k, 0, g, _, h => by simp at h
  | some a :: r, some e :: q, k, 0, g, hq, h => by
    simp only [List.getElem?_cons_zero, Option.some.injEq] at h
    subst h
    exact ⟨e, rfl, hq.1⟩
  | none :: r, o :: q, k, i + 1, g, hq, h => by
    rw [List.getElem?_cons_succ] at h ⊢
    have := allF_get (k := k + 1) hq h
    rw [show k + (i + 1) = k + 1 + i by omega]
    exact this
  | some a :: r, some e :: q, k, i + 1, g, hq, h => by
    rw [List.getElem?_cons_succ] at h ⊢
    have := allF_get (k := k + 1) hq.2 h
    rw [show k + (i + 1) = k + 1 + i by omega]
    exact this
theorem allFT_get {Q : Nat → SF → EN → Prop} : ∀ {f : FB} {t : TB} {k i : Nat} {c : List (Option SF)}, allFT Q k f t → f[i]? = some c → ∃ d, t[i]? = some d ∧ allF Q (k + 32 * i) c d
  | [], _, _, _, _, _, h => by simp at h
  | _ :: _, [], _, _, _, hq, _ => hq.elim
  | a :: f, d :: t, k, 0, c, hq, h => by
    simp only [List.getElem?_cons_zero, Option.some.injEq] at h
    subst h
    exact ⟨d, rfl, hq.1⟩
  | a :: f, d :: t, k, i + 1, c, hq, h => by
    rw [List.getElem?_cons_succ] at h ⊢
    have := allFT_get (k := k + 32) hq.2 h
    rw [show k + 32 * (i + 1) = k + 32 + 32 * i by omega]
    exact this
def feE (P : Nat → Option MR) (rt : Option FieldType) (dfs : Nat → Option (List AV)) (k : Nat) (g : SF) (e : EN) : Prop := FE P rt dfs g k e.1 e.2.1 e.2.2.1 e.2.2.2.1 e.2.2.2.2
theorem okF_of {P : Nat → Option MR} {rt : Option FieldType} {dfs : Nat → Option (List AV)} {f : FB} {t : TB} (h : allFT (feE P rt dfs) 0 f t) : okFt P rt dfs f t := by
  intro pc g hp
  unfold pg at hp ⊢
  simp only [lg_eq] at hp ⊢
  cases hc : f[pc / 32]? with
  | none => rw [hc] at hp; cases hp
  | some c =>
    rw [hc] at hp
    obtain ⟨d, h1, h2⟩ := allFT_get h hc
    obtain ⟨e, h3, h4⟩ := allF_get h2 hp
    rw [show 0 + 32 * (pc / 32) + pc % 32 = pc by omega] at h4
    rw [h1]
    exact ⟨e.1, e.2.1, e.2.2.1, e.2.2.2.1, e.2.2.2.2, h3, h4⟩
