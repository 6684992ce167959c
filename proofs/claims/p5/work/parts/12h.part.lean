/-! A run up to a place. -/
noncomputable def evT (cal : CAL) (sc : Option (Nat → AI)) (stop : Nat) (f : FB) (n : Nat) : Nat → LO → List AV → AH → Option (LO × (List AV × AH)) := Nat.rec (motive := fun _ => Nat → LO → List AV → AH → Option (LO × (List AV × AH))) (fun _ _ _ _ => none) (fun _ ih pc L S h => bif Nat.beq pc stop then some (L, (S, h)) else (match pg f pc with
  | some (some g) => (match g cal sc L S h with
    | some (.inl (pc', (L', (S', h')))) => bif Nat.ble h.1 h'.1 && Nat.ble h.2.1 h'.2.1 then ih pc' L' S' h' else none
    | _ => none)
  | _ => none)) n
theorem evT_s {cal : CAL} {sc : Option (Nat → AI)} {stop : Nat} {f : FB} {n pc : Nat} {L : LO} {S : List AV} {h : AH} : evT cal sc stop f (n + 1) pc L S h = (bif Nat.beq pc stop then some (L, (S, h)) else (match pg f pc with
  | some (some g) => (match g cal sc L S h with
    | some (.inl (pc', (L', (S', h')))) => bif Nat.ble h.1 h'.1 && Nat.ble h.2.1 h'.2.1 then evT cal sc stop f n pc' L' S' h' else none
    | _ => none)
  | _ => none)) := rfl
theorem evT_mono {cal : CAL} {sc : Option (Nat → AI)} {stop : Nat} {f : FB} {L' : LO} {S' : List AV} {h' : AH} : ∀ {n pc : Nat} {L : LO} {S : List AV} {h : AH}, evT cal sc stop f n pc L S h = some (L', (S', h')) → h.1 ≤ h'.1 ∧ h.2.1 ≤ h'.2.1
  | 0, _, _, _, _, hz => by cases hz
  | n + 1, pc, L, S, h, hz => by
    rw [evT_s] at hz
    cases hp : Nat.beq pc stop with
    | true =>
      rw [hp] at hz
      simp only [cond_true, Option.some.injEq, Prod.mk.injEq] at hz
      obtain ⟨_, _, rfl⟩ := hz
      omega
    | false =>
      rw [hp] at hz
      simp only [cond_false] at hz
      split at hz
      · split at hz
        · rename_i pc2 L2 S2 h2 _
          cases hc : (Nat.ble h.1 h2.1 && Nat.ble h.2.1 h2.2.1) with
          | false => rw [hc] at hz; cases hz
          | true =>
            rw [hc] at hz
            simp only [cond_true] at hz
            have ih := evT_mono (n := n) hz
            simp only [Bool.and_eq_true] at hc
            have h1 := Nat.le_of_ble_eq_true hc.1
            have h2' := Nat.le_of_ble_eq_true hc.2
            omega
        · cases hz
      · cases hz
section PT
variable {p : Program} {l : Launch} {e : Env} {R : Room} {s : State} {m : MethodId} {args : Array Value} {below : List Frame} {meth : Method} {c : Code} {Q : State → Prop}
variable {G : va_G} {cy : Nat → ClassId} {b : BB} {A : Nat → Prop} {own nm : String} {cc : ByteArray} {nL c0 s0 : Nat}
theorem evT_sound (C : Cx p c m s args meth G cy A own nm cc nL) {P : Nat → Option MR} (hP : ∀ y mr, P y = some mr → okM P mr) {cal : CAL} {d : Nat} (hcal : ∀ y mr As h r h', P y = some mr → cal y As h = some (r, h') → Ctr l G cy mr d As h r h') {sc : Option (Nat → AI)} (hsc : okSc s b A sc) {rt : Option FieldType} {dfs : Nat → Option (List AV)} (hdf : okDf dfs) {t : TB} (ht : okT P own nm cc t) {f : FB} (hf : okFt P rt dfs f t) {stop : Nat} {L' : LO} {S' : List AV} {h' : AH}
    (hRf : d + 1 ≤ R.frames) (hRl : 100 * d + 100 ≤ R.locals) (hRc : h'.1 + 1 - c0 ≤ R.cells ∧ h'.2.1 - s0 ≤ R.slots)
    (k : Wk p l e R s m args below meth c Q G cy b A nL c0 s0 stop L' S' h') :
    ∀ {n pc : Nat} {L : LO} {S : List AV} {h : AH}, evT cal sc stop f n pc L S h = some (L', (S', h')) → c0 ≤ h.1 + 1 → s0 ≤ h.2.1 → Wk p l e R s m args below meth c Q G cy b A nL c0 s0 pc L S h
  | 0, _, _, _, _, hz, _, _ => by cases hz
  | n + 1, pc, L, S, h, hz, hc0, hs0 => by
    rw [evT_s] at hz
    cases hp : Nat.beq pc stop with
    | true =>
      rw [hp] at hz
      simp only [cond_true, Option.some.injEq, Prod.mk.injEq] at hz
      obtain ⟨rfl, rfl, rfl⟩ := hz
      obtain rfl := Nat.eq_of_beq_eq_true hp
      exact k
    | false =>
      rw [hp] at hz
      simp only [cond_false] at hz
      split at hz
      · rename_i g hg
        obtain ⟨ins, len, x, y, z, htt, hfe⟩ := hf pc g hg
        split at hz
        · rename_i pc2 L2 S2 h2 hst
          cases hc : (Nat.ble h.1 h2.1 && Nat.ble h.2.1 h2.2.1) with
          | false => rw [hc] at hz; cases hz
          | true =>
            rw [hc] at hz
            simp only [cond_true] at hz
            simp only [Bool.and_eq_true] at hc
            have h1 := Nat.le_of_ble_eq_true hc.1
            have h2' := Nat.le_of_ble_eq_true hc.2
            have hm := evT_mono hz
            have ih := evT_sound C hP hcal hsc hdf ht hf hRf hRl hRc k (n := n) hz (by omega) (by omega)
            have hs2 : stp P cal sc rt dfs t pc L S h = some (.inl (pc2, (L2, (S2, h2)))) := by
              unfold stp
              rw [htt]
              rw [← hst]
              exact (hfe cal sc L S h).symm
            exact stp_sound C hP hcal hsc hdf ht hs2 hRf hRl hc0 hs0 ⟨by omega, by omega⟩ ih
        · cases hz
      · cases hz
end PT
