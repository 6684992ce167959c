section STP
variable {p : Program} {l : Launch} {e : Env} {R : Room} {s : State} {m : MethodId} {args : Array Value} {below : List Frame} {meth : Method} {c : Code} {Q : State → Prop}
variable {G : va_G} {cy : Nat → ClassId} {b : BB} {A : Nat → Prop} {own nm : String} {cc : ByteArray} {nL c0 s0 : Nat}
theorem inv_sound (C : Cx p c m s args meth G cy A own nm cc nL) {P : Nat → Option MR} (hP : ∀ y mr, P y = some mr → okM P mr) {cal : CAL} {d : Nat} (hcal : ∀ y mr As h r h', P y = some mr → cal y As h = some (r, h') → Ctr l G cy mr d As h r h') {x y i pc : Nat} {L L' : LO} {S S' : List AV} {h h' : AH} {pc' : Nat}
    (hd : (x = 0 ∨ x = 3 ∨ x = 5 ∨ x = 6) ∧ decode cc pc = .ok (.invokestatic i, 3) ∨ x = 1 ∧ decode cc pc = .ok (.invokevirtual i, 3) ∨ (x = 2 ∨ x = 4 ∨ x = 7) ∧ decode cc pc = .ok (.invokespecial i, 3)) (hl : okInv P own i x y)
    (hz : inv P cal x y pc L S h = some (.inl (pc', (L', (S', h'))))) (hRf : d + 1 ≤ R.frames) (hRl : 100 * d + 100 ≤ R.locals) (hc0 : c0 ≤ h.1 + 1) (hs0 : s0 ≤ h.2.1) (hRc : h'.1 + 1 - c0 ≤ R.cells ∧ h'.2.1 - s0 ≤ R.slots)
    (k : Wk p l e R s m args below meth c Q G cy b A nL c0 s0 pc' L' S' h') : Wk p l e R s m args below meth c Q G cy b A nL c0 s0 pc L S h := by
  unfold inv at hz
  cases e7 : Nat.beq x 7 with
  | true =>
    obtain rfl := Nat.eq_of_beq_eq_true e7
    simp only [e7, cond_true] at hz
    split at hz
    · rename_i a r
      cases hr : Nat.ble r.length 4 with
      | false => simp [hr] at hz
      | true =>
        simp only [hr, cond_true, go_eq] at hz
        obtain ⟨rfl, rfl, rfl, rfl⟩ := inj4 hz
        have hdd : decode cc pc = .ok (.invokespecial i, 3) := by
          rcases hd with ⟨h | h | h | h, _⟩ | ⟨h, _⟩ | ⟨_, h⟩
          · cases h
          · cases h
          · cases h
          · cases h
          · cases h
          · exact h
        exact s_obj C hdd (hl.2.2.1 rfl) gw_obj (Nat.le_of_ble_eq_true hr) ⟨by omega, by omega⟩ k
    · cases hz
  | false =>
    simp only [e7, cond_false] at hz
    cases e5 : Nat.beq x 5 with
    | true =>
      obtain rfl := Nat.eq_of_beq_eq_true e5
      simp only [e5, cond_true] at hz
      obtain ⟨a, b', r, h8, h9⟩ := int2_ok hz; clear hz; subst h8; have hz := h9; clear h9
      cases hr : Nat.ble r.length 4 with
      | false => simp [hr] at hz
      | true =>
        simp only [hr, cond_true, go_eq] at hz
        obtain ⟨rfl, rfl, rfl, rfl⟩ := inj4 hz
        have hdd : decode cc pc = .ok (.invokestatic i, 3) := by
          rcases hd with ⟨_, h⟩ | ⟨h, _⟩ | ⟨h | h | h, _⟩
          · exact h
          · cases h
          · cases h
          · cases h
          · cases h
        exact s_min C hdd (hl.1 rfl) gw_min (Nat.le_of_ble_eq_true hr) ⟨by omega, by omega⟩ hRc k
    | false =>
      simp only [e5, cond_false] at hz
      cases e6 : Nat.beq x 6 with
      | true =>
        obtain rfl := Nat.eq_of_beq_eq_true e6
        simp only [e6, cond_true] at hz
        obtain ⟨dd, s1, kk, n, n1, n2, f, g, g', r, rfl, hk, h1, h2, h3, h4, h5, h6, h7⟩ := acp_ok hz
        obtain ⟨rfl, rfl, rfl, rfl⟩ := inj4 (congrArg some h7)
        have hdd : decode cc pc = .ok (.invokestatic i, 3) := by
          rcases hd with ⟨_, h⟩ | ⟨h, _⟩ | ⟨h | h | h, _⟩
          · exact h
          · cases h
          · cases h
          · cases h
          · cases h
        exact s_acp C hdd (hl.2.1 rfl) gw_copy hk h1 h2 h3 h4 h5 h6 ⟨by omega, by omega⟩ k
      | false =>
        simp only [e6, cond_false] at hz
        have hx5 : x < 5 := by
          have n7 := Nat.ne_of_beq_eq_false e7
          have n5 := Nat.ne_of_beq_eq_false e5
          have n6 := Nat.ne_of_beq_eq_false e6
          omega
        obtain ⟨mr, hmr, hlk, hret⟩ := hl.2.2.2 hx5
        rw [hmr] at hz
        obtain ⟨yn, bytes, mL, rt, na, ci, t⟩ := mr
        simp only at hz
        obtain ⟨B, r, h8, hB, h9⟩ := tk_ok hz; clear hz; subst h8; have hz := h9; clear h9
        rw [List.append_nil] at hz
        cases hr : (Nat.ble r.length 4 && rcv x ci h B.reverse) with
        | false => rw [hr] at hz; cases hz
        | true =>
          simp only [hr, cond_true] at hz
          simp only [Bool.and_eq_true] at hr
          obtain ⟨hr, hrc⟩ := hr
          cases hc : cal y B.reverse h with
          | none => rw [hc] at hz; cases hz
          | some q =>
            obtain ⟨rv, h2⟩ := q
            rw [hc] at hz
            have hz2 : pc + 3 = pc' ∧ L = L' ∧ rv.toList ++ r = S' ∧ h2 = h' := by
              cases rv with
              | none => simp only [go_eq] at hz; exact inj4 hz
              | some v => simp only [go_eq] at hz; exact inj4 hz
            obtain ⟨rfl, rfl, rfl, rfl⟩ := hz2
            have hok := hP y _ hmr
            have hct := hcal y _ _ _ _ _ hmr hc
            have key := s_call (e := e) (R := R) (below := below) (Q := Q) (b := b) (c0 := c0) (s0 := s0) C (mr := (yn, bytes, mL, rt, na, ci, t)) (As := B.reverse) (S := r) (L := L) (pc := pc) (i := i) (x := x)
              (by
                rcases hd with ⟨h, h'⟩ | ⟨h, h'⟩ | ⟨h, h'⟩
                · exact Or.inl ⟨by omega, h'⟩
                · exact Or.inr (Or.inl ⟨h, h'⟩)
                · exact Or.inr (Or.inr ⟨by omega, h'⟩))
              hlk (by simpa using hB) hok.1 hok.2.1
              (by
                intro hx
                subst hx
                unfold rcv at hrc
                have e11 : Nat.beq 1 1 = true := rfl
                simp only [e11, cond_true] at hrc
                split at hrc
                · rename_i a As' he
                  exact ⟨a, As', he, hrc⟩
                · cases hrc)
              (by
                intro hx
                refine ⟨hret hx, ?_⟩
                unfold rcv at hrc
                have e1 : Nat.beq x 1 = false := by
                  rcases hx with rfl | rfl <;> rfl
                have e2 : (Nat.beq x 2 || Nat.beq x 4) = true := by
                  rcases hx with rfl | rfl <;> rfl
                simp only [e1, e2, cond_true, cond_false] at hrc
                split at hrc
                · rename_i a As' he
                  exact ⟨a, As', he⟩
                · cases hrc)
              hct (Nat.le_of_ble_eq_true hr) hRf hRl hc0 hs0 hRc k
            simpa using key
theorem stp_sound (C : Cx p c m s args meth G cy A own nm cc nL) {P : Nat → Option MR} (hP : ∀ y mr, P y = some mr → okM P mr) {cal : CAL} {d : Nat} (hcal : ∀ y mr As h r h', P y = some mr → cal y As h = some (r, h') → Ctr l G cy mr d As h r h') {sc : Option (Nat → AI)} (hsc : okSc s b A sc) {rt : Option FieldType} {dfs : Nat → Option (List AV)} (hdf : okDf dfs) {t : TB} (ht : okT P own nm cc t) {L L' : LO} {S S' : List AV} {h h' : AH} {pc pc' : Nat}
    (hz : stp P cal sc rt dfs t pc L S h = some (.inl (pc', (L', (S', h'))))) (hRf : d + 1 ≤ R.frames) (hRl : 100 * d + 100 ≤ R.locals) (hc0 : c0 ≤ h.1 + 1) (hs0 : s0 ≤ h.2.1) (hRc : h'.1 + 1 - c0 ≤ R.cells ∧ h'.2.1 - s0 ≤ R.slots)
    (k : Wk p l e R s m args below meth c Q G cy b A nL c0 s0 pc' L' S' h') : Wk p l e R s m args below meth c Q G cy b A nL c0 s0 pc L S h := by
  unfold stp at hz
  cases hp : pg t pc with
  | none => rw [hp] at hz; cases hz
  | some o =>
  cases o with
  | none => rw [hp] at hz; cases hz
  | some en =>
  obtain ⟨ins, len, x, y, z⟩ := en
  obtain ⟨hd, hl⟩ := ht pc ins len x y z hp
  rw [hp] at hz
  simp only [] at hz
  unfold stpI at hz
  cases ins
  case iconst n =>
    obtain ⟨h8, h9⟩ := one_ok hz; clear hz; subst h8; have hz := h9; clear h9
    simp only [fI_eq, go_eq] at hz
    obtain ⟨rfl, rfl, rfl, rfl⟩ := inj4 hz
    exact s_push (fun H locs ls st kk => lv_iconst C.1 C.2.1 hd rfl kk) ⟨Int.le_refl _, Int.le_refl _⟩ k
  case bipush n =>
    obtain ⟨h8, h9⟩ := one_ok hz; clear hz; subst h8; have hz := h9; clear h9
    simp only [fI_eq, go_eq] at hz
    obtain ⟨rfl, rfl, rfl, rfl⟩ := inj4 hz
    exact s_push (fun H locs ls st kk => lv_bipush C.1 C.2.1 hd rfl kk) ⟨Int.le_refl _, Int.le_refl _⟩ k
  case sipush n =>
    obtain ⟨h8, h9⟩ := one_ok hz; clear hz; subst h8; have hz := h9; clear h9
    simp only [fI_eq, go_eq] at hz
    obtain ⟨rfl, rfl, rfl, rfl⟩ := inj4 hz
    exact s_push (fun H locs ls st kk => lv_sipush C.1 C.2.1 hd rfl kk) ⟨Int.le_refl _, Int.le_refl _⟩ k
  case iload_n q =>
    obtain ⟨h8, h9⟩ := one_ok hz; clear hz; subst h8; have hz := h9; clear h9
    split at hz
    · rename_i a hi
      rw [go_eq] at hz
      obtain ⟨rfl, rfl, rfl, rfl⟩ := inj4 hz
      exact s_iload hi (fun H locs ls st x hx kk => lv_iload_n C.1 C.2.1 hd rfl hx kk) k
    · cases hz
  case iload q =>
    obtain ⟨h8, h9⟩ := one_ok hz; clear hz; subst h8; have hz := h9; clear h9
    split at hz
    · rename_i a hi
      rw [go_eq] at hz
      obtain ⟨rfl, rfl, rfl, rfl⟩ := inj4 hz
      exact s_iload hi (fun H locs ls st x hx kk => lv_iload C.1 C.2.1 hd hx kk) k
    · cases hz
  case aload_n q =>
    obtain ⟨h8, h9⟩ := one_ok hz; clear hz; subst h8; have hz := h9; clear h9
    split at hz
    · rename_i a hi
      rw [go_eq] at hz
      obtain ⟨rfl, rfl, rfl, rfl⟩ := inj4 hz
      exact s_aload hi (fun H locs ls st x hx kk => lv_aload_n C.1 C.2.1 hd rfl hx kk) (fun H locs ls st hx kk => lv_aload_nN C.1 C.2.1 hd rfl hx kk) k
    · cases hz
  case istore_n q =>
    obtain ⟨h8, h9⟩ := one_ok hz; clear hz; subst h8; have hz := h9; clear h9
    split at hz
    · rename_i a r
      obtain ⟨h1, h2, h3⟩ := sto_ok hz
      obtain ⟨rfl, rfl, rfl, rfl⟩ := inj4 (congrArg some h3)
      exact s_store h1 h2 (fun H locs ls st lv ws x hx hlv hn kk => by obtain ⟨x, rfl, _⟩ := hx.int; exact lv_istore_n C.1 C.2.1 hd rfl hlv hn rfl kk) k
    · cases hz
  case istore q =>
    obtain ⟨h8, h9⟩ := one_ok hz; clear hz; subst h8; have hz := h9; clear h9
    split at hz
    · rename_i a r
      obtain ⟨h1, h2, h3⟩ := sto_ok hz
      obtain ⟨rfl, rfl, rfl, rfl⟩ := inj4 (congrArg some h3)
      exact s_store h1 h2 (fun H locs ls st lv ws x hx hlv hn kk => by obtain ⟨x, rfl, _⟩ := hx.int; exact lv_istore C.1 C.2.1 hd hlv hn rfl kk) k
    · cases hz
  case astore_n q =>
    obtain ⟨h8, h9⟩ := one_ok hz; clear hz; subst h8; have hz := h9; clear h9
    split at hz
    · rename_i a r
      obtain ⟨h1, h2, h3⟩ := sto_ok hz
      obtain ⟨rfl, rfl, rfl, rfl⟩ := inj4 (congrArg some h3)
      exact s_store h1 h2 (fun H locs ls st lv ws x hx hlv hn kk => by obtain ⟨x, e0, rfl, _⟩ := hx.ref; exact lv_astore_n C.1 C.2.1 hd rfl hlv hn rfl kk) k
    · cases hz
  case iinc q n =>
    obtain ⟨h8, h9⟩ := one_ok hz; clear hz; subst h8; have hz := h9; clear h9
    split at hz
    · rename_i a hi
      rw [iadK_eq] at hz
      obtain ⟨h1, h2, h3⟩ := sto_ok hz
      obtain ⟨rfl, rfl, rfl, rfl⟩ := inj4 (congrArg some h3)
      exact s_iinc C hd hi h2 (fun x hx => iad_ok hx ⟨Int.le_refl _, Int.le_refl _⟩) k
    · cases hz
  case iadd =>
    obtain ⟨h8, h9⟩ := one_ok hz; clear hz; subst h8; have hz := h9; clear h9
    obtain ⟨a, b', r, h8, h9⟩ := int2_ok hz; clear hz; subst h8; have hz := h9; clear h9
    rw [iadK_eq, go_eq] at hz
    obtain ⟨rfl, rfl, rfl, rfl⟩ := inj4 hz
    exact s_int2 (f := fun x y => x + y) (fun H locs ls st x y _ _ kk => lv_iadd C.1 C.2.1 hd kk) (fun x y hx hy => iad_ok hx hy) k
  case isub =>
    obtain ⟨h8, h9⟩ := one_ok hz; clear hz; subst h8; have hz := h9; clear h9
    obtain ⟨a, b', r, h8, h9⟩ := int2_ok hz; clear hz; subst h8; have hz := h9; clear h9
    rw [isbK_eq, go_eq] at hz
    obtain ⟨rfl, rfl, rfl, rfl⟩ := inj4 hz
    exact s_int2 (f := fun x y => x - y) (fun H locs ls st x y _ _ kk => lv_isub C.1 C.2.1 hd kk) (fun x y hx hy => isb_ok hx hy) k
  case imul =>
    obtain ⟨h8, h9⟩ := one_ok hz; clear hz; subst h8; have hz := h9; clear h9
    obtain ⟨a, b', r, h8, h9⟩ := int2_ok hz; clear hz; subst h8; have hz := h9; clear h9
    rw [imlK_eq, go_eq] at hz
    obtain ⟨rfl, rfl, rfl, rfl⟩ := inj4 hz
    exact s_int2 (f := fun x y => x * y) (fun H locs ls st x y _ _ kk => lv_imul C.1 C.2.1 hd kk) (fun x y hx hy => iml_ok hx hy) k
  case idiv =>
    obtain ⟨h8, h9⟩ := one_ok hz; clear hz; subst h8; have hz := h9; clear h9
    obtain ⟨a, b', r, h8, h9⟩ := int2_ok hz; clear hz; subst h8; have hz := h9; clear h9
    cases hn : nZ b' with
    | false => simp [hn] at hz
    | true =>
      simp only [hn, cond_true, iopK_eq, go_eq] at hz
      obtain ⟨rfl, rfl, rfl, rfl⟩ := inj4 hz
      simp only [nZ, Bool.or_eq_true, decide_eq_true_eq] at hn
      exact s_int2 (f := fun x y => x / y) (fun H locs ls st x y _ hy kk => lv_idiv C.1 C.2.1 hd (by intro e0; rw [e0] at hy; simp at hy; omega) kk) (fun x y hx hy => iop_ok _ hx hy) k
  case irem =>
    obtain ⟨h8, h9⟩ := one_ok hz; clear hz; subst h8; have hz := h9; clear h9
    obtain ⟨a, b', r, h8, h9⟩ := int2_ok hz; clear hz; subst h8; have hz := h9; clear h9
    cases hn : nZ b' with
    | false => simp [hn] at hz
    | true =>
      simp only [hn, cond_true, iopK_eq, go_eq] at hz
      obtain ⟨rfl, rfl, rfl, rfl⟩ := inj4 hz
      simp only [nZ, Bool.or_eq_true, decide_eq_true_eq] at hn
      exact s_int2 (f := fun x y => x - x / y * y) (fun H locs ls st x y _ hy kk => lv_irem C.1 C.2.1 hd (by intro e0; rw [e0] at hy; simp at hy; omega) kk) (fun x y hx hy => iop_ok (fun x y => x - x / y * y) hx hy) k
  case iand =>
    obtain ⟨h8, h9⟩ := one_ok hz; clear hz; subst h8; have hz := h9; clear h9
    obtain ⟨a, b', r, h8, h9⟩ := int2_ok hz; clear hz; subst h8; have hz := h9; clear h9
    rw [iopK_eq, go_eq] at hz
    obtain ⟨rfl, rfl, rfl, rfl⟩ := inj4 hz
    exact s_int2 (f := fun x y => x &&& y) (fun H locs ls st x y _ _ kk => lv_iand C.1 C.2.1 hd kk) (fun x y hx hy => iop_ok _ hx hy) k
  case ishl =>
    obtain ⟨h8, h9⟩ := one_ok hz; clear hz; subst h8; have hz := h9; clear h9
    obtain ⟨a, b', r, h8, h9⟩ := int2_ok hz; clear hz; subst h8; have hz := h9; clear h9
    rw [iopK_eq, go_eq] at hz
    obtain ⟨rfl, rfl, rfl, rfl⟩ := inj4 hz
    exact s_int2 (f := fun x y => x <<< (y &&& 31)) (fun H locs ls st x y _ _ kk => lv_ishl C.1 C.2.1 hd kk) (fun x y hx hy => iop_ok (fun x y => x <<< (y &&& 31)) hx hy) k
  case iushr =>
    obtain ⟨h8, h9⟩ := one_ok hz; clear hz; subst h8; have hz := h9; clear h9
    obtain ⟨a, b', r, h8, h9⟩ := int2_ok hz; clear hz; subst h8; have hz := h9; clear h9
    rw [iopK_eq, go_eq] at hz
    obtain ⟨rfl, rfl, rfl, rfl⟩ := inj4 hz
    exact s_int2 (f := fun x y => (x.toUInt32 >>> (y.toUInt32 &&& Int32.toUInt32 31)).toInt32) (fun H locs ls st x y _ _ kk => lv_iushr C.1 C.2.1 hd rfl kk) (fun x y hx hy => iop_ok _ hx hy) k
  case i2b =>
    obtain ⟨h8, h9⟩ := one_ok hz; clear hz; subst h8; have hz := h9; clear h9
    obtain ⟨a, r, h8, h9⟩ := int1_ok hz; clear hz; subst h8; have hz := h9; clear h9
    rw [go_eq] at hz
    obtain ⟨rfl, rfl, rfl, rfl⟩ := inj4 hz
    intro ws ls st H locs hs
    obtain ⟨v1, st1, rfl, g1, g2⟩ := hs.2.2.1.cons
    obtain ⟨x', rfl, hx⟩ := g1.int
    exact lv_i2b C.1 C.2.1 hd rfl (k ws ls _ H locs ⟨hs.1, hs.2.1, ⟨ib_ok hx, g2⟩, hs.2.2.2⟩)
  case dup =>
    obtain ⟨h8, h9⟩ := one_ok hz; clear hz; subst h8; have hz := h9; clear h9
    split at hz
    · rename_i a r
      cases ha : isL a with
      | true => simp [ha] at hz
      | false =>
        simp only [ha, cond_false, go_eq] at hz
        obtain ⟨rfl, rfl, rfl, rfl⟩ := inj4 hz
        exact s_dup C hd ha k
    · cases hz
  case dup2 =>
    obtain ⟨h8, h9⟩ := one_ok hz; clear hz; subst h8; have hz := h9; clear h9
    split at hz
    · rename_i a a2 r
      cases ha : isL a with
      | true => simp [ha] at hz
      | false =>
        cases ha2 : isL a2 with
        | true => simp [ha, ha2] at hz
        | false =>
          simp only [ha, ha2, Bool.or_false, cond_false, go_eq] at hz
          obtain ⟨rfl, rfl, rfl, rfl⟩ := inj4 hz
          exact s_dup2 C hd ha ha2 k
    · cases hz
  case pop =>
    obtain ⟨h8, h9⟩ := one_ok hz; clear hz; subst h8; have hz := h9; clear h9
    split at hz
    · rename_i a r
      cases ha : isL a with
      | true => simp [ha] at hz
      | false =>
        simp only [ha, cond_false, go_eq] at hz
        obtain ⟨rfl, rfl, rfl, rfl⟩ := inj4 hz
        exact s_pop C hd ha k
    · cases hz
  case goto o =>
    obtain ⟨h8, h9⟩ := one_ok hz; clear hz; subst h8; have hz := h9; clear h9
    obtain ⟨tg, h1, ⟨_, h2⟩ | ⟨h3, _⟩⟩ := br_ok hz
    · obtain ⟨rfl, rfl, rfl, rfl⟩ := inj4 (congrArg some h2)
      exact s_goto C hd h1 k
    · cases h3
  case if_icmp cd o =>
    obtain ⟨h8, h9⟩ := one_ok hz; clear hz; subst h8; have hz := h9; clear h9
    obtain ⟨a, b', r, h8, h9⟩ := int2_ok hz; clear hz; subst h8; have hz := h9; clear h9
    obtain ⟨tg, h1, ⟨h3, h2⟩ | ⟨h3, h2⟩⟩ := br_ok hz
    · obtain ⟨rfl, rfl, rfl, rfl⟩ := inj4 (congrArg some h2)
      exact s_icmp C hd h3 h1 (Or.inl ⟨rfl, rfl⟩) k
    · obtain ⟨rfl, rfl, rfl, rfl⟩ := inj4 (congrArg some h2)
      exact s_icmp C hd h3 h1 (Or.inr ⟨rfl, rfl⟩) k
  case ifCond cd o =>
    obtain ⟨h8, h9⟩ := one_ok hz; clear hz; subst h8; have hz := h9; clear h9
    obtain ⟨a, r, h8, h9⟩ := int1_ok hz; clear hz; subst h8; have hz := h9; clear h9
    obtain ⟨tg, h1, ⟨h3, h2⟩ | ⟨h3, h2⟩⟩ := br_ok hz
    · obtain ⟨rfl, rfl, rfl, rfl⟩ := inj4 (congrArg some h2)
      exact s_if C hd h3 h1 (Or.inl ⟨rfl, rfl⟩) k
    · obtain ⟨rfl, rfl, rfl, rfl⟩ := inj4 (congrArg some h2)
      exact s_if C hd h3 h1 (Or.inr ⟨rfl, rfl⟩) k
  case tableswitch dd lo hi os =>
    obtain ⟨a, r, h8, h9⟩ := int1_ok hz; clear hz; subst h8; have hz := h9; clear h9
    cases h0 : (decide (a.2 < lo) || decide (hi < a.1)) with
    | true =>
      simp only [h0, cond_true] at hz
      simp only [Bool.or_eq_true, decide_eq_true_eq] at h0
      obtain ⟨tg, h1, ⟨_, h2⟩ | ⟨h3, _⟩⟩ := br_ok hz
      · obtain ⟨rfl, rfl, rfl, rfl⟩ := inj4 (congrArg some h2)
        exact s_tabOut C hd h0 h1 k
      · cases h3
    | false =>
      cases h00 : (decide (a.1 = a.2) && (decide (lo ≤ a.1) && decide (a.1 ≤ hi))) with
      | false => simp only [h0, h00, cond_false] at hz; cases hz
      | true =>
        simp only [h0, h00, cond_true, cond_false] at hz
        simp only [Bool.and_eq_true, decide_eq_true_eq] at h00
        split at hz
        · rename_i o ho
          obtain ⟨tg, h1, ⟨_, h2⟩ | ⟨h3, _⟩⟩ := br_ok hz
          · obtain ⟨rfl, rfl, rfl, rfl⟩ := inj4 (congrArg some h2)
            exact s_tabIn C hd h00.1 h00.2.1 h00.2.2 (by rw [← lg_eq]; exact ho) h1 k
          · cases h3
        · cases hz
  case getfield i =>
    obtain ⟨h8, h9⟩ := one_ok hz; clear hz; subst h8; have hz := h9; clear h9
    split at hz
    · rename_i a r
      split at hz
      · rename_i ci fs hg
        cases hx : Nat.beq ci x with
        | false => simp [hx] at hz
        | true =>
          obtain rfl := Nat.eq_of_beq_eq_true hx
          simp only [hx, cond_true] at hz
          split at hz
          · rename_i v hv
            rw [go_eq] at hz
            obtain ⟨rfl, rfl, rfl, rfl⟩ := inj4 hz
            exact s_get C hd hl hg (by rw [← lg_eq]; exact hv) k
          · cases hz
      · cases hz
    · cases hz
  case putfield i =>
    obtain ⟨h8, h9⟩ := one_ok hz; clear hz; subst h8; have hz := h9; clear h9
    split at hz
    · rename_i v a r
      split at hz
      · rename_i ci fs hg
        cases hx : (Nat.beq ci x && (fitA z v && Nat.blt y fs.length)) with
        | false => rw [hx] at hz; cases hz
        | true =>
          simp only [hx, cond_true, lsK_eq, hsetK_eq, go_eq] at hz
          simp only [Bool.and_eq_true] at hx
          obtain rfl := Nat.eq_of_beq_eq_true hx.1
          obtain ⟨rfl, rfl, rfl, rfl⟩ := inj4 hz
          exact s_put C hd hl hg hx.2.1 (Nat.blt_eq.mp hx.2.2) k
      · cases hz
    · cases hz
  case new i =>
    obtain ⟨h8, h9⟩ := one_ok hz; clear hz; subst h8; have hz := h9; clear h9
    split at hz
    · rename_i fs hfs
      cases hf : isFree h with
      | false => simp [hf] at hz
      | true =>
        simp only [hf, cond_true, hnewK_eq, go_eq] at hz
        obtain ⟨rfl, rfl, rfl, rfl⟩ := inj4 hz
        exact s_new C hdf hd hl hfs hc0 hs0 hRc k
    · cases hz
  case newarray ty =>
    obtain ⟨h8, h9⟩ := one_ok hz; clear hz; subst h8; have hz := h9; clear h9
    split at hz
    · rename_i kk w hk
      obtain ⟨a, r, h8, h9⟩ := int1_ok hz; clear hz; subst h8; have hz := h9; clear h9
      cases hf : isFree h with
      | false => simp [hf] at hz
      | true =>
        simp only [hf, cond_true] at hz
        obtain ⟨n, h8, hn, h9⟩ := ix_ok hz; clear hz; subst h8; have hz := h9; clear h9
        simp only [hnewK_eq, go_eq] at hz
        obtain ⟨rfl, rfl, rfl, rfl⟩ := inj4 hz
        exact s_newa C hd hl hk hn hc0 hs0 hRc k
    · cases hz
  case anewarray i =>
    obtain ⟨h8, h9⟩ := one_ok hz; clear hz; subst h8; have hz := h9; clear h9
    obtain ⟨a, r, h8, h9⟩ := int1_ok hz; clear hz; subst h8; have hz := h9; clear h9
    cases hf : isFree h with
    | false => simp [hf] at hz
    | true =>
      simp only [hf, cond_true] at hz
      obtain ⟨n, h8, hn, h9⟩ := ix_ok hz; clear hz; subst h8; have hz := h9; clear h9
      simp only [hnewK_eq, go_eq] at hz
      obtain ⟨rfl, rfl, rfl, rfl⟩ := inj4 hz
      exact s_newq C hd hl hn hc0 hs0 hRc k
  case arraylength =>
    obtain ⟨h8, h9⟩ := one_ok hz; clear hz; subst h8; have hz := h9; clear h9
    split at hz
    · rename_i a r
      split at hz
      · rename_i kd n ch hg
        cases hx : (Nat.blt n 5001 && Nat.blt kd 6) with
        | false => rw [hx] at hz; cases hz
        | true =>
          simp only [hx, cond_true, go_eq] at hz
          simp only [Bool.and_eq_true] at hx
          obtain ⟨rfl, rfl, rfl, rfl⟩ := inj4 hz
          have hn := Nat.blt_eq.mp hx.1
          exact s_alen C hd hg (by omega) (Nat.blt_eq.mp hx.2) k
      · cases hz
    · rename_i r
      split at hz
      · rename_i f
        rw [go_eq] at hz
        obtain ⟨rfl, rfl, rfl, rfl⟩ := inj4 hz
        exact s_slen C hsc rfl hd k
      · cases hz
    · cases hz
  case iaload =>
    obtain ⟨h8, h9⟩ := one_ok hz; clear hz; subst h8; have hz := h9; clear h9
    rcases ald_ok hz with ⟨a, kk, n, j, ch, v, r, rfl, h1, h2, h3, h4, h5⟩ | ⟨j, f, r, h1, rfl, h2, h3, h4⟩
    · obtain ⟨rfl, rfl, rfl, rfl⟩ := inj4 (congrArg some h5)
      obtain rfl := Nat.eq_of_beq_eq_true h2
      exact s_iald C hd h1 h3 h4 k
    · obtain ⟨rfl, rfl, rfl, rfl⟩ := inj4 (congrArg some h4)
      exact s_sld C hsc h1 hd h3 k
  case baload =>
    obtain ⟨h8, h9⟩ := one_ok hz; clear hz; subst h8; have hz := h9; clear h9
    rcases ald_ok hz with ⟨a, kk, n, j, ch, v, r, rfl, h1, h2, h3, h4, h5⟩ | ⟨j, f, r, h1, rfl, h2, h3, h4⟩
    · obtain ⟨rfl, rfl, rfl, rfl⟩ := inj4 (congrArg some h5)
      simp only [Bool.or_eq_true] at h2
      exact s_bald C hd (h2.imp Nat.eq_of_beq_eq_true Nat.eq_of_beq_eq_true) h1 h3 h4 k
    · cases h1
  case laload =>
    obtain ⟨h8, h9⟩ := one_ok hz; clear hz; subst h8; have hz := h9; clear h9
    rcases ald_ok hz with ⟨a, kk, n, j, ch, v, r, rfl, h1, h2, h3, h4, h5⟩ | ⟨j, f, r, h1, rfl, h2, h3, h4⟩
    · obtain ⟨rfl, rfl, rfl, rfl⟩ := inj4 (congrArg some h5)
      obtain rfl := Nat.eq_of_beq_eq_true h2
      exact s_lald C hd h1 h3 h4 k
    · cases h1
  case aaload =>
    obtain ⟨h8, h9⟩ := one_ok hz; clear hz; subst h8; have hz := h9; clear h9
    rcases ald_ok hz with ⟨a, kk, n, j, ch, v, r, rfl, h1, h2, h3, h4, h5⟩ | ⟨j, f, r, h1, rfl, h2, h3, h4⟩
    · obtain ⟨rfl, rfl, rfl, rfl⟩ := inj4 (congrArg some h5)
      simp only [Bool.or_eq_true] at h2
      exact s_aald C hd (h2.imp Nat.eq_of_beq_eq_true Nat.eq_of_beq_eq_true) h1 h3 h4 k
    · cases h1
  case iastore =>
    obtain ⟨h8, h9⟩ := one_ok hz; clear hz; subst h8; have hz := h9; clear h9
    obtain ⟨a, kk, n, j, ch, v, r, rfl, h1, h2, h3, h5⟩ := ast_ok hz
    obtain ⟨rfl, rfl, rfl, rfl⟩ := inj4 (congrArg some h5)
    have hk1 : kk = 1 := by
      rcases v with va | vc | vi | vk
      · exact Nat.eq_of_beq_eq_true h2
      · cases h2
      · cases h2
      · cases h2
    subst hk1
    exact s_iast C hd h2 h1 h3 k
  case bastore =>
    obtain ⟨h8, h9⟩ := one_ok hz; clear hz; subst h8; have hz := h9; clear h9
    obtain ⟨a, kk, n, j, ch, v, r, rfl, h1, h2, h3, h5⟩ := ast_ok hz
    obtain ⟨rfl, rfl, rfl, rfl⟩ := inj4 (congrArg some h5)
    exact s_bast C hd h2 h1 h3 k
  case lastore =>
    obtain ⟨h8, h9⟩ := one_ok hz; clear hz; subst h8; have hz := h9; clear h9
    obtain ⟨a, kk, n, j, ch, v, r, rfl, h1, h2, h3, h5⟩ := ast_ok hz
    obtain ⟨rfl, rfl, rfl, rfl⟩ := inj4 (congrArg some h5)
    have hk1 : kk = 2 := by
      rcases v with va | vc | vi | vk
      · cases h2
      · exact Nat.eq_of_beq_eq_true h2
      · cases h2
      · cases h2
    subst hk1
    exact s_last C hd h2 h1 h3 k
  case aastore =>
    obtain ⟨h8, h9⟩ := one_ok hz; clear hz; subst h8; have hz := h9; clear h9
    obtain ⟨a, kk, n, j, ch, v, r, rfl, h1, h2, h3, h5⟩ := ast_ok hz
    obtain ⟨rfl, rfl, rfl, rfl⟩ := inj4 (congrArg some h5)
    exact s_aast C hd h2 h1 h3 k
  case invokevirtual i =>
    obtain ⟨h8, h9⟩ := one_ok hz; clear hz; subst h8; have hz := h9; clear h9
    cases hx : Nat.beq x 1 with
    | false => simp [hx] at hz
    | true =>
      simp only [hx, cond_true] at hz
      exact inv_sound C hP hcal (Or.inr (Or.inl ⟨Nat.eq_of_beq_eq_true hx, hd⟩)) hl hz hRf hRl hc0 hs0 hRc k
  case invokestatic i =>
    obtain ⟨h8, h9⟩ := one_ok hz; clear hz; subst h8; have hz := h9; clear h9
    cases hx : (Nat.beq x 0 || (Nat.beq x 3 || (Nat.beq x 5 || Nat.beq x 6))) with
    | false => rw [hx] at hz; cases hz
    | true =>
      simp only [hx, cond_true] at hz
      simp only [Bool.or_eq_true] at hx
      exact inv_sound C hP hcal (Or.inl ⟨hx.imp Nat.eq_of_beq_eq_true (fun h => h.imp Nat.eq_of_beq_eq_true (fun h => h.imp Nat.eq_of_beq_eq_true Nat.eq_of_beq_eq_true)), hd⟩) hl hz hRf hRl hc0 hs0 hRc k
  case invokespecial i =>
    obtain ⟨h8, h9⟩ := one_ok hz; clear hz; subst h8; have hz := h9; clear h9
    cases hx : (Nat.beq x 2 || (Nat.beq x 4 || Nat.beq x 7)) with
    | false => rw [hx] at hz; cases hz
    | true =>
      simp only [hx, cond_true] at hz
      simp only [Bool.or_eq_true] at hx
      exact inv_sound C hP hcal (Or.inr (Or.inr ⟨hx.imp Nat.eq_of_beq_eq_true (fun h => h.imp Nat.eq_of_beq_eq_true Nat.eq_of_beq_eq_true), hd⟩)) hl hz hRf hRl hc0 hs0 hRc k
  case ireturn =>
    obtain ⟨h8, h9⟩ := one_ok hz; clear hz; subst h8; have hz := h9; clear h9
    unfold retA at hz
    split at hz
    · split at hz
      · cases hz
      · rename_i a _
        cases ha : (decide (0 ≤ a.1) && decide (a.2 ≤ 1)) with
        | false => rw [ha] at hz; cases hz
        | true => rw [ha] at hz; cases hz
      · cases hz
    · cases hz
  case return_ =>
    obtain ⟨h8, h9⟩ := one_ok hz; clear hz; subst h8; have hz := h9; clear h9
    unfold retV at hz
    split at hz
    · cases hz
    · cases hz
  all_goals cases hz
end STP
