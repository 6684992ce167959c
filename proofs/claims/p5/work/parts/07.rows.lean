/-! The walk: arrays. -/
section ROWS
variable {p : Program} {l : Launch} {e : Env} {R : Room} {s : State} {m : MethodId} {args : Array Value} {below : List Frame} {meth : Method} {c : Code} {Q : State → Prop}
variable {G : va_G} {cy : Nat → ClassId} {b : BB} {A : Nat → Prop} {own nm : String} {cc : ByteArray} {nL c0 s0 : Nat}
theorem same_cls {k : Nat} {cA : ClassId} {ty : FieldType} (hK : va_K G vwCl (TY cy) s) (hK2 : va_K G vwCl (TY cy ++ [(cA, ty)]) s) (hk : (TY cy)[k]? = some (cy k, ty)) : cA = cy k := by
  have h1 := (hK.2 k _ hk).2
  have h2 := (hK2.2 6 (cA, ty) rfl).2
  have fin : ∀ (nme : String), s.vm.findClass nme = some (cy k) → s.vm.findClass nme = some cA → cA = cy k := fun nme a1 a2 => Option.some.inj (a2.symm.trans a1)
  cases ty with
  | object C =>
    obtain ⟨_, _, _, _, _, f1⟩ := h1
    obtain ⟨_, _, _, _, _, f2⟩ := h2
    exact fin _ f1 f2
  | _ => exact fin _ h1 h2
theorem gA_new {k n : Nat} {w : AV} {t : ArrayType} (hk : akind t = some (k, w)) : ∃ a0 : vp_A, (∀ cA : ClassId, vp_cell cA a0 = arrV cA n (fun _ => defaultValue (Op.newarray.typeOf t))) ∧ (∀ (b : Nat) (ws : va_W), gA b ws k n (zs n w) a0) ∧ (TY cy)[k]? = some (cy k, Op.newarray.typeOf t) ∧ ∃ pl, a0 = (n, pl) := by
  cases t <;> simp only [akind, Option.some.injEq, Prod.mk.injEq, reduceCtorEq] at hk
  all_goals obtain ⟨rfl, rfl⟩ := hk
  · exact ⟨(n, .inl (fun _ => 0)), fun _ => rfl, fun b ws => ⟨rfl, Or.inl ⟨by simp, _, rfl, fun i a hi ha => by rw [pg_zs hi] at ha; obtain rfl := Option.some.inj ha; exact ⟨by decide, by decide⟩⟩⟩, rfl, _, rfl⟩
  · exact ⟨(n, .inl (fun _ => 0)), fun _ => rfl, fun b ws => ⟨rfl, Or.inl ⟨by simp, _, rfl, fun i a hi ha => by rw [pg_zs hi] at ha; obtain rfl := Option.some.inj ha; exact ⟨by decide, by decide⟩⟩⟩, rfl, _, rfl⟩
  · exact ⟨(n, .inl (fun _ => 0)), fun _ => rfl, fun b ws => ⟨rfl, Or.inl ⟨by simp, _, rfl, fun i a hi ha => by rw [pg_zs hi] at ha; obtain rfl := Option.some.inj ha; exact ⟨by decide, by decide⟩⟩⟩, rfl, _, rfl⟩
  · exact ⟨(n, .inr (.inl (fun _ => 0))), fun _ => rfl, fun b ws => ⟨rfl, Or.inr (Or.inl ⟨rfl, _, rfl, fun i a hi ha => by rw [pg_zs hi] at ha; obtain rfl := Option.some.inj ha; exact fun k hk => Option.some.inj hk⟩)⟩, rfl, _, rfl⟩
theorem cb_le (t : ArrayType) : componentBytes (Op.newarray.typeOf t) ≤ 8 := by cases t <;> decide
theorem s_newa (C : Cx p c m s args meth G cy A own nm cc nL) {pc n k : Nat} {t : ArrayType} {w : AV} {L : LO} {S : List AV} {h : AH} (hd : decode cc pc = .ok (.newarray t, 2)) (hl : Cond.arrayClass (Op.newarray.typeOf t) ∈ gtbl) (hk : akind t = some (k, w)) (hn : n < 5000) (hc0 : c0 ≤ h.1 + 1) (hs0 : s0 ≤ h.2.1) (hR : h.1 + 1 + 1 - c0 ≤ R.cells ∧ h.2.1 + n - s0 ≤ R.slots)
    (kk : Wk p l e R s m args below meth c Q G cy b A nL c0 s0 (pc + 2) L (.inr (.inr (.inl h.1)) :: S) (hnew h (.inr (k, (n, zs n w))) n)) : Wk p l e R s m args below meth c Q G cy b A nL c0 s0 pc L (.inl ((n : Int), (n : Int)) :: S) h := by
  intro ws ls st H locs hs
  obtain ⟨v1, st1, rfl, g1, g2⟩ := hs.2.2.1.cons
  obtain ⟨x, rfl, hx⟩ := g1.int
  obtain ⟨x1, x2⟩ := i32_nat hx
  obtain ⟨a0, h1, h2, h3, pl, rfl⟩ := gA_new (cy := cy) (n := n) hk
  have hb8 := cb_le t
  have hby : n * componentBytes (Op.newarray.typeOf t) ≤ 536870912 := Nat.le_trans (Nat.mul_le_mul (Nat.le_of_lt hn) hb8) (by decide)
  refine va_newa (D := G) (atype := t) C.1 C.2.1 (C.2.2.2.2.1 _ hl) rfl C.2.2.2.2.2.1.1 hs.2.2.2.1 hs.2.2.2.2.1 hs.2.2.2.2.2 C.2.2.2.2.2.2.1 (a0 := (n, pl)) h1 x1 x2 hby (by omega) (by omega) hd (fun q cA H1 hK2 hP hD hS => ?_)
  have hcA := same_cls C.2.2.2.2.2.1.1 hK2 h3
  subst hcA
  have hsub : sub_ ws (ws ++ [(q, .inl (cy k, (n, pl)))]) := sub_.app _ _
  refine W.widen (k := (hnew h (.inr (k, (n, zs n w))) n).1 + 1 - c0) (n := (hnew h (.inr (k, (n, zs n w))) n).2.1 - s0) (by show _ ≤ h.1 + 1 + 1 - c0; omega) (by show _ ≤ h.2.1 + n - s0; omega) ?_
  have hgc : gC cy b.1 ws (.inr (k, (n, zs n w))) (.inl (cy k, (n, pl))) := ⟨rfl, h2 b.1 ws⟩
  exact kk _ ls (.ref q :: st1) H1 locs ⟨hs.1.push hgc, hs.2.1.mono hsub, ⟨⟨.inl (cy k, (n, pl)), by rw [← hs.1.1]; simp⟩, g2.mono hsub⟩, hP, hD, hS⟩
theorem s_newq (C : Cx p c m s args meth G cy A own nm cc nL) {pc n i k : Nat} {L : LO} {S : List AV} {h : AH} (hd : decode cc pc = .ok (.anewarray i, 3)) (hl : (k = 4 ∧ Cond.classLink own i "MerryDuchy$Duchy" ∈ gtbl) ∨ (k = 5 ∧ Cond.classLink own i "MerryDuchy$State" ∈ gtbl)) (hn : n < 5000) (hc0 : c0 ≤ h.1 + 1) (hs0 : s0 ≤ h.2.1) (hR : h.1 + 1 + 1 - c0 ≤ R.cells ∧ h.2.1 + n - s0 ≤ R.slots)
    (kk : Wk p l e R s m args below meth c Q G cy b A nL c0 s0 (pc + 3) L (.inr (.inr (.inl h.1)) :: S) (hnew h (.inr (k, (n, zs n (.inr (.inr (.inr 0)))))) n)) : Wk p l e R s m args below meth c Q G cy b A nL c0 s0 pc L (.inl ((n : Int), (n : Int)) :: S) h := by
  intro ws ls st H locs hs
  obtain ⟨v1, st1, rfl, g1, g2⟩ := hs.2.2.1.cons
  obtain ⟨x, rfl, hx⟩ := g1.int
  obtain ⟨x1, x2⟩ := i32_nat hx
  have main : ∀ (CN : String), (TY cy)[k]? = some (cy k, .object CN) → Cond.classLink own i CN ∈ gtbl → va_AO CN s → (k = 4 ∨ k = 5) → W p l e R s m args below meth c H locs (h.1 + 1 - c0) (h.2.1 - s0) Q (F0 m pc ls (.int x :: st1)) := by
    intro CN h3 hlk hao hk
    refine va_newq (D := G) (C := CN) C.1 C.2.1 C.2.2.2.1 (C.2.2.2.2.1 _ hlk) hao C.2.2.2.2.2.1.1 hs.2.2.2.1 hs.2.2.2.2.1 hs.2.2.2.2.2 C.2.2.2.2.2.2.1 x1 x2 (by omega) (by omega) (by omega) hd (fun q cA H1 hK2 hP hD hS => ?_)
    have hcA := same_cls C.2.2.2.2.2.1.1 hK2 h3
    subst hcA
    have hsub : sub_ ws (ws ++ [(q, .inl (cy k, (n, .inr (.inr (.inr (.inr (fun _ => none)))))))]) := sub_.app _ _
    refine W.widen (k := (hnew h (.inr (k, (n, zs n (.inr (.inr (.inr 0)))))) n).1 + 1 - c0) (n := (hnew h (.inr (k, (n, zs n (.inr (.inr (.inr 0)))))) n).2.1 - s0) (by show _ ≤ h.1 + 1 + 1 - c0; omega) (by show _ ≤ h.2.1 + n - s0; omega) ?_
    have hgc : gC cy b.1 ws (.inr (k, (n, zs n (.inr (.inr (.inr 0)))))) (.inl (cy k, (n, .inr (.inr (.inr (.inr (fun _ => none))))))) := ⟨rfl, rfl, Or.inr (Or.inr ⟨hk, _, rfl, fun i a hi ha => by rw [pg_zs hi] at ha; obtain rfl := Option.some.inj ha; exact rfl⟩)⟩
    exact kk _ ls (.ref q :: st1) H1 locs ⟨hs.1.push hgc, hs.2.1.mono hsub, ⟨⟨.inl (cy k, (n, .inr (.inr (.inr (.inr (fun _ => none)))))), by rw [← hs.1.1]; simp⟩, g2.mono hsub⟩, hP, hD, hS⟩
  rcases hl with ⟨rfl, hlk⟩ | ⟨rfl, hlk⟩
  · exact main _ rfl hlk C.2.2.2.2.2.1.2.2.1 (Or.inl rfl)
  · exact main _ rfl hlk C.2.2.2.2.2.1.2.2.2 (Or.inr rfl)
theorem s_iald (C : Cx p c m s args meth G cy A own nm cc nL) {pc a n j : Nat} {L : LO} {S : List AV} {h : AH} {ch : List (List AV)} {v : AV} (hd : decode cc pc = .ok (.iaload, 1)) (hg : hget h a = some (.inr (1, (n, ch)))) (hj : j < n) (hv : pg ch j = some v)
    (k : Wk p l e R s m args below meth c Q G cy b A nL c0 s0 (pc + 1) L (v :: S) h) : Wk p l e R s m args below meth c Q G cy b A nL c0 s0 pc L (.inl ((j : Int), (j : Int)) :: .inr (.inr (.inl a)) :: S) h := by
  intro ws ls st H locs hs
  obtain ⟨v1, st0, rfl, g0, g00⟩ := hs.2.2.1.cons
  obtain ⟨x, rfl, hx⟩ := g0.int
  obtain ⟨w, st1, rfl, g1, g2⟩ := g00.cons
  obtain ⟨q, e0, rfl, he⟩ := g1.ref
  obtain ⟨pp, he', hA⟩ := at_arr hs.1 he hg
  obtain ⟨_, ⟨_, f, hf, hff⟩ | ⟨h1, _⟩ | ⟨h1 | h1, _⟩⟩ := hA
  · have hf : pp = .inl f := hf
    subst hf
    refine va_iald (D := G) C.1 C.2.1 C.2.2.2.2.2.1.1 hs.2.2.2.1 a 1 he' rfl (vin_ok hx hj) hd ?_
    rw [(i32_nat hx).2]
    exact k ws ls _ H locs ⟨hs.1, hs.2.1, ⟨hff j v hj hv, g2⟩, hs.2.2.2⟩
  · cases h1
  · cases h1
  · cases h1
theorem s_bald (C : Cx p c m s args meth G cy A own nm cc nL) {pc a n j kd : Nat} {L : LO} {S : List AV} {h : AH} {ch : List (List AV)} {v : AV} (hd : decode cc pc = .ok (.baload, 1)) (hkd : kd = 0 ∨ kd = 3) (hg : hget h a = some (.inr (kd, (n, ch)))) (hj : j < n) (hv : pg ch j = some v)
    (k : Wk p l e R s m args below meth c Q G cy b A nL c0 s0 (pc + 1) L (v :: S) h) : Wk p l e R s m args below meth c Q G cy b A nL c0 s0 pc L (.inl ((j : Int), (j : Int)) :: .inr (.inr (.inl a)) :: S) h := by
  intro ws ls st H locs hs
  obtain ⟨v1, st0, rfl, g0, g00⟩ := hs.2.2.1.cons
  obtain ⟨x, rfl, hx⟩ := g0.int
  obtain ⟨w, st1, rfl, g1, g2⟩ := g00.cons
  obtain ⟨q, e0, rfl, he⟩ := g1.ref
  obtain ⟨pp, he', hA⟩ := at_arr hs.1 he hg
  obtain ⟨_, ⟨_, f, hf, hff⟩ | ⟨h1, _⟩ | ⟨h1, _⟩⟩ := hA
  · have hf : pp = .inl f := hf
    subst hf
    have kk : W p l e R s m args below meth c H locs (h.1 + 1 - c0) (h.2.1 - s0) Q (F0 m (pc + 1) ls (.int (f x.toNatClampNeg) :: st1)) := by
      rw [(i32_nat hx).2]
      exact k ws ls _ H locs ⟨hs.1, hs.2.1, ⟨hff j v hj hv, g2⟩, hs.2.2.2⟩
    rcases hkd with rfl | rfl
    · exact va_bald (D := G) C.1 C.2.1 C.2.2.2.2.2.1.1 hs.2.2.2.1 a 0 he' rfl (vin_ok hx hj) hd kk
    · exact va_zald (D := G) C.1 C.2.1 C.2.2.2.2.2.1.1 hs.2.2.2.1 a 3 he' rfl (vin_ok hx hj) hd kk
  · omega
  · omega
theorem s_lald (C : Cx p c m s args meth G cy A own nm cc nL) {pc a n j : Nat} {L : LO} {S : List AV} {h : AH} {ch : List (List AV)} {v : AV} (hd : decode cc pc = .ok (.laload, 1)) (hg : hget h a = some (.inr (2, (n, ch)))) (hj : j < n) (hv : pg ch j = some v)
    (k : Wk p l e R s m args below meth c Q G cy b A nL c0 s0 (pc + 1) L (v :: S) h) : Wk p l e R s m args below meth c Q G cy b A nL c0 s0 pc L (.inl ((j : Int), (j : Int)) :: .inr (.inr (.inl a)) :: S) h := by
  intro ws ls st H locs hs
  obtain ⟨v1, st0, rfl, g0, g00⟩ := hs.2.2.1.cons
  obtain ⟨x, rfl, hx⟩ := g0.int
  obtain ⟨w, st1, rfl, g1, g2⟩ := g00.cons
  obtain ⟨q, e0, rfl, he⟩ := g1.ref
  obtain ⟨pp, he', hA⟩ := at_arr hs.1 he hg
  obtain ⟨_, ⟨h1, _⟩ | ⟨_, f, hf, hff⟩ | ⟨h1, _⟩⟩ := hA
  · omega
  · have hf : pp = .inr (.inl f) := hf
    subst hf
    refine va_lald (D := G) C.1 C.2.1 C.2.2.2.2.2.1.1 hs.2.2.2.1 a 2 he' rfl (vin_ok hx hj) hd ?_
    rw [(i32_nat hx).2]
    exact k ws ls _ H locs ⟨hs.1, hs.2.1, ⟨hff j v hj hv, g2⟩, hs.2.2.2⟩
  · omega
theorem s_aald (C : Cx p c m s args meth G cy A own nm cc nL) {pc a n j kd : Nat} {L : LO} {S : List AV} {h : AH} {ch : List (List AV)} {v : AV} (hd : decode cc pc = .ok (.aaload, 1)) (hkd : kd = 4 ∨ kd = 5) (hg : hget h a = some (.inr (kd, (n, ch)))) (hj : j < n) (hv : pg ch j = some v)
    (k : Wk p l e R s m args below meth c Q G cy b A nL c0 s0 (pc + 1) L (v :: S) h) : Wk p l e R s m args below meth c Q G cy b A nL c0 s0 pc L (.inl ((j : Int), (j : Int)) :: .inr (.inr (.inl a)) :: S) h := by
  intro ws ls st H locs hs
  obtain ⟨v1, st0, rfl, g0, g00⟩ := hs.2.2.1.cons
  obtain ⟨x, rfl, hx⟩ := g0.int
  obtain ⟨w, st1, rfl, g1, g2⟩ := g00.cons
  obtain ⟨q, e0, rfl, he⟩ := g1.ref
  obtain ⟨pp, he', hA⟩ := at_arr hs.1 he hg
  obtain ⟨_, ⟨h1, _⟩ | ⟨h1, _⟩ | ⟨_, f, hf, hff⟩⟩ := hA
  · omega
  · omega
  · have hf : pp = .inr (.inr (.inr (.inr f))) := hf
    subst hf
    have kk : W p l e R s m args below meth c H locs (h.1 + 1 - c0) (h.2.1 - s0) Q (F0 m (pc + 1) ls (va_rf (f x.toNatClampNeg) :: st1)) := by
      rw [(i32_nat hx).2]
      exact k ws ls _ H locs ⟨hs.1, hs.2.1, ⟨hff j v hj hv, g2⟩, hs.2.2.2⟩
    rcases hkd with rfl | rfl
    · exact va_aldq (D := G) C.1 C.2.1 C.2.2.2.2.2.1.1 hs.2.2.2.1 a 4 he' rfl (vin_ok hx hj) hd kk
    · exact va_aldq (D := G) C.1 C.2.1 C.2.2.2.2.2.1.1 hs.2.2.2.1 a 5 he' rfl (vin_ok hx hj) hd kk
end ROWS
