/-! The walk: cells. -/
section HEAP
variable {p : Program} {l : Launch} {e : Env} {R : Room} {s : State} {m : MethodId} {args : Array Value} {below : List Frame} {meth : Method} {c : Code} {Q : State → Prop}
variable {G : va_G} {cy : Nat → ClassId} {b : BB} {A : Nat → Prop} {own nm : String} {cc : ByteArray} {nL c0 s0 : Nat}
theorem at_obj {ws : va_W} {h : AH} {a q ci : Nat} {fs : List AV} {e0 : va_E} (hg : gH cy b.1 ws h) (he : ws[a]? = some (q, e0)) (ho : hget h a = some (.inl (ci, fs))) : ∃ vs, ws[a]? = some (q, .inr (ci, vs)) ∧ fs.length = vs.length ∧ ∀ (k : Nat) (v : AV), fs[k]? = some v → ∃ v', vs[k]? = some v' ∧ gV b.1 ws v v' := by
  obtain ⟨q', e', he', hc⟩ := hg.2 a _ ho
  rw [he] at he'
  obtain ⟨rfl, rfl⟩ := Prod.mk.inj (Option.some.inj he')
  obtain ⟨vs, rfl, h1, h2⟩ := hc.obj
  exact ⟨vs, he, h1, h2⟩
theorem at_arr {ws : va_W} {h : AH} {a q kd n : Nat} {ch : List (List AV)} {e0 : va_E} (hg : gH cy b.1 ws h) (he : ws[a]? = some (q, e0)) (ho : hget h a = some (.inr (kd, (n, ch)))) : ∃ p, ws[a]? = some (q, .inl (cy kd, (n, p))) ∧ gA b.1 ws kd n ch (n, p) := by
  obtain ⟨q', e', he', hc⟩ := hg.2 a _ ho
  rw [he] at he'
  obtain ⟨rfl, rfl⟩ := Prod.mk.inj (Option.some.inj he')
  obtain ⟨p, rfl, h1⟩ := hc.arr
  exact ⟨p, he, h1⟩
theorem s_get (C : Cx p c m s args meth G cy A own nm cc nL) {pc i x y a : Nat} {L : LO} {S : List AV} {h : AH} {fs : List AV} {v : AV} (hd : decode cc pc = .ok (.getfield i, 3)) (hl : ∃ (C' : String) (T : u_T) (N : Nat), vwCl[x]? = some (C', T, N) ∧ y < N ∧ Cond.fieldLink own i (T y).1 (T y).2.1 (T y).2.2.1 ∈ gtbl) (hg : hget h a = some (.inl (x, fs))) (hv : fs[y]? = some v)
    (k : Wk p l e R s m args below meth c Q G cy b A nL c0 s0 (pc + 3) L (v :: S) h) : Wk p l e R s m args below meth c Q G cy b A nL c0 s0 pc L (.inr (.inr (.inl a)) :: S) h := by
  intro ws ls st H locs hs
  obtain ⟨w, st1, rfl, g1, g2⟩ := hs.2.2.1.cons
  obtain ⟨q, e0, rfl, he⟩ := g1.ref
  obtain ⟨vs, he', hlen, hfs⟩ := at_obj hs.1 he hg
  obtain ⟨v', hv', gv⟩ := hfs y v hv
  obtain ⟨C', T, N, hcl, hy, hlink⟩ := hl
  exact va_get (D := G) (C := C') (T := T) (N := N) C.1 C.2.1 C.2.2.2.2.1 (cls_in hcl) C.2.2.2.1 C.2.2.2.2.2.1.1 hs.2.2.2.1 a he' hcl y hy (C.2.2.2.2.1 _ hlink) (fun _ h9 => h9) hv' hd (k ws ls (v' :: st1) H locs ⟨hs.1, hs.2.1, ⟨gv, g2⟩, hs.2.2.2⟩)
def tcd (z : Nat) (ty : FieldType) : Prop := z = 0 ∧ ty = .int ∨ z = 1 ∧ ty = .boolean ∨ z = 2 ∧ ty = .long ∨ z = 3 ∧ ((∃ n, ty = .object n) ∨ ∃ t, ty = .array t)
theorem bool_ok {x : Int32} (h1 : 0 ≤ x.toInt) (h2 : x.toInt ≤ 1) : x = 0 ∨ x = 1 := by
  rcases (show x.toInt = 0 ∨ x.toInt = 1 by omega) with h | h
  · exact Or.inl (Int32.toInt_inj.mp (by rw [h]; rfl))
  · exact Or.inr (Int32.toInt_inj.mp (by rw [h]; rfl))
theorem fit_ok {z : Nat} {ty : FieldType} {v : AV} {v' : Value} {ws : va_W} (hf : fitA z v = true) (hg : gV b.1 ws v v') (ht : tcd z ty) : narrow ty v' = v' ∧ fits ty v' = true := by
  rcases v with a | c | i | k
  · obtain ⟨x, rfl, hx⟩ := hg.int
    unfold fitA at hf
    rcases ht with ⟨rfl, rfl⟩ | ⟨rfl, rfl⟩ | ⟨rfl, rfl⟩ | ⟨rfl, _⟩
    · exact ⟨rfl, rfl⟩
    · simp at hf
      rcases bool_ok (x := x) (by omega) (by omega) with rfl | rfl <;> exact ⟨rfl, rfl⟩
    · simp at hf
    · simp at hf
  · obtain ⟨x, rfl⟩ := hg.long
    unfold fitA at hf
    have hz := Nat.eq_of_beq_eq_true hf
    subst hz
    rcases ht with ⟨h, _⟩ | ⟨h, _⟩ | ⟨_, rfl⟩ | ⟨h, _⟩
    · cases h
    · cases h
    · exact ⟨rfl, rfl⟩
    · cases h
  · obtain ⟨q, e0, rfl, _⟩ := hg.ref
    unfold fitA at hf
    have hz := Nat.eq_of_beq_eq_true hf
    subst hz
    rcases ht with ⟨h, _⟩ | ⟨h, _⟩ | ⟨h, _⟩ | ⟨_, ⟨n, rfl⟩ | ⟨t, rfl⟩⟩
    · cases h
    · cases h
    · cases h
    · exact ⟨rfl, rfl⟩
    · exact ⟨rfl, rfl⟩
  · unfold fitA at hf
    simp only [Bool.and_eq_true] at hf
    have hz := Nat.eq_of_beq_eq_true hf.1
    have hk := Nat.eq_of_beq_eq_true hf.2
    subst hz
    subst hk
    rcases hg.ext with ⟨rfl, _⟩ | ⟨_, h⟩
    · rcases ht with ⟨h, _⟩ | ⟨h, _⟩ | ⟨h, _⟩ | ⟨_, ⟨n, rfl⟩ | ⟨t, rfl⟩⟩
      · cases h
      · cases h
      · cases h
      · exact ⟨rfl, rfl⟩
      · exact ⟨rfl, rfl⟩
    · cases h
theorem gC_put {ws : va_W} {ci y : Nat} {fs : List AV} {vs : List Value} {v : AV} {v' : Value} (hlen : fs.length = vs.length) (hfs : ∀ (k : Nat) (v : AV), fs[k]? = some v → ∃ v', vs[k]? = some v' ∧ gV b.1 ws v v') (gv : gV b.1 ws v v') : gC cy b.1 ws (.inl (ci, fs.set y v)) (.inr (ci, vs.set y v')) := by
  refine ⟨rfl, by simp [hlen], fun k a ha => ?_⟩
  have ha : (fs.set y v)[k]? = some a := ha
  show ∃ v2, (vs.set y v')[k]? = some v2 ∧ _
  by_cases hk : y = k
  · subst hk
    by_cases hl : y < fs.length
    · rw [List.getElem?_set_self hl] at ha
      obtain rfl := Option.some.inj ha
      exact ⟨v', by rw [List.getElem?_set_self (by omega)], gv⟩
    · rw [List.getElem?_eq_none (by simpa using hl)] at ha
      cases ha
  · rw [List.getElem?_set_ne hk] at ha
    obtain ⟨v2, h1, h2⟩ := hfs k a ha
    exact ⟨v2, by rw [List.getElem?_set_ne hk]; exact h1, h2⟩
theorem s_put (C : Cx p c m s args meth G cy A own nm cc nL) {pc i x y z a : Nat} {L : LO} {S : List AV} {h : AH} {fs : List AV} {v : AV} (hd : decode cc pc = .ok (.putfield i, 3)) (hl : ∃ (C' : String) (T : u_T) (N : Nat) (ty : FieldType), vwCl[x]? = some (C', T, N) ∧ y < N ∧ Cond.fieldLink own i (T y).1 (T y).2.1 (T y).2.2.1 ∈ gtbl ∧ parseFieldDescriptor (T y).2.2.1 = some ty ∧ tcd z ty ∧ ((T y).2.2.2 = false ∨ ((T y).2.2.2 = true ∧ nm = "<init>" ∧ (T y).1 = own))) (hg : hget h a = some (.inl (x, fs))) (hf : fitA z v = true) (hy2 : y < fs.length)
    (k : Wk p l e R s m args below meth c Q G cy b A nL c0 s0 (pc + 3) L S (hset h a (.inl (x, fs.set y v)))) : Wk p l e R s m args below meth c Q G cy b A nL c0 s0 pc L (v :: .inr (.inr (.inl a)) :: S) h := by
  intro ws ls st H locs hs
  obtain ⟨v', st0, rfl, gv, g0⟩ := hs.2.2.1.cons
  obtain ⟨w, st1, rfl, g1, g2⟩ := g0.cons
  obtain ⟨q, e0, rfl, he⟩ := g1.ref
  obtain ⟨vs, he', hlen, hfs⟩ := at_obj hs.1 he hg
  obtain ⟨C', T, N, ty, hcl, hy, hlink, hty, htc, hfin⟩ := hl
  obtain ⟨ty0, ht0, hnm⟩ := cls_ty hcl
  obtain ⟨hn, hft⟩ := fit_ok hf gv htc
  have hsub : sub_ ws (ws.set a (q, .inr (x, vs.set y v'))) := sub_.set he'
  have kk : ∀ (H1 : Heap) (locs1 : List Loc), va_P G vwCl (ws.set a (q, .inr (x, vs.set y v'))) H1 → va_D A (ws.set a (q, .inr (x, vs.set y v'))) → va_S A s.heap H1 locs1 → W p l e R s m args below meth c H1 locs1 (h.1 + 1 - c0) (h.2.1 - s0) Q (F0 m (pc + 3) ls st1) := fun H1 locs1 hP hD hS => k _ ls st1 H1 locs1 ⟨hs.1.set he' (gC_put hlen hfs gv), hs.2.1.mono hsub, g2.mono hsub, hP, hD, hS⟩
  rcases hfin with hfin | ⟨hfin, hinit, hdecl⟩
  · exact va_put (D := G) (C := C') (T := T) (N := N) C.1 C.2.1 C.2.2.2.2.1 (cls_in hcl) ty0 ht0 hnm C.2.2.2.1 C.2.2.2.2.2.1.1 hs.2.2.2.1 hs.2.2.2.2.1 hs.2.2.2.2.2 a he' hcl y hy (C.2.2.2.2.1 _ hlink) (fun _ h9 => h9) hfin hty hn hft (by omega) hd kk
  · exact va_putF (D := G) (C := C') (T := T) (N := N) C.1 C.2.1 C.2.2.2.2.1 (cls_in hcl) ty0 ht0 hnm C.2.2.2.1 C.2.2.2.2.2.1.1 hs.2.2.2.1 hs.2.2.2.2.1 hs.2.2.2.2.2 a he' hcl y hy (C.2.2.2.2.1 _ hlink) (fun _ h9 => h9) hfin (by rw [C.2.2.2.2.2.2.2.1]; exact hinit) hdecl hty hn hft (by omega) hd kk
/-- fields of a new object -/
def okDf (dfs : Nat → Option (List AV)) : Prop := ∀ (ci : Nat) (fs : List AV), dfs ci = some fs → ∀ (C : String) (T : u_T) (N : Nat), vwCl[ci]? = some (C, T, N) → fs.length = N ∧ ∃ (ty0 : Nat → FieldType) (vs : List Value), (∀ k, k < N → parseFieldDescriptor (T k).2.2.1 = some (ty0 k)) ∧ (∀ j, j < N → defaultValue (ty0 j) = vp_V vs j) ∧ vs.length = N ∧ ∀ (b : Nat) (ws : va_W) (k : Nat) (a : AV), fs[k]? = some a → ∃ v, vs[k]? = some v ∧ gV b ws a v
theorem s_new (C : Cx p c m s args meth G cy A own nm cc nL) {dfs : Nat → Option (List AV)} (hdf : okDf dfs) {pc i x : Nat} {L : LO} {S : List AV} {h : AH} {fs : List AV} (hd : decode cc pc = .ok (.new i, 3)) (hl : ∃ (C' : String) (T : u_T) (N : Nat), vwCl[x]? = some (C', T, N) ∧ Cond.classLink own i C' ∈ gtbl ∧ Cond.instantiable C' N ∈ gtbl ∧ Cond.initialized C' ∈ gtbl) (hx : dfs x = some fs) (hc0 : c0 ≤ h.1 + 1) (hs0 : s0 ≤ h.2.1) (hR : h.1 + 1 + 1 - c0 ≤ R.cells ∧ h.2.1 + fs.length - s0 ≤ R.slots)
    (k : Wk p l e R s m args below meth c Q G cy b A nL c0 s0 (pc + 3) L (.inr (.inr (.inl h.1)) :: S) (hnew h (.inl (x, fs)) fs.length)) : Wk p l e R s m args below meth c Q G cy b A nL c0 s0 pc L S h := by
  intro ws ls st H locs hs
  obtain ⟨C', T, N, hcl, hlink, hins, hini⟩ := hl
  obtain ⟨hlen, ty0, vs, h1, h2, h3, h4⟩ := hdf x fs hx C' T N hcl
  refine va_new (D := G) (ci := x) (fs := vs) (C := C') (T := T) (N := N) C.1 C.2.1 C.2.2.2.2.1 (cls_in hcl) ty0 h1 C.2.2.2.1 (C.2.2.2.2.1 _ hlink) (C.2.2.2.2.1 _ hins) (C.2.2.2.2.1 _ hini) C.2.2.2.2.2.1.1 hs.2.2.2.1 hs.2.2.2.2.1 hs.2.2.2.2.2 C.2.2.2.2.2.2.1 hcl h2 (by omega) (by omega) hd (fun q H1 hP hD hS => ?_)
  have hsub : sub_ ws (ws ++ [(q, .inr (x, vs))]) := sub_.app _ _
  have hgc : gC cy b.1 ws (.inl (x, fs)) (.inr (x, vs)) := ⟨rfl, by show fs.length = vs.length; omega, fun k a ha => h4 b.1 ws k a ha⟩
  refine W.widen (k := (hnew h (.inl (x, fs)) fs.length).1 + 1 - c0) (n := (hnew h (.inl (x, fs)) fs.length).2.1 - s0) (by show _ ≤ h.1 + 1 + 1 - c0; omega) (by show _ ≤ h.2.1 + fs.length - s0; omega) ?_
  exact k _ ls (.ref q :: st) H1 locs ⟨hs.1.push hgc, hs.2.1.mono hsub, ⟨⟨.inr (x, vs), by rw [← hs.1.1]; simp⟩, hs.2.2.1.mono hsub⟩, hP, hD, hS⟩
theorem s_alen (C : Cx p c m s args meth G cy A own nm cc nL) {pc a kd n : Nat} {L : LO} {S : List AV} {h : AH} {ch : List (List AV)} (hd : decode cc pc = .ok (.arraylength, 1)) (hg : hget h a = some (.inr (kd, (n, ch)))) (hn : n < 2147483648) (hk : kd < 6)
    (k : Wk p l e R s m args below meth c Q G cy b A nL c0 s0 (pc + 1) L (.inl ((n : Int), (n : Int)) :: S) h) : Wk p l e R s m args below meth c Q G cy b A nL c0 s0 pc L (.inr (.inr (.inl a)) :: S) h := by
  intro ws ls st H locs hs
  obtain ⟨w, st1, rfl, g1, g2⟩ := hs.2.2.1.cons
  obtain ⟨q, e0, rfl, he⟩ := g1.ref
  obtain ⟨pp, he', hA⟩ := at_arr hs.1 he hg
  have ht : ∃ ty, (TY cy)[kd]? = some (cy kd, ty) := by
    rcases kd with _ | _ | _ | _ | _ | _ | kd
    · exact ⟨_, rfl⟩
    · exact ⟨_, rfl⟩
    · exact ⟨_, rfl⟩
    · exact ⟨_, rfl⟩
    · exact ⟨_, rfl⟩
    · exact ⟨_, rfl⟩
    · omega
  obtain ⟨ty, ht⟩ := ht
  have e1 : (Int32.ofNat n).toInt = (n : Int) := Int32.toInt_ofNat_of_lt (by simpa using hn)
  exact va_alen (D := G) C.1 C.2.1 C.2.2.2.2.2.1.1 hs.2.2.2.1 a kd he' ht (v := Int32.ofNat n) rfl hd (k ws ls _ H locs ⟨hs.1, hs.2.1, ⟨by show _ ∧ _; rw [e1]; exact ⟨Int.le_refl _, Int.le_refl _⟩, g2⟩, hs.2.2.2⟩)
end HEAP
