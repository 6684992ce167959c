/-! The walk of one instruction over plain numbers: cells. -/
theorem i32_idx {x : Int32} {a : Int} {n : Nat} (hx : x.toInt = a) (h0 : 0 ≤ a) (hn : a < n) : vp_in x n ∧ x.toNatClampNeg = a.toNat := by
  have h1 : ¬ x < 0 := by
    rw [Int32.lt_iff_toInt_lt]
    simp
    omega
  have h2 : x.toNatClampNeg = a.toNat := by
    show x.toInt.toNat = a.toNat
    rw [hx]
  refine ⟨fun h3 => ?_, h2⟩
  rcases h3 with h3 | h3
  · exact h1 h3
  · omega
section JH
variable {p : Program} {l : Launch} {e : Env} {R : Room} {s : State} {m : MethodId} {args : Array Value} {below : List Frame} {meth : Method} {c : Code} {Q : State → Prop}
variable {sh : List JS} {G : va_G} {cy : Nat → ClassId} {bb : Nat → Nat} {ws0 : va_W} {A : Nat → Prop} {own nm : String} {cc : ByteArray} {nL kc ks : Nat}
theorem j_at {ws : va_W} {M : JM} {a q : Nat} {sc : JS} {e0 : va_E} (h : jH sh cy ws M) (he : ws[a]? = some (q, e0)) (hs : sh[a]? = some sc) : jC cy ws M a sc e0 := by
  obtain ⟨q', e', he', hc⟩ := h a sc hs
  rw [he] at he'
  obtain ⟨rfl, rfl⟩ := Prod.mk.inj (Option.some.inj he')
  exact hc
theorem k_get (C : Cx p c m s args meth G cy A own nm cc nL) {pc i x y a : Nat} {L : JL} {S : List JV} {M : JM} {fs : List JF} {f : JF} {v : JV} (hd : decode cc pc = .ok (.getfield i, 3)) (hl : ∃ (C' : String) (T : u_T) (N : Nat), vwCl[x]? = some (C', T, N) ∧ y < N ∧ Cond.fieldLink own i (T y).1 (T y).2.1 (T y).2.2.1 ∈ gtbl) (hc : sh[a]? = some (.inl (x, fs))) (hf : fs[y]? = some f) (hv : ∀ (ws : va_W) (v' : Value), jFv ws M a y f v' → jV bb ws v v')
    (k : Jk p l e R s m args below meth c Q sh G cy bb ws0 A nL kc ks (pc + 3) L (v :: S) M) : Jk p l e R s m args below meth c Q sh G cy bb ws0 A nL kc ks pc L (.inr (.inr (.inl a)) :: S) M := by
  intro ws ls st H locs hs
  obtain ⟨w, st1, rfl, g1, g2⟩ := hs.2.2.1.cons
  obtain ⟨q, e0, rfl, he⟩ := g1.ref
  obtain ⟨vs, rfl, hlen, hfs⟩ := j_at hs.1 he hc
  obtain ⟨v', hv', gv⟩ := hfs y f hf
  obtain ⟨C', T, N, hcl, hy, hlink⟩ := hl
  exact va_get (D := G) (C := C') (T := T) (N := N) C.1 C.2.1 C.2.2.2.2.1 (cls_in hcl) C.2.2.2.1 C.2.2.2.2.2.1.1 hs.2.2.2.1 a he hcl y hy (C.2.2.2.2.1 _ hlink) (fun _ h9 => h9) hv' hd (k ws ls (v' :: st1) H locs ⟨hs.1, hs.2.1, ⟨hv ws v' gv, g2⟩, hs.2.2.2⟩)
theorem jC_put {ws : va_W} {M M' : JM} {a x y : Nat} {fs : List JF} {f : JF} {vs : List Value} {v : Value} (hlen : fs.length = vs.length) (hfs : ∀ (k : Nat) (f : JF), fs[k]? = some f → ∃ v, vs[k]? = some v ∧ jFv ws M a k f v) (hf : fs[y]? = some f) (gv : jFv ws M' a y f v) (hm : ∀ k, k ≠ y → M'.1 a k = M.1 a k) (hw : ∀ k, k ≠ y → M'.2 a k = M.2 a k) : jC cy ws M' a (.inl (x, fs)) (.inr (x, vs.set y v)) := by
  have hy : y < fs.length := (List.getElem?_eq_some_iff.mp hf).1
  refine ⟨_, rfl, by simp [hlen], fun k f2 h2 => ?_⟩
  by_cases hk : y = k
  · subst hk
    rw [hf] at h2
    obtain rfl := Option.some.inj h2
    exact ⟨v, by rw [List.getElem?_set_self (by omega)], gv⟩
  · obtain ⟨v2, h3, h4⟩ := hfs k f2 h2
    refine ⟨v2, by rw [List.getElem?_set_ne hk]; exact h3, ?_⟩
    have hk' : k ≠ y := fun e => hk e.symm
    exact h4.mono (sub_.rf _) (hm k hk') (hw k hk')
theorem k_put (C : Cx p c m s args meth G cy A own nm cc nL) {pc i x y z a : Nat} {L : JL} {S : List JV} {M M' : JM} {fs : List JF} {f : JF} {v : JV} (hd : decode cc pc = .ok (.putfield i, 3)) (hl : ∃ (C' : String) (T : u_T) (N : Nat) (ty : FieldType), vwCl[x]? = some (C', T, N) ∧ y < N ∧ Cond.fieldLink own i (T y).1 (T y).2.1 (T y).2.2.1 ∈ gtbl ∧ parseFieldDescriptor (T y).2.2.1 = some ty ∧ tcd z ty ∧ ((T y).2.2.2 = false ∨ ((T y).2.2.2 = true ∧ nm = "<init>" ∧ (T y).1 = own))) (hc : sh[a]? = some (.inl (x, fs))) (hf : fs[y]? = some f) (hv : ∀ (ws : va_W) (v' : Value) (ty : FieldType), jV bb ws v v' → tcd z ty → jFv ws M' a y f v' ∧ narrow ty v' = v' ∧ fits ty v' = true) (hm : ∀ c k, ¬ (c = a ∧ k = y) → M'.1 c k = M.1 c k) (hw : ∀ c k, ¬ (c = a ∧ k = y) → M'.2 c k = M.2 c k)
    (k : Jk p l e R s m args below meth c Q sh G cy bb ws0 A nL kc ks (pc + 3) L S M') : Jk p l e R s m args below meth c Q sh G cy bb ws0 A nL kc ks pc L (v :: .inr (.inr (.inl a)) :: S) M := by
  intro ws ls st H locs hs
  obtain ⟨v', st0, rfl, gv, g0⟩ := hs.2.2.1.cons
  obtain ⟨w, st1, rfl, g1, g2⟩ := g0.cons
  obtain ⟨q, e0, rfl, he⟩ := g1.ref
  obtain ⟨vs, rfl, hlen, hfs⟩ := j_at hs.1 he hc
  obtain ⟨C', T, N, ty, hcl, hy, hlink, hty, htc, hfin⟩ := hl
  obtain ⟨gf, hn, hft⟩ := hv ws v' ty gv htc
  obtain ⟨ty0, ht0, hnm⟩ := cls_ty hcl
  have hy2 : y < fs.length := (List.getElem?_eq_some_iff.mp hf).1
  have kk : ∀ (H1 : Heap) (locs1 : List Loc), va_P G vwCl (ws.set a (q, .inr (x, vs.set y v'))) H1 → va_D A (ws.set a (q, .inr (x, vs.set y v'))) → va_S A s.heap H1 locs1 → W p l e R s m args below meth c H1 locs1 kc ks Q (F0 m (pc + 3) ls st1) := fun H1 locs1 hP hD hS => by
    have hsub : sub_ ws (ws.set a (q, .inr (x, vs.set y v'))) := sub_.set he
    exact k _ ls st1 H1 locs1 ⟨hs.1.set he hc (fun c' k' h => hm c' k' (fun h2 => h h2.1)) (fun c' k' h => hw c' k' (fun h2 => h h2.1)) (jC_put hlen hfs hf gf (fun k' h => hm a k' (fun h2 => h h2.2)) (fun k' h => hw a k' (fun h2 => h h2.2))), hs.2.1.mono hsub, g2.mono hsub, hP, hD, hS, hs.2.2.2.2.2.2.tr hsub⟩
  rcases hfin with hfin | ⟨hfin, hinit, hdecl⟩
  · exact va_put (D := G) (C := C') (T := T) (N := N) C.1 C.2.1 C.2.2.2.2.1 (cls_in hcl) ty0 ht0 hnm C.2.2.2.1 C.2.2.2.2.2.1.1 hs.2.2.2.1 hs.2.2.2.2.1 hs.2.2.2.2.2.1 a he hcl y hy (C.2.2.2.2.1 _ hlink) (fun _ h9 => h9) hfin hty hn hft (by omega) hd kk
  · exact va_putF (D := G) (C := C') (T := T) (N := N) C.1 C.2.1 C.2.2.2.2.1 (cls_in hcl) ty0 ht0 hnm C.2.2.2.1 C.2.2.2.2.2.1.1 hs.2.2.2.1 hs.2.2.2.2.1 hs.2.2.2.2.2.1 a he hcl y hy (C.2.2.2.2.1 _ hlink) (fun _ h9 => h9) hfin (by rw [C.2.2.2.2.2.2.2.1]; exact hinit) hdecl hty hn hft (by omega) hd kk
theorem k_iald (C : Cx p c m s args meth G cy A own nm cc nL) {pc a n kd : Nat} {z : Int} {L : JL} {S : List JV} {M : JM} (hc : sh[a]? = some (.inr (.inl (kd, n)))) (hd : (kd = 1 ∧ decode cc pc = .ok (.iaload, 1)) ∨ ((kd = 0 ∨ kd = 3) ∧ decode cc pc = .ok (.baload, 1))) (h0 : 0 ≤ z) (hn : z < n)
    (k : Jk p l e R s m args below meth c Q sh G cy bb ws0 A nL kc ks (pc + 1) L (.inl (M.1 a z.toNat) :: S) M) : Jk p l e R s m args below meth c Q sh G cy bb ws0 A nL kc ks pc L (.inl z :: .inr (.inr (.inl a)) :: S) M := by
  intro ws ls st H locs hs
  obtain ⟨v1, st0, rfl, g0, g00⟩ := hs.2.2.1.cons
  obtain ⟨x, rfl, hx⟩ := g0.int
  obtain ⟨w, st1, rfl, g1, g2⟩ := g00.cons
  obtain ⟨q, e0, rfl, he⟩ := g1.ref
  obtain ⟨hin, hix⟩ := i32_idx hx h0 hn
  rcases j_at hs.1 he hc with ⟨_, f, rfl, hff⟩ | ⟨h1, _⟩
  · have kk : W p l e R s m args below meth c H locs kc ks Q (F0 m (pc + 1) ls (.int (f x.toNatClampNeg) :: st1)) := by
      rw [hix]
      exact k ws ls _ H locs ⟨hs.1, hs.2.1, ⟨hff _ (by omega), g2⟩, hs.2.2.2⟩
    rcases hd with ⟨rfl, hd⟩ | ⟨rfl | rfl, hd⟩
    · exact va_iald (D := G) C.1 C.2.1 C.2.2.2.2.2.1.1 hs.2.2.2.1 a 1 he rfl hin hd kk
    · exact va_bald (D := G) C.1 C.2.1 C.2.2.2.2.2.1.1 hs.2.2.2.1 a 0 he rfl hin hd kk
    · exact va_zald (D := G) C.1 C.2.1 C.2.2.2.2.2.1.1 hs.2.2.2.1 a 3 he rfl hin hd kk
  · omega
theorem k_lald (C : Cx p c m s args meth G cy A own nm cc nL) {pc a n : Nat} {z : Int} {L : JL} {S : List JV} {M : JM} (hc : sh[a]? = some (.inr (.inl (2, n)))) (hd : decode cc pc = .ok (.laload, 1)) (h0 : 0 ≤ z) (hn : z < n)
    (k : Jk p l e R s m args below meth c Q sh G cy bb ws0 A nL kc ks (pc + 1) L (.inr (.inl (M.2 a z.toNat)) :: S) M) : Jk p l e R s m args below meth c Q sh G cy bb ws0 A nL kc ks pc L (.inl z :: .inr (.inr (.inl a)) :: S) M := by
  intro ws ls st H locs hs
  obtain ⟨v1, st0, rfl, g0, g00⟩ := hs.2.2.1.cons
  obtain ⟨x, rfl, hx⟩ := g0.int
  obtain ⟨w, st1, rfl, g1, g2⟩ := g00.cons
  obtain ⟨q, e0, rfl, he⟩ := g1.ref
  obtain ⟨hin, hix⟩ := i32_idx hx h0 hn
  rcases j_at hs.1 he hc with ⟨h1, _⟩ | ⟨_, f, rfl, hff⟩
  · omega
  · refine va_lald (D := G) C.1 C.2.1 C.2.2.2.2.2.1.1 hs.2.2.2.1 a 2 he rfl hin hd ?_
    rw [hix]
    exact k ws ls _ H locs ⟨hs.1, hs.2.1, ⟨hff _ (by omega), g2⟩, hs.2.2.2⟩
theorem k_aald (C : Cx p c m s args meth G cy A own nm cc nL) {pc a j kd : Nat} {z : Int} {cs : List Nat} {L : JL} {S : List JV} {M : JM} (hc : sh[a]? = some (.inr (.inr (kd, cs)))) (hd : decode cc pc = .ok (.aaload, 1)) (h0 : 0 ≤ z) (hk : cs[z.toNat]? = some j)
    (k : Jk p l e R s m args below meth c Q sh G cy bb ws0 A nL kc ks (pc + 1) L (.inr (.inr (.inl j)) :: S) M) : Jk p l e R s m args below meth c Q sh G cy bb ws0 A nL kc ks pc L (.inl z :: .inr (.inr (.inl a)) :: S) M := by
  intro ws ls st H locs hs
  obtain ⟨v1, st0, rfl, g0, g00⟩ := hs.2.2.1.cons
  obtain ⟨x, rfl, hx⟩ := g0.int
  obtain ⟨w, st1, rfl, g1, g2⟩ := g00.cons
  obtain ⟨q, e0, rfl, he⟩ := g1.ref
  have hlt : z.toNat < cs.length := (List.getElem?_eq_some_iff.mp hk).1
  obtain ⟨hin, hix⟩ := i32_idx (n := cs.length) hx h0 (by omega)
  obtain ⟨hkd, f, rfl, hff⟩ := j_at hs.1 he hc
  obtain ⟨q2, e2, hq2, he2⟩ := hff _ _ hk
  have kk : W p l e R s m args below meth c H locs kc ks Q (F0 m (pc + 1) ls (va_rf (f x.toNatClampNeg) :: st1)) := by
    rw [hix, hq2]
    exact k ws ls _ H locs ⟨hs.1, hs.2.1, ⟨⟨e2, he2⟩, g2⟩, hs.2.2.2⟩
  rcases hkd with rfl | rfl
  · exact va_aldq (D := G) C.1 C.2.1 C.2.2.2.2.2.1.1 hs.2.2.2.1 a 4 he rfl hin hd kk
  · exact va_aldq (D := G) C.1 C.2.1 C.2.2.2.2.2.1.1 hs.2.2.2.1 a 5 he rfl hin hd kk
theorem k_iast (C : Cx p c m s args meth G cy A own nm cc nL) {pc a n kd : Nat} {z v : Int} {L : JL} {S : List JV} {M : JM} (hc : sh[a]? = some (.inr (.inl (kd, n)))) (hd : (kd = 1 ∧ decode cc pc = .ok (.iastore, 1)) ∨ (((kd = 0 ∧ -128 ≤ v ∧ v ≤ 127) ∨ (kd = 3 ∧ 0 ≤ v ∧ v ≤ 1)) ∧ decode cc pc = .ok (.bastore, 1))) (h0 : 0 ≤ z) (hn : z < n)
    (k : Jk p l e R s m args below meth c Q sh G cy bb ws0 A nL kc ks (pc + 1) L S ⟨jup M.1 a z.toNat v, M.2⟩) : Jk p l e R s m args below meth c Q sh G cy bb ws0 A nL kc ks pc L (.inl v :: .inl z :: .inr (.inr (.inl a)) :: S) M := by
  intro ws ls st H locs hs
  obtain ⟨vv, st00, rfl, gv, g000⟩ := hs.2.2.1.cons
  obtain ⟨y, rfl, hy⟩ := gv.int
  obtain ⟨v1, st0, rfl, g0, g00⟩ := g000.cons
  obtain ⟨x, rfl, hx⟩ := g0.int
  obtain ⟨w, st1, rfl, g1, g2⟩ := g00.cons
  obtain ⟨q, e0, rfl, he⟩ := g1.ref
  obtain ⟨hin, hix⟩ := i32_idx hx h0 hn
  rcases j_at hs.1 he hc with ⟨hk3, f, rfl, hff⟩ | ⟨h1, _⟩
  · have hgc : jC cy ws ⟨jup M.1 a z.toNat v, M.2⟩ a (.inr (.inl (kd, n))) (.inl (cy kd, (n, .inl (upd f z.toNat y)))) := by
      refine Or.inl ⟨hk3, _, rfl, fun i hi => ?_⟩
      show (if i = z.toNat then y else f i).toInt = (if a = a then (if i = z.toNat then v else M.1 a i) else M.1 a i)
      rw [if_pos rfl]
      by_cases hiz : i = z.toNat
      · rw [if_pos hiz, if_pos hiz]; exact hy
      · rw [if_neg hiz, if_neg hiz]; exact hff i hi
    have kk : ∀ (H1 : Heap) (locs1 : List Loc), va_P G vwCl (ws.set a (q, .inl (cy kd, (n, .inl (upd f z.toNat y))))) H1 → va_D A (ws.set a (q, .inl (cy kd, (n, .inl (upd f z.toNat y))))) → va_S A s.heap H1 locs1 → W p l e R s m args below meth c H1 locs1 kc ks Q (F0 m (pc + 1) ls st1) := fun H1 locs1 hP hD hS => by
      have hsub : sub_ ws (ws.set a (q, .inl (cy kd, (n, .inl (upd f z.toNat y))))) := sub_.set he
      exact k _ ls st1 H1 locs1 ⟨hs.1.set he hc (fun c' k' h => jup_cell _ _ _ _ h) (fun c' k' h => rfl) hgc, hs.2.1.mono hsub, g2.mono hsub, hP, hD, hS, hs.2.2.2.2.2.2.tr hsub⟩
    rcases hd with ⟨rfl, hd⟩ | ⟨⟨rfl, y1, y2⟩ | ⟨rfl, y1, y2⟩, hd⟩
    · refine va_iast (D := G) C.1 C.2.1 C.2.2.2.2.2.1.1 hs.2.2.2.1 hs.2.2.2.2.1 hs.2.2.2.2.2.1 a 1 he rfl hin hd (fun H1 locs1 hP hD hS => ?_)
      rw [hix] at hP hD
      exact kk H1 locs1 hP hD hS
    · refine va_bast (D := G) C.1 C.2.1 C.2.2.2.2.2.1.1 hs.2.2.2.1 hs.2.2.2.2.1 hs.2.2.2.2.2.1 a 0 he rfl hin hd (fun H1 locs1 hP hD hS => ?_)
      rw [hix, nar_b (by omega) (by omega)] at hP hD
      exact kk H1 locs1 hP hD hS
    · refine va_zast (D := G) C.1 C.2.1 C.2.2.2.2.2.1.1 hs.2.2.2.1 hs.2.2.2.2.1 hs.2.2.2.2.2.1 a 3 he rfl hin hd (fun H1 locs1 hP hD hS => ?_)
      rw [hix, nar_z (by omega) (by omega)] at hP hD
      exact kk H1 locs1 hP hD hS
  · omega
theorem k_last (C : Cx p c m s args meth G cy A own nm cc nL) {pc a n : Nat} {z : Int} {v : Int64} {L : JL} {S : List JV} {M : JM} (hc : sh[a]? = some (.inr (.inl (2, n)))) (hd : decode cc pc = .ok (.lastore, 1)) (h0 : 0 ≤ z) (hn : z < n)
    (k : Jk p l e R s m args below meth c Q sh G cy bb ws0 A nL kc ks (pc + 1) L S ⟨M.1, jup M.2 a z.toNat v⟩) : Jk p l e R s m args below meth c Q sh G cy bb ws0 A nL kc ks pc L (.inr (.inl v) :: .inl z :: .inr (.inr (.inl a)) :: S) M := by
  intro ws ls st H locs hs
  obtain ⟨vv, st00, rfl, gv, g000⟩ := hs.2.2.1.cons
  obtain rfl := gv.long
  obtain ⟨v1, st0, rfl, g0, g00⟩ := g000.cons
  obtain ⟨x, rfl, hx⟩ := g0.int
  obtain ⟨w, st1, rfl, g1, g2⟩ := g00.cons
  obtain ⟨q, e0, rfl, he⟩ := g1.ref
  obtain ⟨hin, hix⟩ := i32_idx hx h0 hn
  rcases j_at hs.1 he hc with ⟨h1, _⟩ | ⟨_, f, rfl, hff⟩
  · omega
  · have hgc : jC cy ws ⟨M.1, jup M.2 a z.toNat v⟩ a (.inr (.inl (2, n))) (.inl (cy 2, (n, .inr (.inl (vp_updL f z.toNat v))))) := by
      refine Or.inr ⟨rfl, _, rfl, fun i hi => ?_⟩
      show (if i = z.toNat then v else f i) = (if a = a then (if i = z.toNat then v else M.2 a i) else M.2 a i)
      rw [if_pos rfl]
      by_cases hiz : i = z.toNat
      · rw [if_pos hiz, if_pos hiz]
      · rw [if_neg hiz, if_neg hiz]; exact hff i hi
    refine va_last (D := G) C.1 C.2.1 C.2.2.2.2.2.1.1 hs.2.2.2.1 hs.2.2.2.2.1 hs.2.2.2.2.2.1 a 2 he rfl hin hd (fun H1 locs1 hP hD hS => ?_)
    rw [hix] at hP hD
    have hsub : sub_ ws (ws.set a (q, .inl (cy 2, (n, .inr (.inl (vp_updL f z.toNat v)))))) := sub_.set he
    exact k _ ls st1 H1 locs1 ⟨hs.1.set he hc (fun c' k' h => rfl) (fun c' k' h => jup_cell _ _ _ _ h) hgc, hs.2.1.mono hsub, g2.mono hsub, hP, hD, hS, hs.2.2.2.2.2.2.tr hsub⟩
theorem k_alen (C : Cx p c m s args meth G cy A own nm cc nL) {pc a kd n : Nat} {L : JL} {S : List JV} {M : JM} (hc : sh[a]? = some (.inr (.inl (kd, n)))) (hd : decode cc pc = .ok (.arraylength, 1)) (hn : n < 2147483648)
    (k : Jk p l e R s m args below meth c Q sh G cy bb ws0 A nL kc ks (pc + 1) L (.inl (n : Int) :: S) M) : Jk p l e R s m args below meth c Q sh G cy bb ws0 A nL kc ks pc L (.inr (.inr (.inl a)) :: S) M := by
  intro ws ls st H locs hs
  obtain ⟨w, st1, rfl, g1, g2⟩ := hs.2.2.1.cons
  obtain ⟨q, e0, rfl, he⟩ := g1.ref
  have e1 : (Int32.ofNat n).toInt = (n : Int) := Int32.toInt_ofNat_of_lt (by simpa using hn)
  have kk : W p l e R s m args below meth c H locs kc ks Q (F0 m (pc + 1) ls (.int (Int32.ofNat n) :: st1)) := k ws ls _ H locs ⟨hs.1, hs.2.1, ⟨e1, g2⟩, hs.2.2.2⟩
  rcases j_at hs.1 he hc with ⟨rfl | rfl | rfl, f, rfl, _⟩ | ⟨rfl, f, rfl, _⟩
  · exact va_alen (D := G) C.1 C.2.1 C.2.2.2.2.2.1.1 hs.2.2.2.1 a 0 he rfl (v := Int32.ofNat n) rfl hd kk
  · exact va_alen (D := G) C.1 C.2.1 C.2.2.2.2.2.1.1 hs.2.2.2.1 a 1 he rfl (v := Int32.ofNat n) rfl hd kk
  · exact va_alen (D := G) C.1 C.2.1 C.2.2.2.2.2.1.1 hs.2.2.2.1 a 3 he rfl (v := Int32.ofNat n) rfl hd kk
  · exact va_alen (D := G) C.1 C.2.1 C.2.2.2.2.2.1.1 hs.2.2.2.1 a 2 he rfl (v := Int32.ofNat n) rfl hd kk
end JH
