/-! The walk: what is stored in arrays, what the JDK's own members do, calls. -/
section CALLS
variable {p : Program} {l : Launch} {e : Env} {R : Room} {s : State} {m : MethodId} {args : Array Value} {below : List Frame} {meth : Method} {c : Code} {Q : State → Prop}
variable {G : va_G} {cy : Nat → ClassId} {b : BB} {A : Nat → Prop} {own nm : String} {cc : ByteArray} {nL c0 s0 : Nat}
theorem gA_i {ws : va_W} {kd n j : Nat} {ch : List (List AV)} {f : Nat → Int32} {v : AV} {x : Int32} (hk : kd = 0 ∨ kd = 1 ∨ kd = 3) (hf : ∀ i a, i < n → pg ch i = some a → gV b.1 ws a (.int (f i))) (hv : gV b.1 ws v (.int x)) : gA b.1 ws kd n (ps ch j v) (n, .inl (upd f j x)) := by
  refine ⟨rfl, Or.inl ⟨hk, _, rfl, fun i a hi ha => ?_⟩⟩
  rw [pg_ps] at ha
  show gV b.1 ws a (.int (if i = j then x else f i))
  by_cases hij : i = j
  · rw [if_pos hij] at ha ⊢
    cases hp : pg ch j with
    | none => rw [hp] at ha; cases ha
    | some w => rw [hp] at ha; obtain rfl := Option.some.inj ha; exact hv
  · rw [if_neg hij] at ha ⊢
    exact hf i a hi ha
theorem gA_l {ws : va_W} {n j : Nat} {ch : List (List AV)} {f : Nat → Int64} {v : AV} {x : Int64} (hf : ∀ i a, i < n → pg ch i = some a → gV b.1 ws a (.long (f i))) (hv : gV b.1 ws v (.long x)) : gA b.1 ws 2 n (ps ch j v) (n, .inr (.inl (vp_updL f j x))) := by
  refine ⟨rfl, Or.inr (Or.inl ⟨rfl, _, rfl, fun i a hi ha => ?_⟩)⟩
  rw [pg_ps] at ha
  show gV b.1 ws a (.long (if i = j then x else f i))
  by_cases hij : i = j
  · rw [if_pos hij] at ha ⊢
    cases hp : pg ch j with
    | none => rw [hp] at ha; cases ha
    | some w => rw [hp] at ha; obtain rfl := Option.some.inj ha; exact hv
  · rw [if_neg hij] at ha ⊢
    exact hf i a hi ha
theorem gA_q {ws : va_W} {kd n j q : Nat} {ch : List (List AV)} {f : Nat → Option Nat} {v : AV} (hk : kd = 4 ∨ kd = 5) (hf : ∀ i a, i < n → pg ch i = some a → gV b.1 ws a (va_rf (f i))) (hv : gV b.1 ws v (.ref q)) : gA b.1 ws kd n (ps ch j v) (n, .inr (.inr (.inr (.inr (va_up f j (some q)))))) := by
  refine ⟨rfl, Or.inr (Or.inr ⟨hk, _, rfl, fun i a hi ha => ?_⟩)⟩
  rw [pg_ps] at ha
  by_cases hij : i = j
  · rw [if_pos hij] at ha
    subst hij
    rw [va_up_self]
    cases hp : pg ch i with
    | none => rw [hp] at ha; cases ha
    | some w => rw [hp] at ha; obtain rfl := Option.some.inj ha; exact hv
  · rw [if_neg hij] at ha
    rw [va_up_ne _ _ hij]
    exact hf i a hi ha
theorem s_iast (C : Cx p c m s args meth G cy A own nm cc nL) {pc a n j : Nat} {L : LO} {S : List AV} {h : AH} {ch : List (List AV)} {v : AV} (hd : decode cc pc = .ok (.iastore, 1)) (hok : okI 1 v = true) (hg : hget h a = some (.inr (1, (n, ch)))) (hj : j < n)
    (k : Wk p l e R s m args below meth c Q G cy b A nL c0 s0 (pc + 1) L S (hset h a (.inr (1, (n, ps ch j v))))) : Wk p l e R s m args below meth c Q G cy b A nL c0 s0 pc L (v :: .inl ((j : Int), (j : Int)) :: .inr (.inr (.inl a)) :: S) h := by
  intro ws ls st H locs hs
  obtain ⟨vv, st00, rfl, gv, g000⟩ := hs.2.2.1.cons
  obtain ⟨v1, st0, rfl, g0, g00⟩ := g000.cons
  obtain ⟨x, rfl, hx⟩ := g0.int
  obtain ⟨w, st1, rfl, g1, g2⟩ := g00.cons
  obtain ⟨q, e0, rfl, he⟩ := g1.ref
  obtain ⟨pp, he', hA⟩ := at_arr hs.1 he hg
  rcases v with va | vc | vi | vk <;> try (simp [okI] at hok; done)
  obtain ⟨y, rfl, hy⟩ := gv.int
  obtain ⟨_, ⟨_, f, hf, hff⟩ | ⟨h1, _⟩ | ⟨h1, _⟩⟩ := hA
  · have hf : pp = .inl f := hf
    subst hf
    refine va_iast (D := G) C.1 C.2.1 C.2.2.2.2.2.1.1 hs.2.2.2.1 hs.2.2.2.2.1 hs.2.2.2.2.2 a 1 he' rfl (vin_ok hx hj) hd (fun H1 locs1 hP hD hS => ?_)
    rw [(i32_nat hx).2] at hP hD
    have hsub : sub_ ws (ws.set a (q, .inl (cy 1, (n, .inl (upd f j y))))) := sub_.set he'
    have hgc : gC cy b.1 ws (.inr (1, (n, ps ch j (.inl va)))) (.inl (cy 1, (n, .inl (upd f j y)))) := ⟨rfl, gA_i (Or.inr (Or.inl rfl)) hff hy⟩
    exact k _ ls st1 H1 locs1 ⟨hs.1.set he' hgc, hs.2.1.mono hsub, g2.mono hsub, hP, hD, hS⟩
  · omega
  · omega
theorem nar_b {x : Int32} (h1 : -128 ≤ x.toInt) (h2 : x.toInt ≤ 127) : vp_nar .byte x = x := i2b_id h1 h2
theorem nar_z {x : Int32} (h1 : 0 ≤ x.toInt) (h2 : x.toInt ≤ 1) : vp_nar .boolean x = x := by
  rcases bool_ok h1 h2 with rfl | rfl <;> rfl
theorem s_bast (C : Cx p c m s args meth G cy A own nm cc nL) {pc a n j kd : Nat} {L : LO} {S : List AV} {h : AH} {ch : List (List AV)} {v : AV} (hd : decode cc pc = .ok (.bastore, 1)) (hok : okB kd v = true) (hg : hget h a = some (.inr (kd, (n, ch)))) (hj : j < n)
    (k : Wk p l e R s m args below meth c Q G cy b A nL c0 s0 (pc + 1) L S (hset h a (.inr (kd, (n, ps ch j v))))) : Wk p l e R s m args below meth c Q G cy b A nL c0 s0 pc L (v :: .inl ((j : Int), (j : Int)) :: .inr (.inr (.inl a)) :: S) h := by
  intro ws ls st H locs hs
  obtain ⟨vv, st00, rfl, gv, g000⟩ := hs.2.2.1.cons
  obtain ⟨v1, st0, rfl, g0, g00⟩ := g000.cons
  obtain ⟨x, rfl, hx⟩ := g0.int
  obtain ⟨w, st1, rfl, g1, g2⟩ := g00.cons
  obtain ⟨q, e0, rfl, he⟩ := g1.ref
  obtain ⟨pp, he', hA⟩ := at_arr hs.1 he hg
  rcases v with va | vc | vi | vk <;> try (simp [okB] at hok; done)
  obtain ⟨y, rfl, hy⟩ := gv.int
  have hkd : (kd = 0 ∧ -128 ≤ y.toInt ∧ y.toInt ≤ 127) ∨ (kd = 3 ∧ 0 ≤ y.toInt ∧ y.toInt ≤ 1) := by
    unfold okB at hok
    cases e1 : Nat.beq kd 0 with
    | true =>
      simp [e1] at hok
      exact Or.inl ⟨Nat.eq_of_beq_eq_true e1, by omega, by omega⟩
    | false =>
      cases e2 : Nat.beq kd 3 with
      | true =>
        simp [e1, e2] at hok
        exact Or.inr ⟨Nat.eq_of_beq_eq_true e2, by omega, by omega⟩
      | false => simp [e1, e2] at hok
  obtain ⟨_, ⟨_, f, hf, hff⟩ | ⟨h1, _⟩ | ⟨h1, _⟩⟩ := hA
  · have hf : pp = .inl f := hf
    subst hf
    have hsub : sub_ ws (ws.set a (q, .inl (cy kd, (n, .inl (upd f j y))))) := sub_.set he'
    have hgc : gC cy b.1 ws (.inr (kd, (n, ps ch j (.inl va)))) (.inl (cy kd, (n, .inl (upd f j y)))) := ⟨rfl, gA_i (by omega) hff hy⟩
    rcases hkd with ⟨rfl, y1, y2⟩ | ⟨rfl, y1, y2⟩
    · refine va_bast (D := G) C.1 C.2.1 C.2.2.2.2.2.1.1 hs.2.2.2.1 hs.2.2.2.2.1 hs.2.2.2.2.2 a 0 he' rfl (vin_ok hx hj) hd (fun H1 locs1 hP hD hS => ?_)
      rw [(i32_nat hx).2, nar_b y1 y2] at hP hD
      exact k _ ls st1 H1 locs1 ⟨hs.1.set he' hgc, hs.2.1.mono hsub, g2.mono hsub, hP, hD, hS⟩
    · refine va_zast (D := G) C.1 C.2.1 C.2.2.2.2.2.1.1 hs.2.2.2.1 hs.2.2.2.2.1 hs.2.2.2.2.2 a 3 he' rfl (vin_ok hx hj) hd (fun H1 locs1 hP hD hS => ?_)
      rw [(i32_nat hx).2, nar_z y1 y2] at hP hD
      exact k _ ls st1 H1 locs1 ⟨hs.1.set he' hgc, hs.2.1.mono hsub, g2.mono hsub, hP, hD, hS⟩
  · omega
  · omega
theorem s_last (C : Cx p c m s args meth G cy A own nm cc nL) {pc a n j : Nat} {L : LO} {S : List AV} {h : AH} {ch : List (List AV)} {v : AV} (hd : decode cc pc = .ok (.lastore, 1)) (hok : okJ 2 v = true) (hg : hget h a = some (.inr (2, (n, ch)))) (hj : j < n)
    (k : Wk p l e R s m args below meth c Q G cy b A nL c0 s0 (pc + 1) L S (hset h a (.inr (2, (n, ps ch j v))))) : Wk p l e R s m args below meth c Q G cy b A nL c0 s0 pc L (v :: .inl ((j : Int), (j : Int)) :: .inr (.inr (.inl a)) :: S) h := by
  intro ws ls st H locs hs
  obtain ⟨vv, st00, rfl, gv, g000⟩ := hs.2.2.1.cons
  obtain ⟨v1, st0, rfl, g0, g00⟩ := g000.cons
  obtain ⟨x, rfl, hx⟩ := g0.int
  obtain ⟨w, st1, rfl, g1, g2⟩ := g00.cons
  obtain ⟨q, e0, rfl, he⟩ := g1.ref
  obtain ⟨pp, he', hA⟩ := at_arr hs.1 he hg
  rcases v with va | vc | vi | vk <;> try (simp [okJ] at hok; done)
  obtain ⟨y, rfl⟩ := gv.long
  obtain ⟨_, ⟨h1, _⟩ | ⟨_, f, hf, hff⟩ | ⟨h1, _⟩⟩ := hA
  · omega
  · have hf : pp = .inr (.inl f) := hf
    subst hf
    refine va_last (D := G) C.1 C.2.1 C.2.2.2.2.2.1.1 hs.2.2.2.1 hs.2.2.2.2.1 hs.2.2.2.2.2 a 2 he' rfl (vin_ok hx hj) hd (fun H1 locs1 hP hD hS => ?_)
    rw [(i32_nat hx).2] at hP hD
    have hsub : sub_ ws (ws.set a (q, .inl (cy 2, (n, .inr (.inl (vp_updL f j y)))))) := sub_.set he'
    have hgc : gC cy b.1 ws (.inr (2, (n, ps ch j (.inr (.inl vc))))) (.inl (cy 2, (n, .inr (.inl (vp_updL f j y))))) := ⟨rfl, gA_l hff gv⟩
    exact k _ ls st1 H1 locs1 ⟨hs.1.set he' hgc, hs.2.1.mono hsub, g2.mono hsub, hP, hD, hS⟩
  · omega
theorem isO_ok {h : AH} {ci : Nat} {v : AV} (ho : isO h ci v = true) : ∃ i fs, v = .inr (.inr (.inl i)) ∧ hget h i = some (.inl (ci, fs)) := by
  unfold isO at ho
  split at ho
  · rename_i i
    split at ho
    · rename_i c fs hc
      obtain rfl := Nat.eq_of_beq_eq_true ho
      exact ⟨i, _, rfl, hc⟩
    · cases ho
  · cases ho
theorem s_aast (C : Cx p c m s args meth G cy A own nm cc nL) {pc a n j kd : Nat} {L : LO} {S : List AV} {h : AH} {ch : List (List AV)} {v : AV} (hd : decode cc pc = .ok (.aastore, 1)) (hok : okA h kd v = true) (hg : hget h a = some (.inr (kd, (n, ch)))) (hj : j < n)
    (k : Wk p l e R s m args below meth c Q G cy b A nL c0 s0 (pc + 1) L S (hset h a (.inr (kd, (n, ps ch j v))))) : Wk p l e R s m args below meth c Q G cy b A nL c0 s0 pc L (v :: .inl ((j : Int), (j : Int)) :: .inr (.inr (.inl a)) :: S) h := by
  intro ws ls st H locs hs
  obtain ⟨vv, st00, rfl, gv, g000⟩ := hs.2.2.1.cons
  obtain ⟨v1, st0, rfl, g0, g00⟩ := g000.cons
  obtain ⟨x, rfl, hx⟩ := g0.int
  obtain ⟨w, st1, rfl, g1, g2⟩ := g00.cons
  obtain ⟨q, e0, rfl, he⟩ := g1.ref
  obtain ⟨pp, he', hA⟩ := at_arr hs.1 he hg
  have hkd : (kd = 4 ∧ isO h 2 v = true) ∨ (kd = 5 ∧ isO h 8 v = true) := by
    unfold okA at hok
    cases e1 : Nat.beq kd 4 with
    | true => simp only [e1, cond_true] at hok; exact Or.inl ⟨Nat.eq_of_beq_eq_true e1, hok⟩
    | false =>
      cases e2 : Nat.beq kd 5 with
      | true => simp only [e1, e2, cond_true, cond_false] at hok; exact Or.inr ⟨Nat.eq_of_beq_eq_true e2, hok⟩
      | false => simp [e1, e2] at hok
  obtain ⟨_, ⟨h1, _⟩ | ⟨h1, _⟩ | ⟨_, f, hf, hff⟩⟩ := hA
  · omega
  · omega
  · have hf : pp = .inr (.inr (.inr (.inr f))) := hf
    subst hf
    have main : ∀ (ci : Nat) (r : vw_C), isO h ci v = true → vwCl[ci]? = some r → (TY cy)[kd]? = some (cy kd, .object r.1) → W p l e R s m args below meth c H locs (h.1 + 1 - c0) (h.2.1 - s0) Q (F0 m pc ls (vv :: .int x :: .ref q :: st1)) := by
      intro ci r ho hcl hty
      obtain ⟨i, fs, rfl, hi⟩ := isO_ok ho
      obtain ⟨q2, e2, rfl, he2⟩ := gv.ref
      obtain ⟨vs, he2', _⟩ := at_obj hs.1 he2 hi
      refine va_astq (D := G) C.1 C.2.1 C.2.2.2.2.2.1.1 hs.2.2.2.1 hs.2.2.2.2.1 hs.2.2.2.2.2 a kd i ci (r := r) he' hty he2' hcl (vin_ok hx hj) hd (fun H1 locs1 hP hD hS => ?_)
      rw [(i32_nat hx).2] at hP hD
      have hsub : sub_ ws (ws.set a (q, .inl (cy kd, (n, .inr (.inr (.inr (.inr (va_up f j (some q2))))))))) := sub_.set he'
      have hgc : gC cy b.1 ws (.inr (kd, (n, ps ch j (.inr (.inr (.inl i)))))) (.inl (cy kd, (n, .inr (.inr (.inr (.inr (va_up f j (some q2)))))))) := ⟨rfl, gA_q (by omega) hff gv⟩
      exact k _ ls st1 H1 locs1 ⟨hs.1.set he' hgc, hs.2.1.mono hsub, g2.mono hsub, hP, hD, hS⟩
    rcases hkd with ⟨rfl, ho⟩ | ⟨rfl, ho⟩
    · exact main 2 _ ho rfl rfl
    · exact main 8 _ ho rfl rfl
theorem pg_cpy {f g : List (List AV)} : ∀ {n i : Nat} {a : AV} {g' : List (List AV)}, cpy f g n = some g' → pg g' i = some a → (i < n ∧ pg f i = some a) ∨ (n ≤ i ∧ pg g i = some a)
  | 0, i, a, g', h0, h => by
    obtain rfl := Option.some.inj h0
    exact Or.inr ⟨Nat.zero_le _, h⟩
  | n + 1, i, a, g', h0, h => by
    unfold cpy at h0
    cases hp : pg f n with
    | none => rw [hp] at h0; cases h0
    | some v =>
      rw [hp] at h0
      cases hq : cpy f g n with
      | none => rw [hq] at h0; cases h0
      | some g2 =>
        rw [hq] at h0
        obtain rfl := Option.some.inj h0
        simp only [pg_ps] at h
        by_cases hin : i = n
        · rw [if_pos hin] at h
          cases hr : pg g2 n with
          | none => rw [hr] at h; cases h
          | some w =>
            rw [hr] at h
            obtain rfl := Option.some.inj h
            exact Or.inl ⟨by omega, by rw [hin]; exact hp⟩
        · rw [if_neg hin] at h
          rcases pg_cpy (n := n) hq h with ⟨h1, h2⟩ | ⟨h1, h2⟩
          · exact Or.inl ⟨by omega, h2⟩
          · exact Or.inr ⟨by omega, h2⟩
theorem s_acp (C : Cx p c m s args meth G cy A own nm cc nL) {pc i d0 s1 k n n1 n2 : Nat} {L : LO} {S : List AV} {h : AH} {f g g' : List (List AV)} (hd : decode cc pc = .ok (.invokestatic i, 3)) (hl : Cond.methodLink own i arraycopyName ∈ gtbl) (hw : Cond.native arraycopyName ∈ gtbl ∧ Cond.static arraycopyName ∈ gtbl ∧ Cond.initialized "java/lang/System" ∈ gtbl) (hk : k = 1 ∨ k = 2) (hs1 : hget h s1 = some (.inr (k, (n1, f)))) (hd0 : hget h d0 = some (.inr (k, (n2, g)))) (hn1 : n ≤ n1) (hn2 : n ≤ n2) (hg' : cpy f g n = some g') (hlen : S.length ≤ 4) (hR : 1 ≤ R.frames ∧ 100 ≤ R.locals)
    (kk : Wk p l e R s m args below meth c Q G cy b A nL c0 s0 (pc + 3) L S (hset h d0 (.inr (k, (n2, g'))))) : Wk p l e R s m args below meth c Q G cy b A nL c0 s0 pc L (.inl ((n : Int), (n : Int)) :: .inl (0, 0) :: .inr (.inr (.inl d0)) :: .inl (0, 0) :: .inr (.inr (.inl s1)) :: S) h := by
  intro ws ls st H locs hs
  obtain ⟨v1, st1, rfl, g1, q1⟩ := hs.2.2.1.cons
  obtain ⟨v2, st2, rfl, g2, q2⟩ := q1.cons
  obtain ⟨v3, st3, rfl, g3, q3⟩ := q2.cons
  obtain ⟨v4, st4, rfl, g4, q4⟩ := q3.cons
  obtain ⟨v5, st5, rfl, g5, q5⟩ := q4.cons
  obtain ⟨xn, rfl, hxn⟩ := g1.int
  obtain ⟨xd, rfl, hxd⟩ := g2.int
  obtain ⟨ad, ed, rfl, hed⟩ := g3.ref
  obtain ⟨xs, rfl, hxs⟩ := g4.int
  obtain ⟨as, es, rfl, hes⟩ := g5.ref
  obtain ⟨pd, hed', hAd⟩ := at_arr hs.1 hed hd0
  obtain ⟨pS, hes', hAs⟩ := at_arr hs.1 hes hs1
  obtain ⟨n3, n4⟩ := i32_nat hxn
  obtain ⟨d3, d4⟩ := i32_nat (i := 0) hxd
  obtain ⟨s3, s4⟩ := i32_nat (i := 0) hxs
  have hml : c.maxLocals = ls.size := by
    obtain ⟨_, lv, h1, _⟩ := hs.2.1
    rw [C.2.2.1, h1.1]
  have hsum := q5.sum
  have hnf : nativeFrameWords "java/lang/System" "arraycopy" 5 ≤ 60 := by decide
  have hlo : (st5.map fun v => v.category).sum + (nativeFrameWords "java/lang/System" "arraycopy" 5 + 11) ≤ R.locals := by omega
  rcases hk with rfl | rfl
  · obtain ⟨_, ⟨_, f1, hf1, hff1⟩ | ⟨h1, _⟩ | ⟨h1, _⟩⟩ := hAs
    · obtain ⟨_, ⟨_, f2, hf2, hff2⟩ | ⟨h1, _⟩ | ⟨h1, _⟩⟩ := hAd
      · have hf1 : pS = .inl f1 := hf1
        have hf2 : pd = .inl f2 := hf2
        subst hf1
        subst hf2
        refine va_copyi (D := G) C.1 C.2.1 hml C.2.2.2.1 (C.2.2.2.2.1 _ hl) (C.2.2.2.2.1 _ hw.1) (C.2.2.2.2.1 _ hw.2.1) (C.2.2.2.2.1 _ hw.2.2) C.2.2.2.2.2.1.1 hs.2.2.2.1 hs.2.2.2.2.1 hs.2.2.2.2.2 s1 d0 1 1 hes' hed' rfl rfl rfl s3 d3 n3 (by rw [s4, n4]; omega) (by rw [d4, n4]; omega) (fun _ _ => rfl) hR.1 hlo hd (fun H1 locs1 hP hD hS => ?_)
        rw [s4, d4, n4] at hP hD
        have hsub : sub_ ws (ws.set d0 (ad, .inl (cy 1, (n2, .inl (va_cpy f1 f2 0 0 n))))) := sub_.set hed'
        have hgc : gC cy b.1 ws (.inr (1, (n2, g'))) (.inl (cy 1, (n2, .inl (va_cpy f1 f2 0 0 n)))) := by
          refine ⟨rfl, rfl, Or.inl ⟨Or.inr (Or.inl rfl), _, rfl, fun j a hj ha => ?_⟩⟩
          rcases pg_cpy hg' ha with ⟨e1, e2⟩ | ⟨e1, e2⟩
          · rw [pk_cpy_in (Nat.zero_le _) (by omega)]
            simpa using hff1 j a (by omega) e2
          · rw [pk_cpy_out (by omega)]
            exact hff2 j a hj e2
        exact kk _ ls st5 H1 locs1 ⟨hs.1.set hed' hgc, hs.2.1.mono hsub, q5.mono hsub, hP, hD, hS⟩
      · omega
      · omega
    · omega
    · omega
  · obtain ⟨_, ⟨h1, _⟩ | ⟨_, f1, hf1, hff1⟩ | ⟨h1, _⟩⟩ := hAs
    · omega
    · obtain ⟨_, ⟨h1, _⟩ | ⟨_, f2, hf2, hff2⟩ | ⟨h1, _⟩⟩ := hAd
      · omega
      · have hf1 : pS = .inr (.inl f1) := hf1
        have hf2 : pd = .inr (.inl f2) := hf2
        subst hf1
        subst hf2
        refine va_copyl (D := G) C.1 C.2.1 hml C.2.2.2.1 (C.2.2.2.2.1 _ hl) (C.2.2.2.2.1 _ hw.1) (C.2.2.2.2.1 _ hw.2.1) (C.2.2.2.2.1 _ hw.2.2) C.2.2.2.2.2.1.1 hs.2.2.2.1 hs.2.2.2.2.1 hs.2.2.2.2.2 s1 d0 2 2 hes' hed' rfl rfl rfl s3 d3 n3 (by rw [s4, n4]; omega) (by rw [d4, n4]; omega) (fun _ _ => rfl) hR.1 hlo hd (fun H1 locs1 hP hD hS => ?_)
        rw [s4, d4, n4] at hP hD
        have hsub : sub_ ws (ws.set d0 (ad, .inl (cy 2, (n2, .inr (.inl (va_cpy f1 f2 0 0 n)))))) := sub_.set hed'
        have hgc : gC cy b.1 ws (.inr (2, (n2, g'))) (.inl (cy 2, (n2, .inr (.inl (va_cpy f1 f2 0 0 n))))) := by
          refine ⟨rfl, rfl, Or.inr (Or.inl ⟨rfl, _, rfl, fun j a hj ha => ?_⟩)⟩
          rcases pg_cpy hg' ha with ⟨e1, e2⟩ | ⟨e1, e2⟩
          · rw [pk_cpy_in (Nat.zero_le _) (by omega)]
            simpa using hff1 j a (by omega) e2
          · rw [pk_cpy_out (by omega)]
            exact hff2 j a hj e2
        exact kk _ ls st5 H1 locs1 ⟨hs.1.set hed' hgc, hs.2.1.mono hsub, q5.mono hsub, hP, hD, hS⟩
      · omega
    · omega
theorem s_min (C : Cx p c m s args meth G cy A own nm cc nL) {pc i : Nat} {L : LO} {S : List AV} {h : AH} {x y : AI} (hd : decode cc pc = .ok (.invokestatic i, 3)) (hl : Cond.methodLink own i Lib.Math.min.name ∈ gtbl) (hw : Cond.static Lib.Math.min.name ∈ gtbl ∧ Cond.initialized "java/lang/Math" ∈ gtbl ∧ Cond.code Lib.Math.min.name Lib.Math.min.code 2 (some .int) ∈ gtbl) (hlen : S.length ≤ 4) (hR : 1 ≤ R.frames ∧ 100 ≤ R.locals) (hRc : h.1 + 1 - c0 ≤ R.cells ∧ h.2.1 - s0 ≤ R.slots)
    (kk : Wk p l e R s m args below meth c Q G cy b A nL c0 s0 (pc + 3) L (.inl (imn x y) :: S) h) : Wk p l e R s m args below meth c Q G cy b A nL c0 s0 pc L (.inl y :: .inl x :: S) h := by
  intro ws ls st H locs hs
  obtain ⟨v1, st1, rfl, g1, q1⟩ := hs.2.2.1.cons
  obtain ⟨v2, st2, rfl, g2, q2⟩ := q1.cons
  obtain ⟨y', rfl, hy⟩ := g1.int
  obtain ⟨x', rfl, hx⟩ := g2.int
  have hml : c.maxLocals = ls.size := by
    obtain ⟨_, lv, h1, _⟩ := hs.2.1
    rw [C.2.2.1, h1.1]
  have hsum := q2.sum
  exact va_mmin C.1 C.2.1 hml C.2.2.2.1 (C.2.2.2.2.1 _ hl) (C.2.2.2.2.1 _ hw.1) (C.2.2.2.2.1 _ hw.2.1) (C.2.2.2.2.1 _ hw.2.2) hR.1 (by omega) hRc.1 hRc.2 hd (kk ws ls _ H locs ⟨hs.1, hs.2.1, ⟨imn_ok hx hy, q2⟩, hs.2.2.2⟩)
theorem s_obj (C : Cx p c m s args meth G cy A own nm cc nL) {pc i a : Nat} {L : LO} {S : List AV} {h : AH} (hd : decode cc pc = .ok (.invokespecial i, 3)) (hl : Cond.methodLink own i objectInit ∈ gtbl) (hw : Cond.instanceMethod objectInit ∈ gtbl ∧ Cond.code objectInit ⟨#[0xb1]⟩ 1 none ∈ gtbl) (hlen : S.length ≤ 4) (hR : 1 ≤ R.frames ∧ 100 ≤ R.locals)
    (kk : Wk p l e R s m args below meth c Q G cy b A nL c0 s0 (pc + 3) L S h) : Wk p l e R s m args below meth c Q G cy b A nL c0 s0 pc L (.inr (.inr (.inl a)) :: S) h := by
  intro ws ls st H locs hs
  obtain ⟨v1, st1, rfl, g1, q1⟩ := hs.2.2.1.cons
  obtain ⟨q, e0, rfl, he⟩ := g1.ref
  have hml : ls.size = c.maxLocals := by
    obtain ⟨_, lv, h1, _⟩ := hs.2.1
    rw [C.2.2.1, h1.1]
  have hsum := q1.sum
  have h0 : (F0 m pc ls (.ref q :: st1)).monitorRoom = 0 := rfl
  exact W.objInit C.1 C.2.1 C.2.2.2.1 (C.2.2.2.2.1 _ hl) (C.2.2.2.2.1 _ hw.1) (C.2.2.2.2.1 _ hw.2) rfl hml rfl hd hR.1 (by rw [h0]; omega) (kk ws ls st1 H locs ⟨hs.1, hs.2.1, q1, hs.2.2.2⟩)
end CALLS
