/-! Each instruction over plain numbers is the machine's own. -/
def jMw : Prop := (Cond.static Lib.Math.min.name ∈ gtbl ∧ Cond.initialized "java/lang/Math" ∈ gtbl ∧ Cond.code Lib.Math.min.name Lib.Math.min.code 2 (some .int) ∈ gtbl) ∧ (Cond.static Lib.Math.max.name ∈ gtbl ∧ Cond.initialized "java/lang/Math" ∈ gtbl ∧ Cond.code Lib.Math.max.name Lib.Math.max.code 2 (some .int) ∈ gtbl) ∧ (Cond.native arraycopyName ∈ gtbl ∧ Cond.static arraycopyName ∈ gtbl ∧ Cond.initialized "java/lang/System" ∈ gtbl)
section JX
variable {p : Program} {l : Launch} {e : Env} {R : Room} {s : State} {m : MethodId} {args : Array Value} {below : List Frame} {meth : Method} {c : Code} {Q : State → Prop}
variable {sh : List JS} {G : va_G} {cy : Nat → ClassId} {bb : Nat → Nat} {ws0 : va_W} {A : Nat → Prop} {own nm : String} {cc : ByteArray} {nL kc ks : Nat}
theorem jr_sound (C : Cx p c m s args meth G cy A own nm cc nL) (hw : jMw) (hT : jTx p l e R s m args below meth c Q sh G cy bb ws0 A nL kc ks own cc) (hR : 1 ≤ R.frames ∧ 100 ≤ R.locals ∧ kc ≤ R.cells ∧ ks ≤ R.slots) {P : Nat → Option MR} {sc : Option (Nat × (Nat → Int))} (hsc : jSc s bb A sc) {ins : Instr} {len x y z pc : Nat} {L : JL} {S : List JV} {M : JM} (hd : decode cc pc = .ok (ins, len)) (hl : jLk P own nm ins x y z) (hj : jwr sh sc ins len x y z pc L S M (Jk p l e R s m args below meth c Q sh G cy bb ws0 A nL kc ks)) : Jk p l e R s m args below meth c Q sh G cy bb ws0 A nL kc ks pc L S M := by
  unfold jwr at hj
  split at hj
  · obtain ⟨rfl, a, ha, k⟩ := hj
    exact k_iinc C hd ha k
  · obtain ⟨rfl, ⟨hz, k⟩ | ⟨hz, hx, hx2, k⟩⟩ := hj
    · obtain ⟨v, h1, h2⟩ := hl.1 hz
      intro ws ls st H locs hs
      exact lv_ldcw C.1 C.2.1 C.2.2.2.1 (C.2.2.2.2.1 _ h1) hd (k ws ls _ H locs ⟨hs.1, hs.2.1, ⟨h2, hs.2.2.1⟩, hs.2.2.2⟩)
    · obtain ⟨h1, h2⟩ := hl.2 hz
      exact hT.2.2 _ _ _ _ _ _ hd h1 hx hx2 h2 k
  · obtain ⟨rfl, k⟩ := hj
    obtain ⟨v, h1, h2⟩ := hl
    intro ws ls st H locs hs
    exact lv_ldc C.1 C.2.1 C.2.2.2.1 (C.2.2.2.2.1 _ h1) hd (k ws ls _ H locs ⟨hs.1, hs.2.1, ⟨h2, hs.2.2.1⟩, hs.2.2.2⟩)
  · obtain ⟨rfl, k⟩ := hj
    intro ws ls st H locs hs
    exact lv_ldc2 C.1 C.2.1 C.2.2.2.1 (C.2.2.2.2.1 _ hl) hd (k ws ls _ H locs ⟨hs.1, hs.2.1, ⟨rfl, hs.2.2.1⟩, hs.2.2.2⟩)
  · obtain ⟨rfl, k⟩ := hj
    intro ws ls st H locs hs
    exact lv_lconst C.1 C.2.1 hd rfl (k ws ls _ H locs ⟨hs.1, hs.2.1, ⟨rfl, hs.2.2.1⟩, hs.2.2.2⟩)
  · obtain ⟨rfl, a, r, rfl, k⟩ := hj
    intro ws ls st H locs hs
    obtain ⟨v1, st1, rfl, g1, g2⟩ := hs.2.2.1.cons
    obtain ⟨y', rfl, hy⟩ := g1.int
    exact lv_i2l C.1 C.2.1 hd rfl (k ws ls _ H locs ⟨hs.1, hs.2.1, ⟨by show _ = _; rw [← hy, Int32.ofInt_toInt], g2⟩, hs.2.2.2⟩)
  · obtain ⟨rfl, a, r, rfl, k⟩ := hj
    intro ws ls st H locs hs
    obtain ⟨v1, st1, rfl, g1, g2⟩ := hs.2.2.1.cons
    obtain rfl := g1.long
    exact lv_l2i C.1 C.2.1 hd rfl (k ws ls _ H locs ⟨hs.1, hs.2.1, ⟨rfl, g2⟩, hs.2.2.2⟩)
  · obtain ⟨rfl, a, b, r, rfl, k⟩ := hj
    intro ws ls st H locs hs
    obtain ⟨v1, st1, rfl, g1, g2⟩ := hs.2.2.1.cons
    obtain ⟨v2, st2, rfl, g3, g4⟩ := g2.cons
    obtain rfl := g1.long
    obtain rfl := g3.long
    exact W.lcmp C.1 C.2.1 hd (k ws ls _ H locs ⟨hs.1, hs.2.1, ⟨rfl, g4⟩, hs.2.2.2⟩)
  · obtain ⟨rfl, a, r, rfl, ha, k⟩ := hj
    intro ws ls st H locs hs
    obtain ⟨v, st1, rfl, g1, g2⟩ := hs.2.2.1.cons
    exact lv_dup C.1 C.2.1 hd (by rw [g1.cat, ha]; rfl) (k ws ls _ H locs ⟨hs.1, hs.2.1, ⟨g1, g1, g2⟩, hs.2.2.2⟩)
  · obtain ⟨rfl, a, b, r, rfl, ha, hb, k⟩ := hj
    intro ws ls st H locs hs
    obtain ⟨v, st1, rfl, g1, g2⟩ := hs.2.2.1.cons
    obtain ⟨v2, st2, rfl, g3, g4⟩ := g2.cons
    exact lv_dup2_11 C.1 C.2.1 hd (by rw [g1.cat, ha]; rfl) (by rw [g3.cat, hb]; rfl) (k ws ls _ H locs ⟨hs.1, hs.2.1, ⟨g1, g3, g1, g3, g4⟩, hs.2.2.2⟩)
  · obtain ⟨rfl, a, r, rfl, ha, k⟩ := hj
    intro ws ls st H locs hs
    obtain ⟨v, st1, rfl, g1, g2⟩ := hs.2.2.1.cons
    exact lv_pop C.1 C.2.1 hd (by rw [g1.cat, ha]; rfl) (k ws ls _ H locs ⟨hs.1, hs.2.1, g2, hs.2.2.2⟩)
  · obtain ⟨rfl, t, ht, k⟩ := hj
    intro ws ls st H locs hs
    exact lv_goto C.1 C.2.1 hd ht (k ws ls _ H locs hs)
  · obtain ⟨rfl, a, b, r, t, rfl, ht, k1, k2⟩ := hj
    rename_i _ cd o
    cases hb : jcm cd a b with
    | true => exact k_icmp C hd ht (Or.inl ⟨hb, rfl⟩) (k1 hb)
    | false => exact k_icmp C hd ht (Or.inr ⟨hb, rfl⟩) (k2 hb)
  · obtain ⟨rfl, a, r, t, rfl, ht, k1, k2⟩ := hj
    rename_i _ cd o
    cases hb : jcm cd a 0 with
    | true => exact k_ifc C hd ht (Or.inl ⟨hb, rfl⟩) (k1 hb)
    | false => exact k_ifc C hd ht (Or.inr ⟨hb, rfl⟩) (k2 hb)
  · obtain ⟨a, r, o, t, rfl, h, ht, k⟩ := hj
    intro ws ls st H locs hs
    obtain ⟨v, st1, rfl, g1, g2⟩ := hs.2.2.1.cons
    obtain ⟨x', rfl, hx⟩ := g1.int
    have kk := k ws ls _ H locs ⟨hs.1, hs.2.1, g2, hs.2.2.2⟩
    rcases h with ⟨h1, h2, h3⟩ | ⟨h1, rfl⟩
    · exact lv_tableIn C.1 C.2.1 hd (by omega) (by omega) (by rw [hx]; exact h3) ht kk
    · exact lv_tableOut C.1 C.2.1 hd (by rw [hx]; exact h1) ht kk
  · obtain ⟨hp, a, r, t, rfl, ht, k⟩ := hj
    intro ws ls st H locs hs
    obtain ⟨v, st1, rfl, g1, g2⟩ := hs.2.2.1.cons
    obtain ⟨x', rfl, hx⟩ := g1.int
    exact lv_lookup C.1 C.2.1 hd hp (by rw [hx]) ht (k ws ls _ H locs ⟨hs.1, hs.2.1, g2, hs.2.2.2⟩)
  · obtain ⟨rfl, c1, r, fs, rfl, hc, ⟨hf | hf, k⟩ | ⟨hf, k⟩ | ⟨k1, hf, k⟩⟩ := hj
    · exact k_get C hd hl hc hf (fun ws v' ⟨x', h1, h2⟩ => by rw [h1]; exact h2) k
    · exact k_get C hd hl hc hf (fun ws v' ⟨x', h1, h2⟩ => by rw [h1]; exact h2) k
    · exact k_get C hd hl hc hf (fun ws v' h => by rw [show v' = _ from h]; rfl) k
    · exact k_get C hd hl hc hf (fun ws v' ⟨q, e', h1, h2⟩ => by rw [h1]; exact ⟨e', h2⟩) k
  · obtain ⟨rfl, c1, r, fs, hc, ⟨a, rfl, hf, k⟩ | ⟨a, rfl, hf, rfl, k⟩⟩ := hj
    · have hm : ∀ (c k : Nat), ¬ (c = c1 ∧ k = y) → jup M.1 c1 y a c k = M.1 c k := fun c k h => by
        by_cases e1 : c = c1
        · exact jup_slot _ _ _ _ (fun e2 => h ⟨e1, e2⟩)
        · exact jup_cell _ _ _ _ e1
      rcases hf with ⟨hf, rfl⟩ | ⟨hf, rfl, h0, h1⟩
      · refine k_put (M' := (jup M.1 c1 y a, M.2)) C hd hl hc hf (fun ws v' ty hv ht => ?_) (fun c k h => hm c k h) (fun _ _ _ => rfl) k
        obtain ⟨x', rfl, hx⟩ := hv.int
        refine ⟨⟨x', rfl, by rw [hx]; exact (jup_at _ _ _ _).symm⟩, ?_⟩
        rcases ht with ⟨_, rfl⟩ | ⟨h, _⟩ | ⟨h, _⟩ | ⟨h, _⟩
        · exact ⟨rfl, rfl⟩
        · cases h
        · cases h
        · cases h
      · refine k_put (M' := (jup M.1 c1 y a, M.2)) C hd hl hc hf (fun ws v' ty hv ht => ?_) (fun c k h => hm c k h) (fun _ _ _ => rfl) k
        obtain ⟨x', rfl, hx⟩ := hv.int
        refine ⟨⟨x', rfl, by rw [hx]; exact (jup_at _ _ _ _).symm⟩, ?_⟩
        rcases ht with ⟨h, _⟩ | ⟨_, rfl⟩ | ⟨h, _⟩ | ⟨h, _⟩
        · cases h
        · rcases bool_ok (x := x') (by omega) (by omega) with rfl | rfl <;> exact ⟨rfl, rfl⟩
        · cases h
        · cases h
    · refine k_put (M' := (M.1, jup M.2 c1 y a)) C hd hl hc hf (fun ws v' ty hv ht => ?_) (fun _ _ _ => rfl) (fun c k h => by
        by_cases e1 : c = c1
        · exact jup_slot _ _ _ _ (fun e2 => h ⟨e1, e2⟩)
        · exact jup_cell _ _ _ _ e1) k
      obtain rfl := hv.long
      refine ⟨by show Value.long a = Value.long (jup M.2 c1 y a c1 y); rw [jup_at], ?_⟩
      rcases ht with ⟨h, _⟩ | ⟨h, _⟩ | ⟨_, rfl⟩ | ⟨h, _⟩
      · cases h
      · cases h
      · exact ⟨rfl, rfl⟩
      · cases h
  · obtain ⟨rfl, a, r, h0, ⟨c1, n, rfl, hc, hn, k⟩ | ⟨n, f, rfl, hc, hn, k⟩⟩ := hj
    · exact k_iald C hc (Or.inl ⟨rfl, hd⟩) h0 hn k
    · intro ws ls st H locs hs
      obtain ⟨v1, st0, rfl, g0, g00⟩ := hs.2.2.1.cons
      obtain ⟨x', rfl, hx⟩ := g0.int
      obtain ⟨w, st1, rfl, g1, g2⟩ := g00.cons
      obtain rfl := g1.bas
      obtain ⟨xs, hX, hbl, hbA, hn2, hin⟩ := hsc _ _ hc
      obtain ⟨hi1, hi2⟩ := i32_idx hx h0 hn
      refine va_sld C.1 C.2.1 hX hbl hbA hs.2.2.2.2.2.1 hi1 hd ?_
      rw [hi2]
      exact k ws ls _ H locs ⟨hs.1, hs.2.1, ⟨hin _ (by omega), g2⟩, hs.2.2.2⟩
  · obtain ⟨rfl, a, r, c1, n, kd, rfl, hc, hk, h0, hn, k⟩ := hj
    exact k_iald C hc (Or.inr ⟨hk, hd⟩) h0 hn k
  · obtain ⟨rfl, a, r, c1, n, rfl, hc, h0, hn, k⟩ := hj
    exact k_lald C hc hd h0 hn k
  · obtain ⟨rfl, a, r, c1, k1, kd, cs, rfl, hc, h0, hk, k⟩ := hj
    exact k_aald C hc hd h0 hk k
  · obtain ⟨rfl, v, a, r, c1, n, rfl, hc, h0, hn, k⟩ := hj
    exact k_iast C hc (Or.inl ⟨rfl, hd⟩) h0 hn k
  · obtain ⟨rfl, v, a, r, c1, n, kd, rfl, hc, hk, h0, hn, k⟩ := hj
    exact k_iast C hc (Or.inr ⟨hk, hd⟩) h0 hn k
  · obtain ⟨rfl, v, a, r, c1, n, rfl, hc, h0, hn, k⟩ := hj
    exact k_last C hc hd h0 hn k
  · obtain ⟨rfl, r, ⟨c1, n, kd, rfl, hc, hn, k⟩ | ⟨n, f, rfl, hc, k⟩⟩ := hj
    · exact k_alen C hc hd hn k
    · intro ws ls st H locs hs
      obtain ⟨w, st1, rfl, g1, g2⟩ := hs.2.2.1.cons
      obtain rfl := g1.bas
      obtain ⟨xs, hX, hbl, hbA, hn2, hin⟩ := hsc _ _ hc
      exact va_slen C.1 C.2.1 hX hbl hbA hs.2.2.2.2.2.1 hd (k ws ls _ H locs ⟨hs.1, hs.2.1, ⟨Int32.toInt_ofNat_of_lt (by simpa using hn2), g2⟩, hs.2.2.2⟩)
  · obtain ⟨rfl, ⟨rfl, a, b, r, rfl, hS, k⟩ | ⟨rfl, a, b, r, rfl, hS, k⟩ | ⟨rfl, n, c1, c2, n1, n2, kd, r, M', rfl, hS, hkd, h1, h2, h0, hn1, hn2, hM1, hM2, k⟩⟩ := hj
    · exact k_min C hd (hl.1 rfl) hw.1 hS hR k
    · exact k_max C hd (hl.2.2.1 rfl) hw.2.1 hS hR k
    · exact k_acp C hd (hl.2.1 rfl) hw.2.2 hkd h1 h2 h0 hn1 hn2 hS ⟨hR.1, hR.2.1⟩ M' hM1 hM2 k
  · obtain ⟨rfl, ⟨rfl, k1, t, r, rfl, hS, hk, ht, k⟩ | ⟨rfl, a, k1, t, r, rfl, hS, hk, ht, h0, hn, k⟩⟩ := hj
    · exact hT.1 _ _ _ _ _ _ _ hd (hl.2.2.2.1 rfl) hS hk ht k
    · exact hT.2.1 _ _ _ _ _ _ _ _ hd (hl.2.2.2.2.1 rfl) hS hk ht h0 hn k
  · exact hj.elim
theorem js_sound (C : Cx p c m s args meth G cy A own nm cc nL) (hw : jMw) (hT : jTx p l e R s m args below meth c Q sh G cy bb ws0 A nL kc ks own cc) (hR : 1 ≤ R.frames ∧ 100 ≤ R.locals ∧ kc ≤ R.cells ∧ ks ≤ R.slots) {P : Nat → Option MR} {sc : Option (Nat × (Nat → Int))} (hsc : jSc s bb A sc) {ins : Instr} {len x y z pc : Nat} {L : JL} {S : List JV} {M : JM} (hd : decode cc pc = .ok (ins, len)) (hl : jLk P own nm ins x y z) (hj : jwp sh sc ins len x y z pc L S M (Jk p l e R s m args below meth c Q sh G cy bb ws0 A nL kc ks)) : Jk p l e R s m args below meth c Q sh G cy bb ws0 A nL kc ks pc L S M := by
  rcases hj with ⟨v, hv, k⟩ | ⟨k1, so, a, hi, ha, hs, k⟩ | ⟨k1, so, a, r, hi, rfl, hs, hk, k⟩ | ⟨rfl, f, a, b, r, hf, rfl, k⟩ | ⟨rfl, f, a, b, r, hf, rfl, hb, k⟩ | ⟨rfl, f, a, b, r, hf, rfl, k⟩ | ⟨rfl, f, a, b, r, hf, rfl, hb, k⟩ | ⟨rfl, f, a, b, r, hf, rfl, k⟩ | ⟨rfl, f, a, r, hf, rfl, k⟩ | hj
  · exact k_push C hd hv k
  · exact k_load C hd hi ha hs k
  · exact k_stor C hd hi hs hk k
  · exact k_iop C hd hf k
  · exact k_idv C hd hf hb k
  · exact k_lop C hd (Or.inl hf) k
  · exact k_lop C hd (Or.inr ⟨hf, hb⟩) k
  · exact k_lsh C hd hf k
  · exact k_un1 C hd hf k
  · exact jr_sound C hw hT hR hsc hd hl hj
end JX
