/-! From the loop's head to the law's end. -/
section LAWJ
variable {p : Program} {l : Launch} {e : Env} {s : State} {m : MethodId} {below : List Frame} {meth : Method} {c : Code} {b : Nat}
variable {G : va_G} {cy : Nat → ClassId}
theorem i32_1 {x : Int32} (h : x.toInt = 1) : x = 1 := Int32.toInt_inj.mp (by rw [h]; rfl)
theorem law_c2 {bb : Nat → Nat} {ws0 : va_W} (C : CxL p c m s b meth G cy) (hr : meth.sig.returnType = ret) (hlocks : meth.locks = false) {kc ks : Nat} (hkc : kc ≤ 601024) (hks : ks ≤ 7293034) : jreC PL 1000 (fun r _ => r = some (.inl 1)) (Jk p l e room_1 s m #[Value.ref b] below meth c (lw_Z below #[Value.ref b] s) shp G cy bb ws0 (fun q : Nat => s.heap.size ≤ q) 7 kc ks) := by
  intro mr pc ins q L S M r h1 h2 h3 h4
  rw [pl_law] at h1
  obtain rfl := Option.some.inj h1
  obtain ⟨hd, -⟩ := jt_L_law meth.name pc ins 1 q.1 q.2.1 q.2.2 h2
  subst h4
  have h3 : jrt (some .boolean) ins S = some (some (.inl 1)) := h3
  intro ws1 ls st H locs hs
  unfold jrt at h3
  split at h3
  · rename_i v
    simp only [Option.ite_none_right_eq_some, Option.some.injEq, Sum.inl.injEq] at h3
    obtain ⟨w, st1, rfl, g1, g2⟩ := hs.2.2.1.cons
    obtain rfl := g2.nil
    obtain ⟨x, rfl, hx⟩ := g1.int
    rw [h3.2] at hx
    obtain rfl := i32_1 hx
    refine va_forget (fun q hq => hs.2.2.2.2.2.1.2.2 q hq) ?_
    refine W.widen (k := 601024) (n := 7293034) hkc hks ?_
    exact lw_ret C.1 C.2.1 hr hlocks hd
  · simp at h3
  · simp at h3
  · cases h3
theorem law_cm (hc : VXC l) (hl : l.stackTraces = false) (hw : jMw) (hTX : jTX l G cy) {bb : Nat → Nat} {ws0 : va_W} (C : CxL p c m s b meth G cy) (hN : NXD s) (hJ : jEX bb (fun q : Nat => s.heap.size ≤ q) s) {kc ks kc2 ks2 : Nat} (hkc : kc + 1 ≤ kc2) (hks : ks + 6 ≤ ks2) (hkc2 : kc2 ≤ 601024) (hks2 : ks2 ≤ 7293034) {X : Int} (hX : 0 ≤ X ∧ X ≤ 100000000) {M : JM} (hH : HI X M) {a0 a1 : Int} (ha0 : (-2147483648) ≤ a0 ∧ a0 ≤ 2147483647) (ha1 : (-2147483648) ≤ a1 ∧ a1 ≤ 2147483647) {L : JL}
    (k : ∀ (v : Int) (M' : JM), 0 ≤ v → v ≤ 1 → HI X M' → (∀ c i, M'.1 c i = M.1 c i) → (∀ c i, c ≠ 198 → M'.2 c i = M.2 c i) → Jk p l e room_1 s m #[Value.ref b] below meth c (lw_Z below #[Value.ref b] s) shp G cy bb ws0 (fun q : Nat => s.heap.size ≤ q) 7 kc2 ks2 365 L [.inl v] M') :
    Jk p l e room_1 s m #[Value.ref b] below meth c (lw_Z below #[Value.ref b] s) shp G cy bb ws0 (fun q : Nat => s.heap.size ≤ q) 7 kc ks 362 L [.inr (.inr (.inl 198)), .inl a1, .inl a0, .inr (.inr (.inl 0))] M := by
  intro ws ls st H locs hs
  obtain ⟨w4, r4, rfl, g4, q4⟩ := hs.2.2.1.cons
  obtain ⟨w3, r3, rfl, g3, q3⟩ := q4.cons
  obtain ⟨w2, r2, rfl, g2, q2⟩ := q3.cons
  obtain ⟨w1, r1, rfl, g1, q1⟩ := q2.cons
  obtain rfl := q1.nil
  have hsz : ls.size = 7 := by
    obtain ⟨_, lv, h1, _⟩ := hs.2.1
    exact h1.1
  have hAA : ∀ q, va_A ws H.size q → (fun q : Nat => s.heap.size ≤ q) q := by
    intro q hq
    rcases hq with ⟨k', e', hk'⟩ | hq
    · exact hs.2.2.2.2.1.2 k' _ hk'
    · exact Nat.le_trans hs.2.2.2.2.2.1.1 hq
  have hM := lman_met (G := G) (cy := cy) (l := l) hc hl hw hTX hX hH ha0 ha1 bb [w1, w2, w3, w4] ws H.size ⟨g1, g2, g3, g4, trivial⟩ hs.1
  have hpre : ∀ U : State, U.heap = H → s.WarmedH U.vm → PjN G cy bb ws H.size [w1, w2, w3, w4] ([w1, w2, w3, w4] : List Value).toArray U := fun U hU hW => ⟨⟨rfl, by rw [hU], by rw [hU]; exact hs.2.2.2.1, C.2.2.2.2.2.1.warm hW, hs.2.2.2.2.1.weaken (fun _ _ _ _ => trivial), C.2.2.2.2.2.2.2.2.to hW hU hs.2.2.2.2.2.1 hAA, hJ.to hW hU hs.2.2.2.2.2.1 hAA⟩, hN.warm hW⟩
  have hfix : CallFix p m c cL_law 7 s #[Value.ref b] gtbl "MerryDuchyLaw" := ⟨C.1, C.2.1, C.2.2.1, C.2.2.2.1, C.2.2.2.2.1⟩
  refine vx_callR (vx_runSX (As := [w1, w2, w3, w4]) (rest := []) hfix hM (vx_cwSW 4 C.2.2.2.2.1 (gd_app (gd_3 q_m_MerryDuchyLaw_38 q_s_L_man q_n_MerryDuchyLaw) (gd_tbl q_k_L_man)) rfl rfl rfl ⟨by decide, by decide, by decide +kernel⟩ ⟨by show 26 + 1 ≤ 2048; omega, by show 8 + (5 + 11) + 100 * 26 ≤ 84000; omega⟩) ⟨PjN.blind, hpre⟩ rfl rfl hsz rfl (by show 2 * 0 + 0 ≤ 8; omega) dd_L_law_362 ⟨by show kc + 1 ≤ 601024; omega, by show ks + 6 ≤ 7293034; omega⟩) hs.2.2.2.2.2.1 hAA ?_
  intro v ws1 r M' H1 locs1 hP hD hG hsub hO hp hS1
  obtain ⟨v1, rfl, hv0, hv1, hHI, hMM, hML⟩ := hp
  cases v with
  | none => exact hO.elim
  | some v =>
    refine W.widen (k := kc2) (n := ks2) hkc hks ?_
    exact k v1 M' hv0 hv1 hHI hMM hML ws1 ls [v] H1 locs1 ⟨hG, hs.2.1.mono hsub, ⟨hO, trivial⟩, hP, hD, hS1, hs.2.2.2.2.2.2.tr hsub⟩
def Lj : JL := [some (.inr (.inr (.inr 0))), some (.inr (.inr (.inl 0))), some (.inr (.inr (.inl 173))), some (.inr (.inr (.inl 198))), some (.inl 0), none, none]
theorem jLc_of {bb : Nat → Nat} {ws : va_W} {ls : Array Slot} (hb0 : bb 0 = b) (h : gL (b, []) ws 7 Lw ls) : jLc bb ws 7 Lj ls := by
  obtain ⟨_, lv, h1, h2, _⟩ := h
  refine ⟨rfl, lv, h1, fun i a hi => ?_⟩
  have hr : ∀ (i c0 : Nat), ldL Lw i = some (.inr (.inr (.inl c0))) → ∃ v, (i, v) ∈ lv ∧ jV bb ws (.inr (.inr (.inl c0))) v := by
    intro i c0 hl
    obtain ⟨v, g1, g2, _⟩ := h2 i _ hl
    obtain ⟨q, e', rfl, he⟩ := g2.ref
    exact ⟨_, g1, ⟨e', he⟩⟩
  rcases i with _ | _ | _ | _ | _ | _ | _ | i
  · obtain rfl := Option.some.inj (Option.some.inj hi)
    obtain ⟨v, g1, g2, _⟩ := h2 0 (.inr (.inr (.inr 1))) rfl
    rcases g2.ext with ⟨_, h9⟩ | ⟨rfl, _⟩
    · cases h9
    · exact ⟨_, g1, hb0.symm⟩
  · obtain rfl := Option.some.inj (Option.some.inj hi)
    exact hr 1 0 rfl
  · obtain rfl := Option.some.inj (Option.some.inj hi)
    exact hr 2 173 rfl
  · obtain rfl := Option.some.inj (Option.some.inj hi)
    exact hr 3 198 rfl
  · obtain rfl := Option.some.inj (Option.some.inj hi)
    obtain ⟨v, g1, g2, _⟩ := h2 4 (.inl (0, 0)) rfl
    obtain ⟨x, rfl, hx⟩ := g2.int
    refine ⟨_, g1, ?_⟩
    show x.toInt = 0
    simp only at hx
    omega
  · cases Option.some.inj hi
  · cases Option.some.inj hi
  · simp [Lj] at hi
theorem sc_j {bb : Nat → Nat} {n : Nat} {xs : Nat → Int32} (hb0 : bb 0 = b) (hn : n ≤ 3072) (hX : va_X b n xs s s.heap) (hbl : b < s.heap.size) : jSc s bb (fun q : Nat => s.heap.size ≤ q) (some (n, fun j => (xs j).toInt)) := by
  intro n' f hf
  obtain ⟨rfl, rfl⟩ := Prod.mk.inj (Option.some.inj hf)
  exact ⟨xs, by rw [hb0]; exact hX, by rw [hb0]; exact hbl, by rw [hb0]; exact Nat.not_le.mpr hbl, by omega, fun j _ => rfl⟩
theorem law_all (hc : VXC l) (hl : l.stackTraces = false) (C : CxL p c m s b meth G cy) (hr : meth.sig.returnType = ret) (hlocks : meth.locks = false) (hN : NXD s) {bb : Nat → Nat} (hb0 : bb 0 = b) (hJ : jEX bb (fun q : Nat => s.heap.size ≤ q) s) {n : Nat} {xs : Nat → Int32} (hn : n ≤ 3072) (hX : va_X b n xs s s.heap) (hbl : b < s.heap.size) : WkL p l e s m b below meth c G cy 1 23 Lw [] hS := by
  intro ws ls st H locs hs
  obtain rfl := hs.2.2.1.nil
  obtain ⟨e1, e2, e3, e4, e5⟩ := chk_get
  have hH := jH_of hs.1 e2
  have hHI := HI_of hs.1 e1 (KW_start hs.1)
  obtain ⟨k1, k2, k3⟩ := SOK_start hs.1 e3 e4 e5
  obtain ⟨_, hz1, hz2⟩ := head_eq
  have hw := jMw_ok
  have hTX : jTX l G cy := jTX_ok
  have hF := law_loop n n rfl ⟨by omega, by omega⟩ (fun j => (xs j).toInt) (fun j => ⟨_, rfl, i32_lo _, i32_hi _⟩) (fun k => Jk p l e room_1 s m #[Value.ref b] below meth c (lw_Z below #[Value.ref b] s) shp G cy bb ws (fun q : Nat => s.heap.size ≤ q) 7 (hS.1 + k) (hS.2.1 + 6 * k))
    (fun k hk => law_c1 C hw hTX hJ (sc_j hb0 hn hX hbl) ⟨by show hS.1 + k ≤ 601024; omega, by show hS.2.1 + 6 * k ≤ 7293034; omega⟩)
    (fun k hk => law_c2 C hr hlocks (by omega) (by omega))
    (fun k hk => law_c3 C hw hTX hJ ⟨by show hS.1 + k ≤ 601024; omega, by show hS.2.1 + 6 * k ≤ 7293034; omega⟩)
    (fun k hk X L a b2 M hx0 hx1 hHM ha ha' hb hb' kk => law_cm hc hl hw hTX C hN hJ (by omega) (by omega) (by omega) (by omega) ⟨hx0, hx1⟩ hHM ⟨ha, ha'⟩ ⟨hb, hb'⟩ kk)
    0 ⟨by omega, by omega⟩ _ hHI k1 k2 k3 (TPQ_start hs.1) (TBQ_start hs.1) (IMG_start hs.1) (HNQ_start hs.1) (IHQ_start hs.1) (FQ_start hs.1)
  refine W.widen (k := hS.1 + 0) (n := hS.2.1 + 6 * 0) (by omega) (by omega) ?_
  exact hF ws ls [] H locs ⟨hH, jLc_of hb0 hs.2.1, trivial, hs.2.2.2.1, hs.2.2.2.2.1, hs.2.2.2.2.2, sub_.rf ws⟩
theorem start_all (hc : VXC l) (hflags : l.flags = flags0) {L : Nat} {xs : Nat → Int32} (hL : L ≤ 3072) (C0 : lw_At p s m meth c b L xs) : W p l e room_1 s m #[Value.ref b] below meth c s.heap [] 0 0 (lw_Z below #[Value.ref b] s) (entryFrame m ([Value.ref b] : List Value).toArray 7) := by
  obtain ⟨hx, hb, hr, hml, hown, hts, hX, hbl, hlocks, hgv⟩ := C0
  obtain ⟨G, cy, hK⟩ := start_KK hts
  have hE := start_EX hts hgv
  obtain ⟨bb, hb0, hJ⟩ := start_JX hts hgv
  have C : CxL p c m s b meth G cy := ⟨hx, hb, hml, hown, fun w hw => hts w (List.mem_filter.mp hw).1, hK, fun q hq => hq, rfl, hE⟩
  have hN : NXD s := fun w hw => va_Nw.of (dc_ot (List.all_eq_true.mp BW_dc w hw)) (hts w (BW_in w hw))
  have hl : l.stackTraces = false := by
    unfold Launch.stackTraces
    rw [hflags]
    decide +kernel
  rw [lg_entry_eq]
  have w0 := law_head C (law_all (below := below) (e := e) hc hl C hr hlocks hN hb0 hJ hL hX hbl)
  exact w0 [] _ [] s.heap [] ⟨⟨rfl, fun i cc h => absurd h (hp0_none i cc)⟩, gL_entry (b := b) (ws := []) (As := [.inr (.inr (.inr 1))]) (mL := 7) (na := 1) ⟨⟨rfl, rfl⟩, trivial⟩ rfl rfl (by decide), trivial, fun k q h => by simp at h, ⟨fun i j p q h => by simp at h, fun k q h => by simp at h⟩, va_S.rf⟩
end LAWJ
