/-! The law's loop. -/
theorem law_loop (n : Nat) (nn : Int) (hnn : (n : Int) = nn) (hn : 0 ≤ nn ∧ nn ≤ 3072) (f : Nat → Int) (hf : ∀ j, ∃ z, f j = z ∧ -2147483648 ≤ z ∧ z ≤ 2147483647) (F : Nat → JP) (c1f : ∀ k, k ≤ 512 → jstC shp PL (some (n, f)) 1000 (F k)) (c2f : ∀ k, k ≤ 512 → jreC PL 1000 (fun r _ => r = some (.inl 1)) (F k)) (c3f : ∀ k, k ≤ 512 → jcaC shp PL (JOk shp PJ 94) 1000 (F k))
 (cm : ∀ k : Nat, k < 512 → ∀ (X : Int) (L : JL) (a b : Int) (M : JM), 0 ≤ X → X ≤ 100000000 → HI X M → -2147483648 ≤ a → a ≤ 2147483647 → -2147483648 ≤ b → b ≤ 2147483647 → (∀ (v : Int) (M' : JM), 0 ≤ v → v ≤ 1 → HI X M' → (∀ c i, M'.1 c i = M.1 c i) → (∀ c i, c ≠ 198 → M'.2 c i = M.2 c i) → F (k + 1) 365 L [.inl v] M') → F k 362 L [.inr (.inr (.inl 198)), .inl b, .inl a, .inr (.inr (.inl 0))] M)
 (X : Int) (hX : 0 ≤ X ∧ X ≤ 0) (M0 : JM) (hH0 : HI X M0) (hs1 : SOK M0) (hs2 : KOK M0 0) (hs3 : KOK M0 1) (hs4 : TPQ M0) (hs5 : TBQ M0) (hs6 : IMG M0) (hs7 : HNQ M0) (hs8 : IHQ M0) (hs9 : FQ M0) : F 0 23 [some (.inr (.inr (.inr 0))), some (.inr (.inr (.inl 0))), some (.inr (.inr (.inl 173))), some (.inr (.inr (.inl 198))), some (.inl 0), none, none] [] M0 := by
 have hm := pl_law
 have W14 : ∀ (n15 : Nat) (b1 : Int) (hb1 : 0 ≤ b1 ∧ b1 ≤ 3072) (o2 : Option JV) (ho2 : o2 = none ∨ (∃ z, o2 = some (.inl z)) ∨ ∃ r, o2 = some (.inr (.inr r))) (o3 : Option JV) (ho3 : o3 = none ∨ (∃ z, o3 = some (.inl z)) ∨ ∃ r, o3 = some (.inr (.inr r))) (M4 : JM) (hH4 : HI (X + 8000 * b1) M4) (k : Nat) (hk : 6 * (k : Int) ≤ b1) (hs1 : SOK M4) (hs2 : KOK M4 0) (hs3 : KOK M4 1) (hs4 : TPQ M4) (hs5 : TBQ M4) (hs6 : IMG M4) (hs7 : HNQ M4) (hs8 : IHQ M4) (hs9 : FQ M4), (-b1 + 3072) < (n15 : Int) → F k 23 [some (.inr (.inr (.inr 0))), some (.inr (.inr (.inl 0))), some (.inr (.inr (.inl 173))), some (.inr (.inr (.inl 198))), some (.inl b1), o2, o3] [] M4 := by
  intro n15
  induction n15 with
  | zero => intros; omega
  | succ n15 ihW14 =>
   intro b1 hb1 o2 ho2 o3 ho3 M4 hH4 k hk hs1 hs2 hs3 hs4 hs5 hs6 hs7 hs8 hs9 hrW14
   have c1 := c1f k (by omega)
   have c2 := c2f k (by omega)
   have c3 := c3f k (by omega)
   refine jx_load c1 hm rfl rfl rfl rfl ?_
   refine jx_load c1 hm rfl rfl rfl rfl ?_
   refine jx_slen c1 hm rfl hnn ?_
   refine jy_bp c1 hm rfl (by decide) ?_
   refine jy_sub c1 hm (nn - 6) rfl (by omega) ?_
   refine jc_gt c1 hm 1451 rfl rfl (fun h16 => ?_) (fun h16 => ?_)
   ·
    refine jy_ic c1 hm rfl (by decide) ?_
    exact jx_retz c2 hm rfl rfl ⟨by omega, by omega⟩ rfl
   refine jx_load c1 hm rfl rfl rfl rfl ?_
   refine jx_load c1 hm rfl rfl rfl rfl ?_
   obtain ⟨z17, kz17, lz17, uz17⟩ := hf (b1).toNat
   refine jx_sald c1 hm rfl ⟨by omega, by omega⟩ kz17 ?_
   refine jy_bp c1 hm rfl (by decide) ?_
   refine jy_anr c1 hm rfl ⟨by omega, by omega⟩ (fun z18 lz18 uz18 => ?_)
   by_cases h19 : z18 = 0
   ·
    refine jx_tswI c1 hm 224 rfl ⟨by omega, by omega⟩ (by rw [h19] <;> rfl) rfl ?_
    refine jx_load c1 hm rfl rfl rfl rfl ?_
    refine jx_load c1 hm rfl rfl rfl rfl ?_
    refine jx_load c1 hm rfl rfl rfl rfl ?_
    refine jy_ic c1 hm rfl (by decide) ?_
    refine jy_add c1 hm (b1 + 1) rfl (by omega) ?_
    obtain ⟨z20, kz20, lz20, uz20⟩ := hf ((b1 + 1)).toNat
    refine jx_sald c1 hm rfl ⟨by omega, by omega⟩ kz20 ?_
    refine jx_load c1 hm rfl rfl rfl rfl ?_
    refine jx_load c1 hm rfl rfl rfl rfl ?_
    refine jy_ic c1 hm rfl (by decide) ?_
    refine jy_add c1 hm (b1 + 2) rfl (by omega) ?_
    obtain ⟨z21, kz21, lz21, uz21⟩ := hf ((b1 + 2)).toNat
    refine jx_sald c1 hm rfl ⟨by omega, by omega⟩ kz21 ?_
    refine jx_load c1 hm rfl rfl rfl rfl ?_
    refine jx_load c1 hm rfl rfl rfl rfl ?_
    refine jy_ic c1 hm rfl (by decide) ?_
    refine jy_add c1 hm (b1 + 3) rfl (by omega) ?_
    obtain ⟨z22, kz22, lz22, uz22⟩ := hf ((b1 + 3)).toNat
    refine jx_sald c1 hm rfl ⟨by omega, by omega⟩ kz22 ?_
    refine jx_load c1 hm rfl rfl rfl rfl ?_
    refine jx_load c1 hm rfl rfl rfl rfl ?_
    refine jy_ic c1 hm rfl (by decide) ?_
    refine jy_add c1 hm (b1 + 4) rfl (by omega) ?_
    obtain ⟨z23, kz23, lz23, uz23⟩ := hf ((b1 + 4)).toNat
    refine jx_sald c1 hm rfl ⟨by omega, by omega⟩ kz23 ?_
    refine jx_load c1 hm rfl rfl rfl rfl ?_
    refine jx_load c1 hm rfl rfl rfl rfl ?_
    refine jy_ic c1 hm rfl (by decide) ?_
    refine jy_add c1 hm (b1 + 5) rfl (by omega) ?_
    obtain ⟨z24, kz24, lz24, uz24⟩ := hf ((b1 + 5)).toNat
    refine jx_sald c1 hm rfl ⟨by omega, by omega⟩ kz24 ?_
    obtain ⟨z25, k26, lz25, uz25⟩ := hH4.ld (c := 0) (i := 2) (A := 0) (B := 940) (bs_18_1 _ _ (by omega) (by omega))
    refine jv_i c3 hm rfl (plp pj_X11_feed rfl) rfl rfl ⟨_, _, _, rfl, sh_0⟩ rfl (((ct_X11_feed_0t (X + 8000 * b1) (by omega) M4 hH4 z20 ⟨by omega, by omega⟩ z21 ⟨by omega, by omega⟩ z22 ⟨by omega, by omega⟩ z23 ⟨by omega, by omega⟩ z24 ⟨by omega, by omega⟩).lki (by decide +kernel) rfl).le (by decide)) (fun z27 M32 ⟨⟨hH32, hR32, lz27, uz27, p28, p29, p30, p31⟩, hL32⟩ => ?_)
    obtain ⟨z33, k34, lz33, uz33⟩ := hH32.ld (c := 0) (i := 2) (A := 0) (B := 940) (bs_18_1 _ _ (by omega) (by omega))
    refine jx_pop c1 hm rfl rfl ?_
    refine jx_load c1 hm rfl rfl rfl rfl ?_
    refine jx_load c1 hm rfl rfl rfl rfl ?_
    refine jx_load c1 hm rfl rfl rfl rfl ?_
    refine jy_ic c1 hm rfl (by decide) ?_
    refine jy_add c1 hm (b1 + 1) rfl (by omega) ?_
    obtain ⟨z35, kz35, lz35, uz35⟩ := hf ((b1 + 1)).toNat
    refine jx_sald c1 hm rfl ⟨by omega, by omega⟩ kz35 ?_
    refine jx_load c1 hm rfl rfl rfl rfl ?_
    refine jx_load c1 hm rfl rfl rfl rfl ?_
    refine jy_ic c1 hm rfl (by decide) ?_
    refine jy_add c1 hm (b1 + 2) rfl (by omega) ?_
    obtain ⟨z36, kz36, lz36, uz36⟩ := hf ((b1 + 2)).toNat
    refine jx_sald c1 hm rfl ⟨by omega, by omega⟩ kz36 ?_
    refine jx_load c1 hm rfl rfl rfl rfl ?_
    refine jx_load c1 hm rfl rfl rfl rfl ?_
    refine jy_ic c1 hm rfl (by decide) ?_
    refine jy_add c1 hm (b1 + 3) rfl (by omega) ?_
    obtain ⟨z37, kz37, lz37, uz37⟩ := hf ((b1 + 3)).toNat
    refine jx_sald c1 hm rfl ⟨by omega, by omega⟩ kz37 ?_
    refine jx_load c1 hm rfl rfl rfl rfl ?_
    refine jx_load c1 hm rfl rfl rfl rfl ?_
    refine jy_ic c1 hm rfl (by decide) ?_
    refine jy_add c1 hm (b1 + 4) rfl (by omega) ?_
    obtain ⟨z38, kz38, lz38, uz38⟩ := hf ((b1 + 4)).toNat
    refine jx_sald c1 hm rfl ⟨by omega, by omega⟩ kz38 ?_
    refine jx_load c1 hm rfl rfl rfl rfl ?_
    refine jx_load c1 hm rfl rfl rfl rfl ?_
    refine jy_ic c1 hm rfl (by decide) ?_
    refine jy_add c1 hm (b1 + 5) rfl (by omega) ?_
    obtain ⟨z39, kz39, lz39, uz39⟩ := hf ((b1 + 5)).toNat
    refine jx_sald c1 hm rfl ⟨by omega, by omega⟩ kz39 ?_
    obtain ⟨z40, k41, lz40, uz40⟩ := hH32.ld (c := 173) (i := 2) (A := 0) (B := 940) (bs_28_1 _ _ (by omega) (by omega))
    refine jv_i c3 hm rfl (plp pj_X12_feed rfl) rfl rfl ⟨_, _, _, rfl, sh_173⟩ rfl (((ct_X12_feed_173t (X + 8000 * b1) (by omega) M32 hH32 z35 ⟨by omega, by omega⟩ z36 ⟨by omega, by omega⟩ z37 ⟨by omega, by omega⟩ z38 ⟨by omega, by omega⟩ z39 ⟨by omega, by omega⟩).lki (by decide +kernel) rfl).le (by decide)) (fun z42 M47 ⟨⟨hH47, hR47, lz42, uz42, p43, p44, p45, p46⟩, hL47⟩ => ?_)
    obtain ⟨z48, k49, lz48, uz48⟩ := hH47.ld (c := 173) (i := 2) (A := 0) (B := 940) (bs_28_1 _ _ (by omega) (by omega))
    refine jx_pop c1 hm rfl rfl ?_
    refine jx_goto c1 hm 1445 rfl rfl ?_
    refine jx_iinc c1 hm (v := (b1 + 6)) (L' := [some (.inr (.inr (.inr 0))), some (.inr (.inr (.inl 0))), some (.inr (.inr (.inl 173))), some (.inr (.inr (.inl 198))), some (.inl (b1 + 6)), o2, o3]) rfl rfl (by omega) (by omega) rfl ?_
    refine jx_goto c1 hm 23 rfl rfl ?_
    exact ihW14 (b1 + 6) (by omega) o2 ho2 o3 ho3 M47 (hH47.mono (by omega) (by omega)) k (by omega) (SOK.cg hs1 (fun j h1 h2 => ((hR47 175 j rfl).trans (hR32 175 j rfl)))) (KOK.cg hs2 (fun j h1 h2 => ((hR47 177 j rfl).trans (hR32 177 j rfl)))) (KOK.cg hs3 (fun j h1 h2 => ((hR47 177 j rfl).trans (hR32 177 j rfl)))) (TPQ.of (by have y9 := hs4.e; have y90_0 := hR47 0 2 rfl; have y91_173 := hR32 173 2 rfl; omega)) (TBQ.feed hs5 hs4 (kz20.symm.trans kz35) (kz21.symm.trans kz36) (kz22.symm.trans kz37) (kz23.symm.trans kz38) (kz24.symm.trans kz39) p30 p31 (fun j => hR32 174 j rfl) (hR32 173 2 rfl) p45 p46 (fun j => hR47 2 j rfl) (hR47 0 2 rfl)) (IMG.cg hs6 (fun j => ((hR47 46 j rfl).trans (hR32 46 j rfl))) (fun j => ((hR47 183 j rfl).trans (hR32 183 j rfl)))) (HNQ.cg hs7 ⟨fun j _ => ((hR47 6 j rfl).trans (hR32 6 j rfl)), fun k _ => ((hL47 7 k (by decide +kernel)).trans (hL32 7 k (by decide +kernel)))⟩ ⟨fun j hj => ((hR47 175 (0 + j) rfl).trans (hR32 175 (0 + j) rfl)), fun k _ => ((hL47 180 (0 + k) (by decide +kernel)).trans (hL32 180 (0 + k) (by decide +kernel)))⟩) (IHQ.cg hs8 (fun j => ((hR47 46 j rfl).trans (hR32 46 j rfl))) ⟨fun j _ => ((hR47 138 j rfl).trans (hR32 138 j rfl)), fun k _ => ((hL47 139 k (by decide +kernel)).trans (hL32 139 k (by decide +kernel)))⟩ ⟨fun j _ => ((hR47 156 j rfl).trans (hR32 156 j rfl)), fun k _ => ((hL47 157 k (by decide +kernel)).trans (hL32 157 k (by decide +kernel)))⟩ ⟨fun j hj => ((hR47 177 (0 + j) rfl).trans (hR32 177 (0 + j) rfl)), fun k _ => ((hL47 182 (0 + k) (by decide +kernel)).trans (hL32 182 (0 + k) (by decide +kernel)))⟩ ⟨fun j hj => ((hR47 177 (476 + j) rfl).trans (hR32 177 (476 + j) rfl)), fun k _ => ((hL47 182 (18 + k) (by decide +kernel)).trans (hL32 182 (18 + k) (by decide +kernel)))⟩) (FQ.cg hs9 ((hR47 0 3 rfl).trans (hR32 0 3 rfl)) ((hR47 173 10 rfl).trans (hR32 173 10 rfl))) (by omega)
   by_cases h50 : z18 = 1
   ·
    refine jx_tswI c1 hm 297 rfl ⟨by omega, by omega⟩ (by rw [h50] <;> rfl) rfl ?_
    refine jx_load c1 hm rfl rfl rfl rfl ?_
    refine jx_load c1 hm rfl rfl rfl rfl ?_
    refine jx_load c1 hm rfl rfl rfl rfl ?_
    refine jy_ic c1 hm rfl (by decide) ?_
    refine jy_add c1 hm (b1 + 1) rfl (by omega) ?_
    obtain ⟨z51, kz51, lz51, uz51⟩ := hf ((b1 + 1)).toNat
    refine jx_sald c1 hm rfl ⟨by omega, by omega⟩ kz51 ?_
    obtain ⟨z52, k53, lz52, uz52⟩ := hH4.ld (c := 0) (i := 2) (A := 0) (B := 940) (bs_18_1 _ _ (by omega) (by omega))
    refine jv_i c3 hm rfl (plp pj_X11_end rfl) rfl rfl ⟨_, _, _, rfl, sh_0⟩ rfl (((ct_X11_end_0t (X + 8000 * b1) (by omega) M4 hH4 z51 ⟨by omega, by omega⟩).lki (by decide +kernel) rfl).le (by decide)) (fun z54 M57 ⟨⟨hH57, hR57, lz54, uz54, p55, p56⟩, hL57⟩ => ?_)
    obtain ⟨z58, k59, lz58, uz58⟩ := hH57.ld (c := 0) (i := 2) (A := 0) (B := 940) (bs_18_1 _ _ (by omega) (by omega))
    refine jx_pop c1 hm rfl rfl ?_
    refine jx_load c1 hm rfl rfl rfl rfl ?_
    refine jx_load c1 hm rfl rfl rfl rfl ?_
    refine jx_load c1 hm rfl rfl rfl rfl ?_
    refine jy_ic c1 hm rfl (by decide) ?_
    refine jy_add c1 hm (b1 + 1) rfl (by omega) ?_
    obtain ⟨z60, kz60, lz60, uz60⟩ := hf ((b1 + 1)).toNat
    refine jx_sald c1 hm rfl ⟨by omega, by omega⟩ kz60 ?_
    obtain ⟨z61, k62, lz61, uz61⟩ := hH57.ld (c := 173) (i := 2) (A := 0) (B := 940) (bs_28_1 _ _ (by omega) (by omega))
    refine jv_i c3 hm rfl (plp pj_X12_end rfl) rfl rfl ⟨_, _, _, rfl, sh_173⟩ rfl (((ct_X12_end_173t (X + 8000 * b1) (by omega) M57 hH57 z60 ⟨by omega, by omega⟩).lki (by decide +kernel) rfl).le (by decide)) (fun z63 M66 ⟨⟨hH66, hR66, lz63, uz63, p64, p65⟩, hL66⟩ => ?_)
    obtain ⟨z67, k68, lz67, uz67⟩ := hH66.ld (c := 173) (i := 2) (A := 0) (B := 940) (bs_28_1 _ _ (by omega) (by omega))
    refine jx_pop c1 hm rfl rfl ?_
    refine jx_goto c1 hm 1445 rfl rfl ?_
    refine jx_iinc c1 hm (v := (b1 + 6)) (L' := [some (.inr (.inr (.inr 0))), some (.inr (.inr (.inl 0))), some (.inr (.inr (.inl 173))), some (.inr (.inr (.inl 198))), some (.inl (b1 + 6)), o2, o3]) rfl rfl (by omega) (by omega) rfl ?_
    refine jx_goto c1 hm 23 rfl rfl ?_
    exact ihW14 (b1 + 6) (by omega) o2 ho2 o3 ho3 M66 (hH66.mono (by omega) (by omega)) k (by omega) (SOK.cg hs1 (fun j h1 h2 => ((hR66 175 j rfl).trans (hR57 175 j rfl)))) (KOK.cg hs2 (fun j h1 h2 => ((hR66 177 j rfl).trans (hR57 177 j rfl)))) (KOK.cg hs3 (fun j h1 h2 => ((hR66 177 j rfl).trans (hR57 177 j rfl)))) (TPQ.of (by have y9 := hs4.e; have y90_0 := hR66 0 2 rfl; have y91_173 := hR57 173 2 rfl; omega)) (TBQ.cg hs5 (fun j => ((hR66 2 j rfl).trans (hR57 2 j rfl))) (fun j => ((hR66 174 j rfl).trans (hR57 174 j rfl)))) (IMG.cg hs6 (fun j => ((hR66 46 j rfl).trans (hR57 46 j rfl))) (fun j => ((hR66 183 j rfl).trans (hR57 183 j rfl)))) (HNQ.cg hs7 ⟨fun j _ => ((hR66 6 j rfl).trans (hR57 6 j rfl)), fun k _ => ((hL66 7 k (by decide +kernel)).trans (hL57 7 k (by decide +kernel)))⟩ ⟨fun j hj => ((hR66 175 (0 + j) rfl).trans (hR57 175 (0 + j) rfl)), fun k _ => ((hL66 180 (0 + k) (by decide +kernel)).trans (hL57 180 (0 + k) (by decide +kernel)))⟩) (IHQ.cg hs8 (fun j => ((hR66 46 j rfl).trans (hR57 46 j rfl))) ⟨fun j _ => ((hR66 138 j rfl).trans (hR57 138 j rfl)), fun k _ => ((hL66 139 k (by decide +kernel)).trans (hL57 139 k (by decide +kernel)))⟩ ⟨fun j _ => ((hR66 156 j rfl).trans (hR57 156 j rfl)), fun k _ => ((hL66 157 k (by decide +kernel)).trans (hL57 157 k (by decide +kernel)))⟩ ⟨fun j hj => ((hR66 177 (0 + j) rfl).trans (hR57 177 (0 + j) rfl)), fun k _ => ((hL66 182 (0 + k) (by decide +kernel)).trans (hL57 182 (0 + k) (by decide +kernel)))⟩ ⟨fun j hj => ((hR66 177 (476 + j) rfl).trans (hR57 177 (476 + j) rfl)), fun k _ => ((hL66 182 (18 + k) (by decide +kernel)).trans (hL57 182 (18 + k) (by decide +kernel)))⟩) (FQ.cg hs9 ((hR66 0 3 rfl).trans (hR57 0 3 rfl)) ((hR66 173 10 rfl).trans (hR57 173 10 rfl))) (by omega)
   by_cases h69 : z18 = 2
   ·
    refine jx_tswI c1 hm 322 rfl ⟨by omega, by omega⟩ (by rw [h69] <;> rfl) rfl ?_
    refine jx_load c1 hm rfl rfl rfl rfl ?_
    obtain ⟨z70, k71, lz70, uz70⟩ := hH4.ld (c := 0) (i := 2) (A := 0) (B := 940) (bs_18_1 _ _ (by omega) (by omega))
    refine jv_i c3 hm rfl (plp pj_X11_duchy rfl) rfl rfl ⟨_, _, _, rfl, sh_0⟩ rfl ((ct_X11_duchy_0k (X + 8000 * b1) (by omega) M4 hH4 ).le (by decide)) (fun z72 M79 ⟨hH79, hR79, lz72, uz72, p73, p74, p75, p76, p77, p78⟩ => ?_)
    obtain ⟨z80, k81, lz80, uz80⟩ := hH79.ld (c := 0) (i := 2) (A := 0) (B := 940) (bs_18_1 _ _ (by omega) (by omega))
    obtain ⟨z82, k83, lz82, uz82⟩ := hH79.ld (c := 0) (i := 3) (A := (-2147483648)) (B := 2147483647) (bs_18_2 _ _ (by omega) (by omega))
    refine jx_pop c1 hm rfl rfl ?_
    refine jx_load c1 hm rfl rfl rfl rfl ?_
    obtain ⟨z84, k85, lz84, uz84⟩ := hH79.ld (c := 173) (i := 2) (A := 0) (B := 940) (bs_28_1 _ _ (by omega) (by omega))
    refine jv_i c3 hm rfl (plp pj_X12_duchy rfl) rfl rfl ⟨_, _, _, rfl, sh_173⟩ rfl ((ct_X12_duchy_173k (X + 8000 * b1) (by omega) M79 hH79 (SOK.cg hs1 (fun j h1 h2 => (hR79 175 j rfl)))).le (by decide)) (fun z86 M95 ⟨hH95, hR95, lz86, uz86, p87, p88, p89, p90, p91, p92, p93, p94⟩ => ?_)
    obtain ⟨z96, k97, lz96, uz96⟩ := hH95.ld (c := 175) (i := 234) (A := (-2147483648)) (B := 2147483647) (bs_11_11 _ _ (by omega) (by omega))
    obtain ⟨z98, k99, lz98, uz98⟩ := hH95.ld (c := 173) (i := 2) (A := 0) (B := 940) (bs_28_1 _ _ (by omega) (by omega))
    obtain ⟨z100, k101, lz100, uz100⟩ := hH95.ld (c := 173) (i := 10) (A := (-2147483648)) (B := 2147483647) (bs_28_5 _ _ (by omega) (by omega))
    refine jx_pop c1 hm rfl rfl ?_
    refine jx_goto c1 hm 1445 rfl rfl ?_
    refine jx_iinc c1 hm (v := (b1 + 6)) (L' := [some (.inr (.inr (.inr 0))), some (.inr (.inr (.inl 0))), some (.inr (.inr (.inl 173))), some (.inr (.inr (.inl 198))), some (.inl (b1 + 6)), o2, o3]) rfl rfl (by omega) (by omega) rfl ?_
    refine jx_goto c1 hm 23 rfl rfl ?_
    exact ihW14 (b1 + 6) (by omega) o2 ho2 o3 ho3 M95 (hH95.mono (by omega) (by omega)) k (by omega) p87 (KOK.cg hs2 (fun j h1 h2 => ((hR95 177 j rfl).trans (hR79 177 j rfl)))) (KOK.cg hs3 (fun j h1 h2 => ((hR95 177 j rfl).trans (hR79 177 j rfl)))) (TPQ.of (by have y9 := hs4.e; have y90_0 := hR95 0 2 rfl; have y91_173 := hR79 173 2 rfl; omega)) (TBQ.cg hs5 (fun j => ((hR95 2 j rfl).trans (hR79 2 j rfl))) (fun j => ((hR95 174 j rfl).trans (hR79 174 j rfl)))) (IMG.cg hs6 (fun j => ((hR95 46 j rfl).trans (hR79 46 j rfl))) (fun j => ((hR95 183 j rfl).trans (hR79 183 j rfl)))) (HNQ.du hs7 hs5 hs4 p73 p75 p76 (fun j => hR79 174 j rfl) (hR79 173 2 rfl) ⟨fun j hj => (hR79 175 (0 + j) rfl), fun k _ => (p77 180 (0 + k) (by decide +kernel) rfl)⟩ p89 p91 p92 ⟨fun j _ => (hR95 6 j rfl), fun k _ => (p93 7 k (by decide +kernel) rfl)⟩) (IHQ.cg hs8 (fun j => ((hR95 46 j rfl).trans (hR79 46 j rfl))) ⟨fun j _ => ((hR95 138 j rfl).trans (hR79 138 j rfl)), fun k _ => ((p93 139 k (by decide +kernel) rfl).trans (p77 139 k (by decide +kernel) rfl))⟩ ⟨fun j _ => ((hR95 156 j rfl).trans (hR79 156 j rfl)), fun k _ => ((p93 157 k (by decide +kernel) rfl).trans (p77 157 k (by decide +kernel) rfl))⟩ ⟨fun j hj => ((hR95 177 (0 + j) rfl).trans (hR79 177 (0 + j) rfl)), fun k _ => ((p93 182 (0 + k) (by decide +kernel) rfl).trans (p77 182 (0 + k) (by decide +kernel) rfl))⟩ ⟨fun j hj => ((hR95 177 (476 + j) rfl).trans (hR79 177 (476 + j) rfl)), fun k _ => ((p93 182 (18 + k) (by decide +kernel) rfl).trans (p77 182 (18 + k) (by decide +kernel) rfl))⟩) (FQ.du hs5 hs4 p78 (fun j => hR79 174 j rfl) (hR79 173 2 rfl) p94 (hR95 0 3 rfl)) (by omega)
   by_cases h102 : z18 = 3
   ·
    refine jx_tswI c1 hm 335 rfl ⟨by omega, by omega⟩ (by rw [h102] <;> rfl) rfl ?_
    refine jx_load c1 hm rfl rfl rfl rfl ?_
    obtain ⟨z103, k104, lz103, uz103⟩ := hH4.ld (c := 0) (i := 3) (A := (-2147483648)) (B := 2147483647) (bs_18_2 _ _ (by omega) (by omega))
    refine jv_i c3 hm rfl (plp pj_X11_fault rfl) rfl rfl ⟨_, _, _, rfl, sh_0⟩ rfl ((ct_X11_fault_0t (X + 8000 * b1) (by omega) M4 hH4 ).le (by decide)) (fun z105 _ ⟨rfl, lz105, uz105, p106⟩ => ?_)
    refine jx_load c1 hm rfl rfl rfl rfl ?_
    obtain ⟨z107, k108, lz107, uz107⟩ := hH4.ld (c := 173) (i := 10) (A := (-2147483648)) (B := 2147483647) (bs_28_5 _ _ (by omega) (by omega))
    refine jv_i c3 hm rfl (plp pj_X12_fault rfl) rfl rfl ⟨_, _, _, rfl, sh_173⟩ rfl (((ct_X12_fault_173t (X + 8000 * b1) (by omega) M4 hH4 ).lki (by decide +kernel) rfl).le (by decide)) (fun z109 M111 ⟨⟨hH111, hR111, lz109, uz109, p110⟩, hL111⟩ => ?_)
    have hq9 : z105 = z109 := p106.trans (hs9.e.trans p110.symm)
    refine jc_eq c1 hm 1445 rfl rfl (fun h112 => ?_) (fun h112 => ?_)
    ·
     refine jx_iinc c1 hm (v := (b1 + 6)) (L' := [some (.inr (.inr (.inr 0))), some (.inr (.inr (.inl 0))), some (.inr (.inr (.inl 173))), some (.inr (.inr (.inl 198))), some (.inl (b1 + 6)), o2, o3]) rfl rfl (by omega) (by omega) rfl ?_
     refine jx_goto c1 hm 23 rfl rfl ?_
     exact ihW14 (b1 + 6) (by omega) o2 ho2 o3 ho3 M111 (hH111.mono (by omega) (by omega)) k (by omega) (SOK.cg hs1 (fun j h1 h2 => (hR111 175 j rfl))) (KOK.cg hs2 (fun j h1 h2 => (hR111 177 j rfl))) (KOK.cg hs3 (fun j h1 h2 => (hR111 177 j rfl))) (TPQ.cg hs4 (hR111 0 2 rfl) (hR111 173 2 rfl)) (TBQ.cg hs5 (fun j => (hR111 2 j rfl)) (fun j => (hR111 174 j rfl))) (IMG.cg hs6 (fun j => (hR111 46 j rfl)) (fun j => (hR111 183 j rfl))) (HNQ.cg hs7 ⟨fun j _ => (hR111 6 j rfl), fun k _ => (hL111 7 k (by decide +kernel))⟩ ⟨fun j hj => (hR111 175 (0 + j) rfl), fun k _ => (hL111 180 (0 + k) (by decide +kernel))⟩) (IHQ.cg hs8 (fun j => (hR111 46 j rfl)) ⟨fun j _ => (hR111 138 j rfl), fun k _ => (hL111 139 k (by decide +kernel))⟩ ⟨fun j _ => (hR111 156 j rfl), fun k _ => (hL111 157 k (by decide +kernel))⟩ ⟨fun j hj => (hR111 177 (0 + j) rfl), fun k _ => (hL111 182 (0 + k) (by decide +kernel))⟩ ⟨fun j hj => (hR111 177 (476 + j) rfl), fun k _ => (hL111 182 (18 + k) (by decide +kernel))⟩) (FQ.cg hs9 (hR111 0 3 rfl) (hR111 173 10 rfl)) (by omega)
    refine jy_ic c1 hm rfl (by decide) ?_
    exfalso; omega
   by_cases h113 : z18 = 4
   ·
    refine jx_tswI c1 hm 348 rfl ⟨by omega, by omega⟩ (by rw [h113] <;> rfl) rfl ?_
    refine jx_load c1 hm rfl rfl rfl rfl ?_
    refine jx_load c1 hm rfl rfl rfl rfl ?_
    refine jx_load c1 hm rfl rfl rfl rfl ?_
    refine jy_ic c1 hm rfl (by decide) ?_
    refine jy_add c1 hm (b1 + 1) rfl (by omega) ?_
    obtain ⟨z114, kz114, lz114, uz114⟩ := hf ((b1 + 1)).toNat
    refine jx_sald c1 hm rfl ⟨by omega, by omega⟩ kz114 ?_
    refine jx_load c1 hm rfl rfl rfl rfl ?_
    refine jx_load c1 hm rfl rfl rfl rfl ?_
    refine jy_ic c1 hm rfl (by decide) ?_
    refine jy_add c1 hm (b1 + 2) rfl (by omega) ?_
    obtain ⟨z115, kz115, lz115, uz115⟩ := hf ((b1 + 2)).toNat
    refine jx_sald c1 hm rfl ⟨by omega, by omega⟩ kz115 ?_
    refine jx_load c1 hm rfl rfl rfl rfl ?_
    refine cm k (by omega) (X + 8000 * b1) _ z114 z115 M4 (by omega) (by omega) hH4 (by omega) (by omega) (by omega) (by omega) (fun z116 M117 lz116 uz116 hH117 y117 yl117 => ?_)
    have c1 := c1f (k + 1) (by omega)
    have c2 := c2f (k + 1) (by omega)
    have c3 := c3f (k + 1) (by omega)
    refine jx_stor c1 hm (L' := [some (.inr (.inr (.inr 0))), some (.inr (.inr (.inl 0))), some (.inr (.inr (.inl 173))), some (.inr (.inr (.inl 198))), some (.inl b1), some (.inl z116), o3]) rfl rfl rfl rfl rfl ?_
    refine jx_load c1 hm rfl rfl rfl rfl ?_
    refine jx_load c1 hm rfl rfl rfl rfl ?_
    refine jx_load c1 hm rfl rfl rfl rfl ?_
    refine jy_ic c1 hm rfl (by decide) ?_
    refine jy_add c1 hm (b1 + 1) rfl (by omega) ?_
    obtain ⟨z118, kz118, lz118, uz118⟩ := hf ((b1 + 1)).toNat
    refine jx_sald c1 hm rfl ⟨by omega, by omega⟩ kz118 ?_
    refine jx_load c1 hm rfl rfl rfl rfl ?_
    refine jx_load c1 hm rfl rfl rfl rfl ?_
    refine jy_ic c1 hm rfl (by decide) ?_
    refine jy_add c1 hm (b1 + 2) rfl (by omega) ?_
    obtain ⟨z119, kz119, lz119, uz119⟩ := hf ((b1 + 2)).toNat
    refine jx_sald c1 hm rfl ⟨by omega, by omega⟩ kz119 ?_
    refine jv_i c3 hm rfl (plp pj_X12_man rfl) rfl rfl ⟨_, _, _, rfl, sh_173⟩ rfl (((ct_X12_man_173 (X + 8000 * b1) (by omega) M117 hH117 z118 ⟨by omega, by omega⟩ z119 ⟨by omega, by omega⟩).lki (by decide +kernel) rfl).le (by decide)) (fun z120 M121 ⟨⟨hH121, hR121, lz120, uz120⟩, hL121⟩ => ?_)
    refine jx_stor c1 hm (L' := [some (.inr (.inr (.inr 0))), some (.inr (.inr (.inl 0))), some (.inr (.inr (.inl 173))), some (.inr (.inr (.inl 198))), some (.inl b1), some (.inl z116), some (.inl z120)]) rfl rfl rfl rfl rfl ?_
    refine jx_goto c1 hm 1445 rfl rfl ?_
    refine jx_iinc c1 hm (v := (b1 + 6)) (L' := [some (.inr (.inr (.inr 0))), some (.inr (.inr (.inl 0))), some (.inr (.inr (.inl 173))), some (.inr (.inr (.inl 198))), some (.inl (b1 + 6)), some (.inl z116), some (.inl z120)]) rfl rfl (by omega) (by omega) rfl ?_
    refine jx_goto c1 hm 23 rfl rfl ?_
    exact ihW14 (b1 + 6) (by omega) (some (.inl z116)) (Or.inr (Or.inl ⟨_, rfl⟩)) (some (.inl z120)) (Or.inr (Or.inl ⟨_, rfl⟩)) M121 (hH121.mono (by omega) (by omega)) (k + 1) (by omega) (SOK.cg hs1 (fun j h1 h2 => ((hR121 175 j rfl).trans (y117 175 j)))) (KOK.cg hs2 (fun j h1 h2 => ((hR121 177 j rfl).trans (y117 177 j)))) (KOK.cg hs3 (fun j h1 h2 => ((hR121 177 j rfl).trans (y117 177 j)))) (TPQ.cg hs4 ((hR121 0 2 rfl).trans (y117 0 2)) ((hR121 173 2 rfl).trans (y117 173 2))) (TBQ.cg hs5 (fun j => ((hR121 2 j rfl).trans (y117 2 j))) (fun j => ((hR121 174 j rfl).trans (y117 174 j)))) (IMG.cg hs6 (fun j => ((hR121 46 j rfl).trans (y117 46 j))) (fun j => ((hR121 183 j rfl).trans (y117 183 j)))) (HNQ.cg hs7 ⟨fun j _ => ((hR121 6 j rfl).trans (y117 6 j)), fun k _ => ((hL121 7 k (by decide +kernel)).trans (yl117 7 k (by decide)))⟩ ⟨fun j hj => ((hR121 175 (0 + j) rfl).trans (y117 175 (0 + j))), fun k _ => ((hL121 180 (0 + k) (by decide +kernel)).trans (yl117 180 (0 + k) (by decide)))⟩) (IHQ.cg hs8 (fun j => ((hR121 46 j rfl).trans (y117 46 j))) ⟨fun j _ => ((hR121 138 j rfl).trans (y117 138 j)), fun k _ => ((hL121 139 k (by decide +kernel)).trans (yl117 139 k (by decide)))⟩ ⟨fun j _ => ((hR121 156 j rfl).trans (y117 156 j)), fun k _ => ((hL121 157 k (by decide +kernel)).trans (yl117 157 k (by decide)))⟩ ⟨fun j hj => ((hR121 177 (0 + j) rfl).trans (y117 177 (0 + j))), fun k _ => ((hL121 182 (0 + k) (by decide +kernel)).trans (yl117 182 (0 + k) (by decide)))⟩ ⟨fun j hj => ((hR121 177 (476 + j) rfl).trans (y117 177 (476 + j))), fun k _ => ((hL121 182 (18 + k) (by decide +kernel)).trans (yl117 182 (18 + k) (by decide)))⟩) (FQ.cg hs9 ((hR121 0 3 rfl).trans (y117 0 3)) ((hR121 173 10 rfl).trans (y117 173 10))) (by omega)
   by_cases h122 : z18 = 5
   ·
    refine jx_tswI c1 hm 388 rfl ⟨by omega, by omega⟩ (by rw [h122] <;> rfl) rfl ?_
    refine jx_load c1 hm rfl rfl rfl rfl ?_
    refine jx_load c1 hm rfl rfl rfl rfl ?_
    refine jx_load c1 hm rfl rfl rfl rfl ?_
    refine jy_ic c1 hm rfl (by decide) ?_
    refine jy_add c1 hm (b1 + 1) rfl (by omega) ?_
    obtain ⟨z123, kz123, lz123, uz123⟩ := hf ((b1 + 1)).toNat
    refine jx_sald c1 hm rfl ⟨by omega, by omega⟩ kz123 ?_
    refine jx_load c1 hm rfl rfl rfl rfl ?_
    refine jx_load c1 hm rfl rfl rfl rfl ?_
    refine jy_ic c1 hm rfl (by decide) ?_
    refine jy_add c1 hm (b1 + 2) rfl (by omega) ?_
    obtain ⟨z124, kz124, lz124, uz124⟩ := hf ((b1 + 2)).toNat
    refine jx_sald c1 hm rfl ⟨by omega, by omega⟩ kz124 ?_
    refine jv_i c3 hm rfl (plp pj_X11_cost rfl) rfl rfl ⟨_, _, _, rfl, sh_0⟩ rfl ((ct_X11_cost_0 (X + 8000 * b1) (by omega) M4 hH4 z123 ⟨by omega, by omega⟩ z124 ⟨by omega, by omega⟩).le (by decide)) (fun z125 _ ⟨rfl, lz125, uz125⟩ => ?_)
    refine jx_pop c1 hm rfl rfl ?_
    refine jx_load c1 hm rfl rfl rfl rfl ?_
    refine jx_load c1 hm rfl rfl rfl rfl ?_
    refine jx_load c1 hm rfl rfl rfl rfl ?_
    refine jy_ic c1 hm rfl (by decide) ?_
    refine jy_add c1 hm (b1 + 1) rfl (by omega) ?_
    obtain ⟨z126, kz126, lz126, uz126⟩ := hf ((b1 + 1)).toNat
    refine jx_sald c1 hm rfl ⟨by omega, by omega⟩ kz126 ?_
    refine jx_load c1 hm rfl rfl rfl rfl ?_
    refine jx_load c1 hm rfl rfl rfl rfl ?_
    refine jy_ic c1 hm rfl (by decide) ?_
    refine jy_add c1 hm (b1 + 2) rfl (by omega) ?_
    obtain ⟨z127, kz127, lz127, uz127⟩ := hf ((b1 + 2)).toNat
    refine jx_sald c1 hm rfl ⟨by omega, by omega⟩ kz127 ?_
    refine jv_i c3 hm rfl (plp pj_X12_cost rfl) rfl rfl ⟨_, _, _, rfl, sh_173⟩ rfl (((ct_X12_cost_173 (X + 8000 * b1) (by omega) M4 hH4 z126 ⟨by omega, by omega⟩ z127 ⟨by omega, by omega⟩).lki (by decide +kernel) rfl).le (by decide)) (fun z128 M129 ⟨⟨hH129, hR129, lz128, uz128⟩, hL129⟩ => ?_)
    refine jx_pop c1 hm rfl rfl ?_
    refine jx_goto c1 hm 1445 rfl rfl ?_
    refine jx_iinc c1 hm (v := (b1 + 6)) (L' := [some (.inr (.inr (.inr 0))), some (.inr (.inr (.inl 0))), some (.inr (.inr (.inl 173))), some (.inr (.inr (.inl 198))), some (.inl (b1 + 6)), o2, o3]) rfl rfl (by omega) (by omega) rfl ?_
    refine jx_goto c1 hm 23 rfl rfl ?_
    exact ihW14 (b1 + 6) (by omega) o2 ho2 o3 ho3 M129 (hH129.mono (by omega) (by omega)) k (by omega) (SOK.cg hs1 (fun j h1 h2 => (hR129 175 j rfl))) (KOK.cg hs2 (fun j h1 h2 => (hR129 177 j rfl))) (KOK.cg hs3 (fun j h1 h2 => (hR129 177 j rfl))) (TPQ.cg hs4 (hR129 0 2 rfl) (hR129 173 2 rfl)) (TBQ.cg hs5 (fun j => (hR129 2 j rfl)) (fun j => (hR129 174 j rfl))) (IMG.cg hs6 (fun j => (hR129 46 j rfl)) (fun j => (hR129 183 j rfl))) (HNQ.cg hs7 ⟨fun j _ => (hR129 6 j rfl), fun k _ => (hL129 7 k (by decide +kernel))⟩ ⟨fun j hj => (hR129 175 (0 + j) rfl), fun k _ => (hL129 180 (0 + k) (by decide +kernel))⟩) (IHQ.cg hs8 (fun j => (hR129 46 j rfl)) ⟨fun j _ => (hR129 138 j rfl), fun k _ => (hL129 139 k (by decide +kernel))⟩ ⟨fun j _ => (hR129 156 j rfl), fun k _ => (hL129 157 k (by decide +kernel))⟩ ⟨fun j hj => (hR129 177 (0 + j) rfl), fun k _ => (hL129 182 (0 + k) (by decide +kernel))⟩ ⟨fun j hj => (hR129 177 (476 + j) rfl), fun k _ => (hL129 182 (18 + k) (by decide +kernel))⟩) (FQ.cg hs9 (hR129 0 3 rfl) (hR129 173 10 rfl)) (by omega)
   by_cases h130 : z18 = 6
   ·
    refine jx_tswI c1 hm 425 rfl ⟨by omega, by omega⟩ (by rw [h130] <;> rfl) rfl ?_
    refine jx_load c1 hm rfl rfl rfl rfl ?_
    refine jx_load c1 hm rfl rfl rfl rfl ?_
    refine jx_load c1 hm rfl rfl rfl rfl ?_
    refine jy_ic c1 hm rfl (by decide) ?_
    refine jy_add c1 hm (b1 + 1) rfl (by omega) ?_
    obtain ⟨z131, kz131, lz131, uz131⟩ := hf ((b1 + 1)).toNat
    refine jx_sald c1 hm rfl ⟨by omega, by omega⟩ kz131 ?_
    refine jx_load c1 hm rfl rfl rfl rfl ?_
    refine jx_load c1 hm rfl rfl rfl rfl ?_
    refine jy_ic c1 hm rfl (by decide) ?_
    refine jy_add c1 hm (b1 + 2) rfl (by omega) ?_
    obtain ⟨z132, kz132, lz132, uz132⟩ := hf ((b1 + 2)).toNat
    refine jx_sald c1 hm rfl ⟨by omega, by omega⟩ kz132 ?_
    refine jv_i c3 hm rfl (plp pj_X11_times rfl) rfl rfl ⟨_, _, _, rfl, sh_0⟩ rfl ((ct_X11_times_0 (X + 8000 * b1) (by omega) M4 hH4 z131 ⟨by omega, by omega⟩ z132 ⟨by omega, by omega⟩).le (by decide)) (fun z133 _ ⟨rfl, lz133, uz133⟩ => ?_)
    refine jx_pop c1 hm rfl rfl ?_
    refine jx_load c1 hm rfl rfl rfl rfl ?_
    refine jx_load c1 hm rfl rfl rfl rfl ?_
    refine jx_load c1 hm rfl rfl rfl rfl ?_
    refine jy_ic c1 hm rfl (by decide) ?_
    refine jy_add c1 hm (b1 + 1) rfl (by omega) ?_
    obtain ⟨z134, kz134, lz134, uz134⟩ := hf ((b1 + 1)).toNat
    refine jx_sald c1 hm rfl ⟨by omega, by omega⟩ kz134 ?_
    refine jx_load c1 hm rfl rfl rfl rfl ?_
    refine jx_load c1 hm rfl rfl rfl rfl ?_
    refine jy_ic c1 hm rfl (by decide) ?_
    refine jy_add c1 hm (b1 + 2) rfl (by omega) ?_
    obtain ⟨z135, kz135, lz135, uz135⟩ := hf ((b1 + 2)).toNat
    refine jx_sald c1 hm rfl ⟨by omega, by omega⟩ kz135 ?_
    refine jv_i c3 hm rfl (plp pj_X12_times rfl) rfl rfl ⟨_, _, _, rfl, sh_173⟩ rfl (((ct_X12_times_173 (X + 8000 * b1) (by omega) M4 hH4 z134 ⟨by omega, by omega⟩ z135 ⟨by omega, by omega⟩).lki (by decide +kernel) rfl).le (by decide)) (fun z136 M137 ⟨⟨hH137, hR137, lz136, uz136⟩, hL137⟩ => ?_)
    refine jx_pop c1 hm rfl rfl ?_
    refine jx_goto c1 hm 1445 rfl rfl ?_
    refine jx_iinc c1 hm (v := (b1 + 6)) (L' := [some (.inr (.inr (.inr 0))), some (.inr (.inr (.inl 0))), some (.inr (.inr (.inl 173))), some (.inr (.inr (.inl 198))), some (.inl (b1 + 6)), o2, o3]) rfl rfl (by omega) (by omega) rfl ?_
    refine jx_goto c1 hm 23 rfl rfl ?_
    exact ihW14 (b1 + 6) (by omega) o2 ho2 o3 ho3 M137 (hH137.mono (by omega) (by omega)) k (by omega) (SOK.cg hs1 (fun j h1 h2 => (hR137 175 j rfl))) (KOK.cg hs2 (fun j h1 h2 => (hR137 177 j rfl))) (KOK.cg hs3 (fun j h1 h2 => (hR137 177 j rfl))) (TPQ.cg hs4 (hR137 0 2 rfl) (hR137 173 2 rfl)) (TBQ.cg hs5 (fun j => (hR137 2 j rfl)) (fun j => (hR137 174 j rfl))) (IMG.cg hs6 (fun j => (hR137 46 j rfl)) (fun j => (hR137 183 j rfl))) (HNQ.cg hs7 ⟨fun j _ => (hR137 6 j rfl), fun k _ => (hL137 7 k (by decide +kernel))⟩ ⟨fun j hj => (hR137 175 (0 + j) rfl), fun k _ => (hL137 180 (0 + k) (by decide +kernel))⟩) (IHQ.cg hs8 (fun j => (hR137 46 j rfl)) ⟨fun j _ => (hR137 138 j rfl), fun k _ => (hL137 139 k (by decide +kernel))⟩ ⟨fun j _ => (hR137 156 j rfl), fun k _ => (hL137 157 k (by decide +kernel))⟩ ⟨fun j hj => (hR137 177 (0 + j) rfl), fun k _ => (hL137 182 (0 + k) (by decide +kernel))⟩ ⟨fun j hj => (hR137 177 (476 + j) rfl), fun k _ => (hL137 182 (18 + k) (by decide +kernel))⟩) (FQ.cg hs9 (hR137 0 3 rfl) (hR137 173 10 rfl)) (by omega)
   by_cases h138 : z18 = 7
   ·
    refine jx_tswI c1 hm 462 rfl ⟨by omega, by omega⟩ (by rw [h138] <;> rfl) rfl ?_
    refine jx_load c1 hm rfl rfl rfl rfl ?_
    refine jx_load c1 hm rfl rfl rfl rfl ?_
    refine jx_load c1 hm rfl rfl rfl rfl ?_
    refine jy_ic c1 hm rfl (by decide) ?_
    refine jy_add c1 hm (b1 + 1) rfl (by omega) ?_
    obtain ⟨z139, kz139, lz139, uz139⟩ := hf ((b1 + 1)).toNat
    refine jx_sald c1 hm rfl ⟨by omega, by omega⟩ kz139 ?_
    refine jx_load c1 hm rfl rfl rfl rfl ?_
    refine jx_load c1 hm rfl rfl rfl rfl ?_
    refine jy_ic c1 hm rfl (by decide) ?_
    refine jy_add c1 hm (b1 + 2) rfl (by omega) ?_
    obtain ⟨z140, kz140, lz140, uz140⟩ := hf ((b1 + 2)).toNat
    refine jx_sald c1 hm rfl ⟨by omega, by omega⟩ kz140 ?_
    refine jv_i c3 hm rfl (plp pj_X11_bought rfl) rfl rfl ⟨_, _, _, rfl, sh_0⟩ rfl ((ct_X11_bought_0 (X + 8000 * b1) (by omega) M4 hH4 z139 ⟨by omega, by omega⟩ z140 ⟨by omega, by omega⟩).le (by decide)) (fun z141 _ ⟨rfl, lz141, uz141⟩ => ?_)
    refine jx_pop c1 hm rfl rfl ?_
    refine jx_load c1 hm rfl rfl rfl rfl ?_
    refine jx_load c1 hm rfl rfl rfl rfl ?_
    refine jx_load c1 hm rfl rfl rfl rfl ?_
    refine jy_ic c1 hm rfl (by decide) ?_
    refine jy_add c1 hm (b1 + 1) rfl (by omega) ?_
    obtain ⟨z142, kz142, lz142, uz142⟩ := hf ((b1 + 1)).toNat
    refine jx_sald c1 hm rfl ⟨by omega, by omega⟩ kz142 ?_
    refine jx_load c1 hm rfl rfl rfl rfl ?_
    refine jx_load c1 hm rfl rfl rfl rfl ?_
    refine jy_ic c1 hm rfl (by decide) ?_
    refine jy_add c1 hm (b1 + 2) rfl (by omega) ?_
    obtain ⟨z143, kz143, lz143, uz143⟩ := hf ((b1 + 2)).toNat
    refine jx_sald c1 hm rfl ⟨by omega, by omega⟩ kz143 ?_
    refine jv_i c3 hm rfl (plp pj_X12_bought rfl) rfl rfl ⟨_, _, _, rfl, sh_173⟩ rfl (((ct_X12_bought_173 (X + 8000 * b1) (by omega) M4 hH4 z142 ⟨by omega, by omega⟩ z143 ⟨by omega, by omega⟩).lki (by decide +kernel) rfl).le (by decide)) (fun z144 M145 ⟨⟨hH145, hR145, lz144, uz144⟩, hL145⟩ => ?_)
    refine jx_pop c1 hm rfl rfl ?_
    refine jx_goto c1 hm 1445 rfl rfl ?_
    refine jx_iinc c1 hm (v := (b1 + 6)) (L' := [some (.inr (.inr (.inr 0))), some (.inr (.inr (.inl 0))), some (.inr (.inr (.inl 173))), some (.inr (.inr (.inl 198))), some (.inl (b1 + 6)), o2, o3]) rfl rfl (by omega) (by omega) rfl ?_
    refine jx_goto c1 hm 23 rfl rfl ?_
    exact ihW14 (b1 + 6) (by omega) o2 ho2 o3 ho3 M145 (hH145.mono (by omega) (by omega)) k (by omega) (SOK.cg hs1 (fun j h1 h2 => (hR145 175 j rfl))) (KOK.cg hs2 (fun j h1 h2 => (hR145 177 j rfl))) (KOK.cg hs3 (fun j h1 h2 => (hR145 177 j rfl))) (TPQ.cg hs4 (hR145 0 2 rfl) (hR145 173 2 rfl)) (TBQ.cg hs5 (fun j => (hR145 2 j rfl)) (fun j => (hR145 174 j rfl))) (IMG.cg hs6 (fun j => (hR145 46 j rfl)) (fun j => (hR145 183 j rfl))) (HNQ.cg hs7 ⟨fun j _ => (hR145 6 j rfl), fun k _ => (hL145 7 k (by decide +kernel))⟩ ⟨fun j hj => (hR145 175 (0 + j) rfl), fun k _ => (hL145 180 (0 + k) (by decide +kernel))⟩) (IHQ.cg hs8 (fun j => (hR145 46 j rfl)) ⟨fun j _ => (hR145 138 j rfl), fun k _ => (hL145 139 k (by decide +kernel))⟩ ⟨fun j _ => (hR145 156 j rfl), fun k _ => (hL145 157 k (by decide +kernel))⟩ ⟨fun j hj => (hR145 177 (0 + j) rfl), fun k _ => (hL145 182 (0 + k) (by decide +kernel))⟩ ⟨fun j hj => (hR145 177 (476 + j) rfl), fun k _ => (hL145 182 (18 + k) (by decide +kernel))⟩) (FQ.cg hs9 (hR145 0 3 rfl) (hR145 173 10 rfl)) (by omega)
   by_cases h146 : z18 = 8
   ·
    refine jx_tswI c1 hm 499 rfl ⟨by omega, by omega⟩ (by rw [h146] <;> rfl) rfl ?_
    refine jx_load c1 hm rfl rfl rfl rfl ?_
    refine jx_load c1 hm rfl rfl rfl rfl ?_
    refine jx_load c1 hm rfl rfl rfl rfl ?_
    refine jy_ic c1 hm rfl (by decide) ?_
    refine jy_add c1 hm (b1 + 1) rfl (by omega) ?_
    obtain ⟨z147, kz147, lz147, uz147⟩ := hf ((b1 + 1)).toNat
    refine jx_sald c1 hm rfl ⟨by omega, by omega⟩ kz147 ?_
    refine jx_load c1 hm rfl rfl rfl rfl ?_
    refine jx_load c1 hm rfl rfl rfl rfl ?_
    refine jy_ic c1 hm rfl (by decide) ?_
    refine jy_add c1 hm (b1 + 2) rfl (by omega) ?_
    obtain ⟨z148, kz148, lz148, uz148⟩ := hf ((b1 + 2)).toNat
    refine jx_sald c1 hm rfl ⟨by omega, by omega⟩ kz148 ?_
    refine jv_i c3 hm rfl (plp pj_X11_good rfl) rfl rfl ⟨_, _, _, rfl, sh_0⟩ rfl ((ct_X11_good_0 (X + 8000 * b1) (by omega) M4 hH4 z147 ⟨by omega, by omega⟩ z148 ⟨by omega, by omega⟩).le (by decide)) (fun z149 _ ⟨rfl, lz149, uz149⟩ => ?_)
    refine jx_pop c1 hm rfl rfl ?_
    refine jx_load c1 hm rfl rfl rfl rfl ?_
    refine jx_load c1 hm rfl rfl rfl rfl ?_
    refine jx_load c1 hm rfl rfl rfl rfl ?_
    refine jy_ic c1 hm rfl (by decide) ?_
    refine jy_add c1 hm (b1 + 1) rfl (by omega) ?_
    obtain ⟨z150, kz150, lz150, uz150⟩ := hf ((b1 + 1)).toNat
    refine jx_sald c1 hm rfl ⟨by omega, by omega⟩ kz150 ?_
    refine jx_load c1 hm rfl rfl rfl rfl ?_
    refine jx_load c1 hm rfl rfl rfl rfl ?_
    refine jy_ic c1 hm rfl (by decide) ?_
    refine jy_add c1 hm (b1 + 2) rfl (by omega) ?_
    obtain ⟨z151, kz151, lz151, uz151⟩ := hf ((b1 + 2)).toNat
    refine jx_sald c1 hm rfl ⟨by omega, by omega⟩ kz151 ?_
    refine jv_i c3 hm rfl (plp pj_X12_good rfl) rfl rfl ⟨_, _, _, rfl, sh_173⟩ rfl (((ct_X12_good_173 (X + 8000 * b1) (by omega) M4 hH4 z150 ⟨by omega, by omega⟩ z151 ⟨by omega, by omega⟩).lki (by decide +kernel) rfl).le (by decide)) (fun z152 M153 ⟨⟨hH153, hR153, lz152, uz152⟩, hL153⟩ => ?_)
    refine jx_pop c1 hm rfl rfl ?_
    refine jx_goto c1 hm 1445 rfl rfl ?_
    refine jx_iinc c1 hm (v := (b1 + 6)) (L' := [some (.inr (.inr (.inr 0))), some (.inr (.inr (.inl 0))), some (.inr (.inr (.inl 173))), some (.inr (.inr (.inl 198))), some (.inl (b1 + 6)), o2, o3]) rfl rfl (by omega) (by omega) rfl ?_
    refine jx_goto c1 hm 23 rfl rfl ?_
    exact ihW14 (b1 + 6) (by omega) o2 ho2 o3 ho3 M153 (hH153.mono (by omega) (by omega)) k (by omega) (SOK.cg hs1 (fun j h1 h2 => (hR153 175 j rfl))) (KOK.cg hs2 (fun j h1 h2 => (hR153 177 j rfl))) (KOK.cg hs3 (fun j h1 h2 => (hR153 177 j rfl))) (TPQ.cg hs4 (hR153 0 2 rfl) (hR153 173 2 rfl)) (TBQ.cg hs5 (fun j => (hR153 2 j rfl)) (fun j => (hR153 174 j rfl))) (IMG.cg hs6 (fun j => (hR153 46 j rfl)) (fun j => (hR153 183 j rfl))) (HNQ.cg hs7 ⟨fun j _ => (hR153 6 j rfl), fun k _ => (hL153 7 k (by decide +kernel))⟩ ⟨fun j hj => (hR153 175 (0 + j) rfl), fun k _ => (hL153 180 (0 + k) (by decide +kernel))⟩) (IHQ.cg hs8 (fun j => (hR153 46 j rfl)) ⟨fun j _ => (hR153 138 j rfl), fun k _ => (hL153 139 k (by decide +kernel))⟩ ⟨fun j _ => (hR153 156 j rfl), fun k _ => (hL153 157 k (by decide +kernel))⟩ ⟨fun j hj => (hR153 177 (0 + j) rfl), fun k _ => (hL153 182 (0 + k) (by decide +kernel))⟩ ⟨fun j hj => (hR153 177 (476 + j) rfl), fun k _ => (hL153 182 (18 + k) (by decide +kernel))⟩) (FQ.cg hs9 (hR153 0 3 rfl) (hR153 173 10 rfl)) (by omega)
   by_cases h154 : z18 = 9
   ·
    refine jx_tswI c1 hm 536 rfl ⟨by omega, by omega⟩ (by rw [h154] <;> rfl) rfl ?_
    refine jx_load c1 hm rfl rfl rfl rfl ?_
    refine jx_load c1 hm rfl rfl rfl rfl ?_
    refine jx_load c1 hm rfl rfl rfl rfl ?_
    refine jy_ic c1 hm rfl (by decide) ?_
    refine jy_add c1 hm (b1 + 1) rfl (by omega) ?_
    obtain ⟨z155, kz155, lz155, uz155⟩ := hf ((b1 + 1)).toNat
    refine jx_sald c1 hm rfl ⟨by omega, by omega⟩ kz155 ?_
    refine jx_load c1 hm rfl rfl rfl rfl ?_
    refine jx_load c1 hm rfl rfl rfl rfl ?_
    refine jy_ic c1 hm rfl (by decide) ?_
    refine jy_add c1 hm (b1 + 2) rfl (by omega) ?_
    obtain ⟨z156, kz156, lz156, uz156⟩ := hf ((b1 + 2)).toNat
    refine jx_sald c1 hm rfl ⟨by omega, by omega⟩ kz156 ?_
    refine jv_i c3 hm rfl (plp pj_X11_owes rfl) rfl rfl ⟨_, _, _, rfl, sh_0⟩ rfl ((ct_X11_owes_0 (X + 8000 * b1) (by omega) M4 hH4 z155 ⟨by omega, by omega⟩ z156 ⟨by omega, by omega⟩).le (by decide)) (fun z157 _ ⟨rfl, lz157, uz157⟩ => ?_)
    refine jx_pop c1 hm rfl rfl ?_
    refine jx_load c1 hm rfl rfl rfl rfl ?_
    refine jx_load c1 hm rfl rfl rfl rfl ?_
    refine jx_load c1 hm rfl rfl rfl rfl ?_
    refine jy_ic c1 hm rfl (by decide) ?_
    refine jy_add c1 hm (b1 + 1) rfl (by omega) ?_
    obtain ⟨z158, kz158, lz158, uz158⟩ := hf ((b1 + 1)).toNat
    refine jx_sald c1 hm rfl ⟨by omega, by omega⟩ kz158 ?_
    refine jx_load c1 hm rfl rfl rfl rfl ?_
    refine jx_load c1 hm rfl rfl rfl rfl ?_
    refine jy_ic c1 hm rfl (by decide) ?_
    refine jy_add c1 hm (b1 + 2) rfl (by omega) ?_
    obtain ⟨z159, kz159, lz159, uz159⟩ := hf ((b1 + 2)).toNat
    refine jx_sald c1 hm rfl ⟨by omega, by omega⟩ kz159 ?_
    refine jv_i c3 hm rfl (plp pj_X12_owes rfl) rfl rfl ⟨_, _, _, rfl, sh_173⟩ rfl (((ct_X12_owes_173 (X + 8000 * b1) (by omega) M4 hH4 z158 ⟨by omega, by omega⟩ z159 ⟨by omega, by omega⟩).lki (by decide +kernel) rfl).le (by decide)) (fun z160 M161 ⟨⟨hH161, hR161, lz160, uz160⟩, hL161⟩ => ?_)
    refine jx_pop c1 hm rfl rfl ?_
    refine jx_goto c1 hm 1445 rfl rfl ?_
    refine jx_iinc c1 hm (v := (b1 + 6)) (L' := [some (.inr (.inr (.inr 0))), some (.inr (.inr (.inl 0))), some (.inr (.inr (.inl 173))), some (.inr (.inr (.inl 198))), some (.inl (b1 + 6)), o2, o3]) rfl rfl (by omega) (by omega) rfl ?_
    refine jx_goto c1 hm 23 rfl rfl ?_
    exact ihW14 (b1 + 6) (by omega) o2 ho2 o3 ho3 M161 (hH161.mono (by omega) (by omega)) k (by omega) (SOK.cg hs1 (fun j h1 h2 => (hR161 175 j rfl))) (KOK.cg hs2 (fun j h1 h2 => (hR161 177 j rfl))) (KOK.cg hs3 (fun j h1 h2 => (hR161 177 j rfl))) (TPQ.cg hs4 (hR161 0 2 rfl) (hR161 173 2 rfl)) (TBQ.cg hs5 (fun j => (hR161 2 j rfl)) (fun j => (hR161 174 j rfl))) (IMG.cg hs6 (fun j => (hR161 46 j rfl)) (fun j => (hR161 183 j rfl))) (HNQ.cg hs7 ⟨fun j _ => (hR161 6 j rfl), fun k _ => (hL161 7 k (by decide +kernel))⟩ ⟨fun j hj => (hR161 175 (0 + j) rfl), fun k _ => (hL161 180 (0 + k) (by decide +kernel))⟩) (IHQ.cg hs8 (fun j => (hR161 46 j rfl)) ⟨fun j _ => (hR161 138 j rfl), fun k _ => (hL161 139 k (by decide +kernel))⟩ ⟨fun j _ => (hR161 156 j rfl), fun k _ => (hL161 157 k (by decide +kernel))⟩ ⟨fun j hj => (hR161 177 (0 + j) rfl), fun k _ => (hL161 182 (0 + k) (by decide +kernel))⟩ ⟨fun j hj => (hR161 177 (476 + j) rfl), fun k _ => (hL161 182 (18 + k) (by decide +kernel))⟩) (FQ.cg hs9 (hR161 0 3 rfl) (hR161 173 10 rfl)) (by omega)
   by_cases h162 : z18 = 10
   ·
    refine jx_tswI c1 hm 573 rfl ⟨by omega, by omega⟩ (by rw [h162] <;> rfl) rfl ?_
    refine jx_load c1 hm rfl rfl rfl rfl ?_
    refine jx_load c1 hm rfl rfl rfl rfl ?_
    refine jx_load c1 hm rfl rfl rfl rfl ?_
    refine jy_ic c1 hm rfl (by decide) ?_
    refine jy_add c1 hm (b1 + 1) rfl (by omega) ?_
    obtain ⟨z163, kz163, lz163, uz163⟩ := hf ((b1 + 1)).toNat
    refine jx_sald c1 hm rfl ⟨by omega, by omega⟩ kz163 ?_
    refine jv_i c3 hm rfl (plp pj_X11_now rfl) rfl rfl ⟨_, _, _, rfl, sh_0⟩ rfl ((ct_X11_now_0 (X + 8000 * b1) (by omega) M4 hH4 z163 ⟨by omega, by omega⟩).le (by decide)) (fun z164 _ ⟨rfl, lz164, uz164⟩ => ?_)
    refine jx_pop c1 hm rfl rfl ?_
    refine jx_load c1 hm rfl rfl rfl rfl ?_
    refine jx_load c1 hm rfl rfl rfl rfl ?_
    refine jx_load c1 hm rfl rfl rfl rfl ?_
    refine jy_ic c1 hm rfl (by decide) ?_
    refine jy_add c1 hm (b1 + 1) rfl (by omega) ?_
    obtain ⟨z165, kz165, lz165, uz165⟩ := hf ((b1 + 1)).toNat
    refine jx_sald c1 hm rfl ⟨by omega, by omega⟩ kz165 ?_
    refine jv_i c3 hm rfl (plp pj_X12_now rfl) rfl rfl ⟨_, _, _, rfl, sh_173⟩ rfl (((ct_X12_now_173 (X + 8000 * b1) (by omega) M4 hH4 z165 ⟨by omega, by omega⟩).lki (by decide +kernel) rfl).le (by decide)) (fun z166 M167 ⟨⟨hH167, hR167, lz166, uz166⟩, hL167⟩ => ?_)
    refine jx_pop c1 hm rfl rfl ?_
    refine jx_goto c1 hm 1445 rfl rfl ?_
    refine jx_iinc c1 hm (v := (b1 + 6)) (L' := [some (.inr (.inr (.inr 0))), some (.inr (.inr (.inl 0))), some (.inr (.inr (.inl 173))), some (.inr (.inr (.inl 198))), some (.inl (b1 + 6)), o2, o3]) rfl rfl (by omega) (by omega) rfl ?_
    refine jx_goto c1 hm 23 rfl rfl ?_
    exact ihW14 (b1 + 6) (by omega) o2 ho2 o3 ho3 M167 (hH167.mono (by omega) (by omega)) k (by omega) (SOK.cg hs1 (fun j h1 h2 => (hR167 175 j rfl))) (KOK.cg hs2 (fun j h1 h2 => (hR167 177 j rfl))) (KOK.cg hs3 (fun j h1 h2 => (hR167 177 j rfl))) (TPQ.cg hs4 (hR167 0 2 rfl) (hR167 173 2 rfl)) (TBQ.cg hs5 (fun j => (hR167 2 j rfl)) (fun j => (hR167 174 j rfl))) (IMG.cg hs6 (fun j => (hR167 46 j rfl)) (fun j => (hR167 183 j rfl))) (HNQ.cg hs7 ⟨fun j _ => (hR167 6 j rfl), fun k _ => (hL167 7 k (by decide +kernel))⟩ ⟨fun j hj => (hR167 175 (0 + j) rfl), fun k _ => (hL167 180 (0 + k) (by decide +kernel))⟩) (IHQ.cg hs8 (fun j => (hR167 46 j rfl)) ⟨fun j _ => (hR167 138 j rfl), fun k _ => (hL167 139 k (by decide +kernel))⟩ ⟨fun j _ => (hR167 156 j rfl), fun k _ => (hL167 157 k (by decide +kernel))⟩ ⟨fun j hj => (hR167 177 (0 + j) rfl), fun k _ => (hL167 182 (0 + k) (by decide +kernel))⟩ ⟨fun j hj => (hR167 177 (476 + j) rfl), fun k _ => (hL167 182 (18 + k) (by decide +kernel))⟩) (FQ.cg hs9 (hR167 0 3 rfl) (hR167 173 10 rfl)) (by omega)
   by_cases h168 : z18 = 11
   ·
    refine jx_tswI c1 hm 598 rfl ⟨by omega, by omega⟩ (by rw [h168] <;> rfl) rfl ?_
    refine jx_load c1 hm rfl rfl rfl rfl ?_
    refine jx_load c1 hm rfl rfl rfl rfl ?_
    refine jx_load c1 hm rfl rfl rfl rfl ?_
    refine jy_ic c1 hm rfl (by decide) ?_
    refine jy_add c1 hm (b1 + 1) rfl (by omega) ?_
    obtain ⟨z169, kz169, lz169, uz169⟩ := hf ((b1 + 1)).toNat
    refine jx_sald c1 hm rfl ⟨by omega, by omega⟩ kz169 ?_
    refine jx_load c1 hm rfl rfl rfl rfl ?_
    refine jx_load c1 hm rfl rfl rfl rfl ?_
    refine jy_ic c1 hm rfl (by decide) ?_
    refine jy_add c1 hm (b1 + 2) rfl (by omega) ?_
    obtain ⟨z170, kz170, lz170, uz170⟩ := hf ((b1 + 2)).toNat
    refine jx_sald c1 hm rfl ⟨by omega, by omega⟩ kz170 ?_
    refine jv_i c3 hm rfl (plp pj_X11_forfeit rfl) rfl rfl ⟨_, _, _, rfl, sh_0⟩ rfl (((ct_X11_forfeit_0 (X + 8000 * b1) (by omega) M4 hH4 z169 ⟨by omega, by omega⟩ z170 ⟨by omega, by omega⟩).lki (by decide +kernel) rfl).le (by decide)) (fun z171 M172 ⟨⟨hH172, hR172, lz171, uz171⟩, hL172⟩ => ?_)
    refine jx_pop c1 hm rfl rfl ?_
    refine jx_load c1 hm rfl rfl rfl rfl ?_
    refine jx_load c1 hm rfl rfl rfl rfl ?_
    refine jx_load c1 hm rfl rfl rfl rfl ?_
    refine jy_ic c1 hm rfl (by decide) ?_
    refine jy_add c1 hm (b1 + 1) rfl (by omega) ?_
    obtain ⟨z173, kz173, lz173, uz173⟩ := hf ((b1 + 1)).toNat
    refine jx_sald c1 hm rfl ⟨by omega, by omega⟩ kz173 ?_
    refine jx_load c1 hm rfl rfl rfl rfl ?_
    refine jx_load c1 hm rfl rfl rfl rfl ?_
    refine jy_ic c1 hm rfl (by decide) ?_
    refine jy_add c1 hm (b1 + 2) rfl (by omega) ?_
    obtain ⟨z174, kz174, lz174, uz174⟩ := hf ((b1 + 2)).toNat
    refine jx_sald c1 hm rfl ⟨by omega, by omega⟩ kz174 ?_
    refine jv_i c3 hm rfl (plp pj_X12_forfeit rfl) rfl rfl ⟨_, _, _, rfl, sh_173⟩ rfl (((ct_X12_forfeit_173 (X + 8000 * b1 + 1) (by omega) M172 hH172 z173 ⟨by omega, by omega⟩ z174 ⟨by omega, by omega⟩).lki (by decide +kernel) rfl).le (by decide)) (fun z175 M176 ⟨⟨hH176, hR176, lz175, uz175⟩, hL176⟩ => ?_)
    rw [show X + 8000 * b1 + 1 + 1 = X + 8000 * b1 + 2 by omega] at hH176
    refine jx_pop c1 hm rfl rfl ?_
    refine jx_goto c1 hm 1445 rfl rfl ?_
    refine jx_iinc c1 hm (v := (b1 + 6)) (L' := [some (.inr (.inr (.inr 0))), some (.inr (.inr (.inl 0))), some (.inr (.inr (.inl 173))), some (.inr (.inr (.inl 198))), some (.inl (b1 + 6)), o2, o3]) rfl rfl (by omega) (by omega) rfl ?_
    refine jx_goto c1 hm 23 rfl rfl ?_
    exact ihW14 (b1 + 6) (by omega) o2 ho2 o3 ho3 M176 (hH176.mono (by omega) (by omega)) k (by omega) (SOK.cg hs1 (fun j h1 h2 => ((hR176 175 j (jin_hi (b := 234) (by decide +kernel) h1)).trans (hR172 175 j rfl)))) (KOK.cg hs2 (fun j h1 h2 => ((hR176 177 j rfl).trans (hR172 177 j rfl)))) (KOK.cg hs3 (fun j h1 h2 => ((hR176 177 j rfl).trans (hR172 177 j rfl)))) (TPQ.cg hs4 ((hR176 0 2 rfl).trans (hR172 0 2 rfl)) ((hR176 173 2 rfl).trans (hR172 173 2 rfl))) (TBQ.cg hs5 (fun j => ((hR176 2 j rfl).trans (hR172 2 j rfl))) (fun j => ((hR176 174 j rfl).trans (hR172 174 j rfl)))) (IMG.cg hs6 (fun j => ((hR176 46 j rfl).trans (hR172 46 j rfl))) (fun j => ((hR176 183 j rfl).trans (hR172 183 j rfl)))) (HNQ.cg hs7 ⟨fun j _ => ((hR176 6 j rfl).trans (hR172 6 j rfl)), fun k _ => ((hL176 7 k (by decide +kernel)).trans (hL172 7 k (by decide +kernel)))⟩ ⟨fun j hj => ((hR176 175 (0 + j) (jin_lo (b := 5) (by decide +kernel) (by omega))).trans (hR172 175 (0 + j) rfl)), fun k _ => ((hL176 180 (0 + k) (by decide +kernel)).trans (hL172 180 (0 + k) (by decide +kernel)))⟩) (IHQ.cg hs8 (fun j => ((hR176 46 j rfl).trans (hR172 46 j rfl))) ⟨fun j _ => ((hR176 138 j rfl).trans (hR172 138 j rfl)), fun k _ => ((hL176 139 k (by decide +kernel)).trans (hL172 139 k (by decide +kernel)))⟩ ⟨fun j _ => ((hR176 156 j rfl).trans (hR172 156 j rfl)), fun k _ => ((hL176 157 k (by decide +kernel)).trans (hL172 157 k (by decide +kernel)))⟩ ⟨fun j hj => ((hR176 177 (0 + j) rfl).trans (hR172 177 (0 + j) rfl)), fun k _ => ((hL176 182 (0 + k) (by decide +kernel)).trans (hL172 182 (0 + k) (by decide +kernel)))⟩ ⟨fun j hj => ((hR176 177 (476 + j) rfl).trans (hR172 177 (476 + j) rfl)), fun k _ => ((hL176 182 (18 + k) (by decide +kernel)).trans (hL172 182 (18 + k) (by decide +kernel)))⟩) (FQ.cg hs9 ((hR176 0 3 rfl).trans (hR172 0 3 rfl)) ((hR176 173 10 rfl).trans (hR172 173 10 rfl))) (by omega)
   by_cases h177 : z18 = 12
   ·
    refine jx_tswI c1 hm 635 rfl ⟨by omega, by omega⟩ (by rw [h177] <;> rfl) rfl ?_
    refine jx_load c1 hm rfl rfl rfl rfl ?_
    refine jx_load c1 hm rfl rfl rfl rfl ?_
    refine jx_load c1 hm rfl rfl rfl rfl ?_
    refine jy_ic c1 hm rfl (by decide) ?_
    refine jy_add c1 hm (b1 + 1) rfl (by omega) ?_
    obtain ⟨z178, kz178, lz178, uz178⟩ := hf ((b1 + 1)).toNat
    refine jx_sald c1 hm rfl ⟨by omega, by omega⟩ kz178 ?_
    refine jx_load c1 hm rfl rfl rfl rfl ?_
    refine jx_load c1 hm rfl rfl rfl rfl ?_
    refine jy_ic c1 hm rfl (by decide) ?_
    refine jy_add c1 hm (b1 + 2) rfl (by omega) ?_
    obtain ⟨z179, kz179, lz179, uz179⟩ := hf ((b1 + 2)).toNat
    refine jx_sald c1 hm rfl ⟨by omega, by omega⟩ kz179 ?_
    refine jv_i c3 hm rfl (plp pj_X11_buy rfl) rfl rfl ⟨_, _, _, rfl, sh_0⟩ rfl (((ct_X11_buy_0 (X + 8000 * b1) (by omega) M4 hH4 z178 ⟨by omega, by omega⟩ z179 ⟨by omega, by omega⟩).lki (by decide +kernel) rfl).le (by decide)) (fun z180 M181 ⟨⟨hH181, hR181, lz180, uz180⟩, hL181⟩ => ?_)
    refine jx_pop c1 hm rfl rfl ?_
    refine jx_load c1 hm rfl rfl rfl rfl ?_
    refine jx_load c1 hm rfl rfl rfl rfl ?_
    refine jx_load c1 hm rfl rfl rfl rfl ?_
    refine jy_ic c1 hm rfl (by decide) ?_
    refine jy_add c1 hm (b1 + 1) rfl (by omega) ?_
    obtain ⟨z182, kz182, lz182, uz182⟩ := hf ((b1 + 1)).toNat
    refine jx_sald c1 hm rfl ⟨by omega, by omega⟩ kz182 ?_
    refine jx_load c1 hm rfl rfl rfl rfl ?_
    refine jx_load c1 hm rfl rfl rfl rfl ?_
    refine jy_ic c1 hm rfl (by decide) ?_
    refine jy_add c1 hm (b1 + 2) rfl (by omega) ?_
    obtain ⟨z183, kz183, lz183, uz183⟩ := hf ((b1 + 2)).toNat
    refine jx_sald c1 hm rfl ⟨by omega, by omega⟩ kz183 ?_
    refine jv_i c3 hm rfl (plp pj_X12_buy rfl) rfl rfl ⟨_, _, _, rfl, sh_173⟩ rfl (((ct_X12_buy_173 (X + 8000 * b1 + 1) (by omega) M181 hH181 z182 ⟨by omega, by omega⟩ z183 ⟨by omega, by omega⟩).lki (by decide +kernel) rfl).le (by decide)) (fun z184 M185 ⟨⟨hH185, hR185, lz184, uz184⟩, hL185⟩ => ?_)
    rw [show X + 8000 * b1 + 1 + 1 = X + 8000 * b1 + 2 by omega] at hH185
    refine jx_pop c1 hm rfl rfl ?_
    refine jx_goto c1 hm 1445 rfl rfl ?_
    refine jx_iinc c1 hm (v := (b1 + 6)) (L' := [some (.inr (.inr (.inr 0))), some (.inr (.inr (.inl 0))), some (.inr (.inr (.inl 173))), some (.inr (.inr (.inl 198))), some (.inl (b1 + 6)), o2, o3]) rfl rfl (by omega) (by omega) rfl ?_
    refine jx_goto c1 hm 23 rfl rfl ?_
    exact ihW14 (b1 + 6) (by omega) o2 ho2 o3 ho3 M185 (hH185.mono (by omega) (by omega)) k (by omega) (SOK.cg hs1 (fun j h1 h2 => ((hR185 175 j (jin_hi (b := 234) (by decide +kernel) h1)).trans (hR181 175 j rfl)))) (KOK.cg hs2 (fun j h1 h2 => ((hR185 177 j rfl).trans (hR181 177 j rfl)))) (KOK.cg hs3 (fun j h1 h2 => ((hR185 177 j rfl).trans (hR181 177 j rfl)))) (TPQ.cg hs4 ((hR185 0 2 rfl).trans (hR181 0 2 rfl)) ((hR185 173 2 rfl).trans (hR181 173 2 rfl))) (TBQ.cg hs5 (fun j => ((hR185 2 j rfl).trans (hR181 2 j rfl))) (fun j => ((hR185 174 j rfl).trans (hR181 174 j rfl)))) (IMG.cg hs6 (fun j => ((hR185 46 j rfl).trans (hR181 46 j rfl))) (fun j => ((hR185 183 j rfl).trans (hR181 183 j rfl)))) (HNQ.cg hs7 ⟨fun j _ => ((hR185 6 j rfl).trans (hR181 6 j rfl)), fun k _ => ((hL185 7 k (by decide +kernel)).trans (hL181 7 k (by decide +kernel)))⟩ ⟨fun j hj => ((hR185 175 (0 + j) (jin_lo (b := 5) (by decide +kernel) (by omega))).trans (hR181 175 (0 + j) rfl)), fun k _ => ((hL185 180 (0 + k) (by decide +kernel)).trans (hL181 180 (0 + k) (by decide +kernel)))⟩) (IHQ.cg hs8 (fun j => ((hR185 46 j rfl).trans (hR181 46 j rfl))) ⟨fun j _ => ((hR185 138 j rfl).trans (hR181 138 j rfl)), fun k _ => ((hL185 139 k (by decide +kernel)).trans (hL181 139 k (by decide +kernel)))⟩ ⟨fun j _ => ((hR185 156 j rfl).trans (hR181 156 j rfl)), fun k _ => ((hL185 157 k (by decide +kernel)).trans (hL181 157 k (by decide +kernel)))⟩ ⟨fun j hj => ((hR185 177 (0 + j) rfl).trans (hR181 177 (0 + j) rfl)), fun k _ => ((hL185 182 (0 + k) (by decide +kernel)).trans (hL181 182 (0 + k) (by decide +kernel)))⟩ ⟨fun j hj => ((hR185 177 (476 + j) rfl).trans (hR181 177 (476 + j) rfl)), fun k _ => ((hL185 182 (18 + k) (by decide +kernel)).trans (hL181 182 (18 + k) (by decide +kernel)))⟩) (FQ.cg hs9 ((hR185 0 3 rfl).trans (hR181 0 3 rfl)) ((hR185 173 10 rfl).trans (hR181 173 10 rfl))) (by omega)
   by_cases h186 : z18 = 13
   ·
    refine jx_tswI c1 hm 672 rfl ⟨by omega, by omega⟩ (by rw [h186] <;> rfl) rfl ?_
    refine jx_load c1 hm rfl rfl rfl rfl ?_
    refine jx_load c1 hm rfl rfl rfl rfl ?_
    refine jx_load c1 hm rfl rfl rfl rfl ?_
    refine jy_ic c1 hm rfl (by decide) ?_
    refine jy_add c1 hm (b1 + 1) rfl (by omega) ?_
    obtain ⟨z187, kz187, lz187, uz187⟩ := hf ((b1 + 1)).toNat
    refine jx_sald c1 hm rfl ⟨by omega, by omega⟩ kz187 ?_
    refine jx_load c1 hm rfl rfl rfl rfl ?_
    refine jx_load c1 hm rfl rfl rfl rfl ?_
    refine jy_ic c1 hm rfl (by decide) ?_
    refine jy_add c1 hm (b1 + 2) rfl (by omega) ?_
    obtain ⟨z188, kz188, lz188, uz188⟩ := hf ((b1 + 2)).toNat
    refine jx_sald c1 hm rfl ⟨by omega, by omega⟩ kz188 ?_
    refine jx_load c1 hm rfl rfl rfl rfl ?_
    refine jx_load c1 hm rfl rfl rfl rfl ?_
    refine jy_ic c1 hm rfl (by decide) ?_
    refine jy_add c1 hm (b1 + 3) rfl (by omega) ?_
    obtain ⟨z189, kz189, lz189, uz189⟩ := hf ((b1 + 3)).toNat
    refine jx_sald c1 hm rfl ⟨by omega, by omega⟩ kz189 ?_
    refine jv_i c3 hm rfl (plp pj_X11_lend rfl) rfl rfl ⟨_, _, _, rfl, sh_0⟩ rfl (((ct_X11_lend_0 (X + 8000 * b1) (by omega) M4 hH4 z187 ⟨by omega, by omega⟩ z188 ⟨by omega, by omega⟩ z189 ⟨by omega, by omega⟩).lki (by decide +kernel) rfl).le (by decide)) (fun z190 M191 ⟨⟨hH191, hR191, lz190, uz190⟩, hL191⟩ => ?_)
    refine jx_pop c1 hm rfl rfl ?_
    refine jx_load c1 hm rfl rfl rfl rfl ?_
    refine jx_load c1 hm rfl rfl rfl rfl ?_
    refine jx_load c1 hm rfl rfl rfl rfl ?_
    refine jy_ic c1 hm rfl (by decide) ?_
    refine jy_add c1 hm (b1 + 1) rfl (by omega) ?_
    obtain ⟨z192, kz192, lz192, uz192⟩ := hf ((b1 + 1)).toNat
    refine jx_sald c1 hm rfl ⟨by omega, by omega⟩ kz192 ?_
    refine jx_load c1 hm rfl rfl rfl rfl ?_
    refine jx_load c1 hm rfl rfl rfl rfl ?_
    refine jy_ic c1 hm rfl (by decide) ?_
    refine jy_add c1 hm (b1 + 2) rfl (by omega) ?_
    obtain ⟨z193, kz193, lz193, uz193⟩ := hf ((b1 + 2)).toNat
    refine jx_sald c1 hm rfl ⟨by omega, by omega⟩ kz193 ?_
    refine jx_load c1 hm rfl rfl rfl rfl ?_
    refine jx_load c1 hm rfl rfl rfl rfl ?_
    refine jy_ic c1 hm rfl (by decide) ?_
    refine jy_add c1 hm (b1 + 3) rfl (by omega) ?_
    obtain ⟨z194, kz194, lz194, uz194⟩ := hf ((b1 + 3)).toNat
    refine jx_sald c1 hm rfl ⟨by omega, by omega⟩ kz194 ?_
    refine jv_i c3 hm rfl (plp pj_X12_lend rfl) rfl rfl ⟨_, _, _, rfl, sh_173⟩ rfl (((ct_X12_lend_173 (X + 8000 * b1 + 1) (by omega) M191 hH191 z192 ⟨by omega, by omega⟩ z193 ⟨by omega, by omega⟩ z194 ⟨by omega, by omega⟩).lki (by decide +kernel) rfl).le (by decide)) (fun z195 M196 ⟨⟨hH196, hR196, lz195, uz195⟩, hL196⟩ => ?_)
    rw [show X + 8000 * b1 + 1 + 1 = X + 8000 * b1 + 2 by omega] at hH196
    refine jx_pop c1 hm rfl rfl ?_
    refine jx_goto c1 hm 1445 rfl rfl ?_
    refine jx_iinc c1 hm (v := (b1 + 6)) (L' := [some (.inr (.inr (.inr 0))), some (.inr (.inr (.inl 0))), some (.inr (.inr (.inl 173))), some (.inr (.inr (.inl 198))), some (.inl (b1 + 6)), o2, o3]) rfl rfl (by omega) (by omega) rfl ?_
    refine jx_goto c1 hm 23 rfl rfl ?_
    exact ihW14 (b1 + 6) (by omega) o2 ho2 o3 ho3 M196 (hH196.mono (by omega) (by omega)) k (by omega) (SOK.cg hs1 (fun j h1 h2 => ((hR196 175 j (jin_hi (b := 234) (by decide +kernel) h1)).trans (hR191 175 j rfl)))) (KOK.cg hs2 (fun j h1 h2 => ((hR196 177 j rfl).trans (hR191 177 j rfl)))) (KOK.cg hs3 (fun j h1 h2 => ((hR196 177 j rfl).trans (hR191 177 j rfl)))) (TPQ.cg hs4 ((hR196 0 2 rfl).trans (hR191 0 2 rfl)) ((hR196 173 2 rfl).trans (hR191 173 2 rfl))) (TBQ.cg hs5 (fun j => ((hR196 2 j rfl).trans (hR191 2 j rfl))) (fun j => ((hR196 174 j rfl).trans (hR191 174 j rfl)))) (IMG.cg hs6 (fun j => ((hR196 46 j rfl).trans (hR191 46 j rfl))) (fun j => ((hR196 183 j rfl).trans (hR191 183 j rfl)))) (HNQ.cg hs7 ⟨fun j _ => ((hR196 6 j rfl).trans (hR191 6 j rfl)), fun k _ => ((hL196 7 k (by decide +kernel)).trans (hL191 7 k (by decide +kernel)))⟩ ⟨fun j hj => ((hR196 175 (0 + j) (jin_lo (b := 5) (by decide +kernel) (by omega))).trans (hR191 175 (0 + j) rfl)), fun k _ => ((hL196 180 (0 + k) (by decide +kernel)).trans (hL191 180 (0 + k) (by decide +kernel)))⟩) (IHQ.cg hs8 (fun j => ((hR196 46 j rfl).trans (hR191 46 j rfl))) ⟨fun j _ => ((hR196 138 j rfl).trans (hR191 138 j rfl)), fun k _ => ((hL196 139 k (by decide +kernel)).trans (hL191 139 k (by decide +kernel)))⟩ ⟨fun j _ => ((hR196 156 j rfl).trans (hR191 156 j rfl)), fun k _ => ((hL196 157 k (by decide +kernel)).trans (hL191 157 k (by decide +kernel)))⟩ ⟨fun j hj => ((hR196 177 (0 + j) rfl).trans (hR191 177 (0 + j) rfl)), fun k _ => ((hL196 182 (0 + k) (by decide +kernel)).trans (hL191 182 (0 + k) (by decide +kernel)))⟩ ⟨fun j hj => ((hR196 177 (476 + j) rfl).trans (hR191 177 (476 + j) rfl)), fun k _ => ((hL196 182 (18 + k) (by decide +kernel)).trans (hL191 182 (18 + k) (by decide +kernel)))⟩) (FQ.cg hs9 ((hR196 0 3 rfl).trans (hR191 0 3 rfl)) ((hR196 173 10 rfl).trans (hR191 173 10 rfl))) (by omega)
   by_cases h197 : z18 = 14
   ·
    refine jx_tswI c1 hm 721 rfl ⟨by omega, by omega⟩ (by rw [h197] <;> rfl) rfl ?_
    refine jx_load c1 hm rfl rfl rfl rfl ?_
    refine jx_load c1 hm rfl rfl rfl rfl ?_
    refine jx_load c1 hm rfl rfl rfl rfl ?_
    refine jy_ic c1 hm rfl (by decide) ?_
    refine jy_add c1 hm (b1 + 1) rfl (by omega) ?_
    obtain ⟨z198, kz198, lz198, uz198⟩ := hf ((b1 + 1)).toNat
    refine jx_sald c1 hm rfl ⟨by omega, by omega⟩ kz198 ?_
    refine jx_load c1 hm rfl rfl rfl rfl ?_
    refine jx_load c1 hm rfl rfl rfl rfl ?_
    refine jy_ic c1 hm rfl (by decide) ?_
    refine jy_add c1 hm (b1 + 2) rfl (by omega) ?_
    obtain ⟨z199, kz199, lz199, uz199⟩ := hf ((b1 + 2)).toNat
    refine jx_sald c1 hm rfl ⟨by omega, by omega⟩ kz199 ?_
    refine jx_load c1 hm rfl rfl rfl rfl ?_
    refine jx_load c1 hm rfl rfl rfl rfl ?_
    refine jy_ic c1 hm rfl (by decide) ?_
    refine jy_add c1 hm (b1 + 3) rfl (by omega) ?_
    obtain ⟨z200, kz200, lz200, uz200⟩ := hf ((b1 + 3)).toNat
    refine jx_sald c1 hm rfl ⟨by omega, by omega⟩ kz200 ?_
    refine jv_i c3 hm rfl (plp pj_X11_repay rfl) rfl rfl ⟨_, _, _, rfl, sh_0⟩ rfl (((ct_X11_repay_0 (X + 8000 * b1) (by omega) M4 hH4 z198 ⟨by omega, by omega⟩ z199 ⟨by omega, by omega⟩ z200 ⟨by omega, by omega⟩).lki (by decide +kernel) rfl).le (by decide)) (fun z201 M202 ⟨⟨hH202, hR202, lz201, uz201⟩, hL202⟩ => ?_)
    refine jx_pop c1 hm rfl rfl ?_
    refine jx_load c1 hm rfl rfl rfl rfl ?_
    refine jx_load c1 hm rfl rfl rfl rfl ?_
    refine jx_load c1 hm rfl rfl rfl rfl ?_
    refine jy_ic c1 hm rfl (by decide) ?_
    refine jy_add c1 hm (b1 + 1) rfl (by omega) ?_
    obtain ⟨z203, kz203, lz203, uz203⟩ := hf ((b1 + 1)).toNat
    refine jx_sald c1 hm rfl ⟨by omega, by omega⟩ kz203 ?_
    refine jx_load c1 hm rfl rfl rfl rfl ?_
    refine jx_load c1 hm rfl rfl rfl rfl ?_
    refine jy_ic c1 hm rfl (by decide) ?_
    refine jy_add c1 hm (b1 + 2) rfl (by omega) ?_
    obtain ⟨z204, kz204, lz204, uz204⟩ := hf ((b1 + 2)).toNat
    refine jx_sald c1 hm rfl ⟨by omega, by omega⟩ kz204 ?_
    refine jx_load c1 hm rfl rfl rfl rfl ?_
    refine jx_load c1 hm rfl rfl rfl rfl ?_
    refine jy_ic c1 hm rfl (by decide) ?_
    refine jy_add c1 hm (b1 + 3) rfl (by omega) ?_
    obtain ⟨z205, kz205, lz205, uz205⟩ := hf ((b1 + 3)).toNat
    refine jx_sald c1 hm rfl ⟨by omega, by omega⟩ kz205 ?_
    refine jv_i c3 hm rfl (plp pj_X12_repay rfl) rfl rfl ⟨_, _, _, rfl, sh_173⟩ rfl (((ct_X12_repay_173 (X + 8000 * b1 + 1) (by omega) M202 hH202 z203 ⟨by omega, by omega⟩ z204 ⟨by omega, by omega⟩ z205 ⟨by omega, by omega⟩).lki (by decide +kernel) rfl).le (by decide)) (fun z206 M207 ⟨⟨hH207, hR207, lz206, uz206⟩, hL207⟩ => ?_)
    rw [show X + 8000 * b1 + 1 + 1 = X + 8000 * b1 + 2 by omega] at hH207
    refine jx_pop c1 hm rfl rfl ?_
    refine jx_goto c1 hm 1445 rfl rfl ?_
    refine jx_iinc c1 hm (v := (b1 + 6)) (L' := [some (.inr (.inr (.inr 0))), some (.inr (.inr (.inl 0))), some (.inr (.inr (.inl 173))), some (.inr (.inr (.inl 198))), some (.inl (b1 + 6)), o2, o3]) rfl rfl (by omega) (by omega) rfl ?_
    refine jx_goto c1 hm 23 rfl rfl ?_
    exact ihW14 (b1 + 6) (by omega) o2 ho2 o3 ho3 M207 (hH207.mono (by omega) (by omega)) k (by omega) (SOK.cg hs1 (fun j h1 h2 => ((hR207 175 j (jin_hi (b := 234) (by decide +kernel) h1)).trans (hR202 175 j rfl)))) (KOK.cg hs2 (fun j h1 h2 => ((hR207 177 j rfl).trans (hR202 177 j rfl)))) (KOK.cg hs3 (fun j h1 h2 => ((hR207 177 j rfl).trans (hR202 177 j rfl)))) (TPQ.cg hs4 ((hR207 0 2 rfl).trans (hR202 0 2 rfl)) ((hR207 173 2 rfl).trans (hR202 173 2 rfl))) (TBQ.cg hs5 (fun j => ((hR207 2 j rfl).trans (hR202 2 j rfl))) (fun j => ((hR207 174 j rfl).trans (hR202 174 j rfl)))) (IMG.cg hs6 (fun j => ((hR207 46 j rfl).trans (hR202 46 j rfl))) (fun j => ((hR207 183 j rfl).trans (hR202 183 j rfl)))) (HNQ.cg hs7 ⟨fun j _ => ((hR207 6 j rfl).trans (hR202 6 j rfl)), fun k _ => ((hL207 7 k (by decide +kernel)).trans (hL202 7 k (by decide +kernel)))⟩ ⟨fun j hj => ((hR207 175 (0 + j) (jin_lo (b := 5) (by decide +kernel) (by omega))).trans (hR202 175 (0 + j) rfl)), fun k _ => ((hL207 180 (0 + k) (by decide +kernel)).trans (hL202 180 (0 + k) (by decide +kernel)))⟩) (IHQ.cg hs8 (fun j => ((hR207 46 j rfl).trans (hR202 46 j rfl))) ⟨fun j _ => ((hR207 138 j rfl).trans (hR202 138 j rfl)), fun k _ => ((hL207 139 k (by decide +kernel)).trans (hL202 139 k (by decide +kernel)))⟩ ⟨fun j _ => ((hR207 156 j rfl).trans (hR202 156 j rfl)), fun k _ => ((hL207 157 k (by decide +kernel)).trans (hL202 157 k (by decide +kernel)))⟩ ⟨fun j hj => ((hR207 177 (0 + j) rfl).trans (hR202 177 (0 + j) rfl)), fun k _ => ((hL207 182 (0 + k) (by decide +kernel)).trans (hL202 182 (0 + k) (by decide +kernel)))⟩ ⟨fun j hj => ((hR207 177 (476 + j) rfl).trans (hR202 177 (476 + j) rfl)), fun k _ => ((hL207 182 (18 + k) (by decide +kernel)).trans (hL202 182 (18 + k) (by decide +kernel)))⟩) (FQ.cg hs9 ((hR207 0 3 rfl).trans (hR202 0 3 rfl)) ((hR207 173 10 rfl).trans (hR202 173 10 rfl))) (by omega)
   by_cases h208 : z18 = 15
   ·
    refine jx_tswI c1 hm 770 rfl ⟨by omega, by omega⟩ (by rw [h208] <;> rfl) rfl ?_
    refine jx_load c1 hm rfl rfl rfl rfl ?_
    refine jv_i c3 hm rfl (plp pj_X11_strike rfl) rfl rfl ⟨_, _, _, rfl, sh_0⟩ rfl (((ct_X11_strike_0 (X + 8000 * b1) (by omega) M4 hH4 ).lki (by decide +kernel) rfl).le (by decide)) (fun z209 M210 ⟨⟨hH210, hR210, lz209, uz209⟩, hL210⟩ => ?_)
    refine jx_pop c1 hm rfl rfl ?_
    refine jx_load c1 hm rfl rfl rfl rfl ?_
    refine jv_i c3 hm rfl (plp pj_X12_strike rfl) rfl rfl ⟨_, _, _, rfl, sh_173⟩ rfl (((ct_X12_strike_173 (X + 8000 * b1 + 1) (by omega) M210 hH210 ).lki (by decide +kernel) rfl).le (by decide)) (fun z211 M212 ⟨⟨hH212, hR212, lz211, uz211⟩, hL212⟩ => ?_)
    refine jx_pop c1 hm rfl rfl ?_
    refine jx_goto c1 hm 1445 rfl rfl ?_
    refine jx_iinc c1 hm (v := (b1 + 6)) (L' := [some (.inr (.inr (.inr 0))), some (.inr (.inr (.inl 0))), some (.inr (.inr (.inl 173))), some (.inr (.inr (.inl 198))), some (.inl (b1 + 6)), o2, o3]) rfl rfl (by omega) (by omega) rfl ?_
    refine jx_goto c1 hm 23 rfl rfl ?_
    exact ihW14 (b1 + 6) (by omega) o2 ho2 o3 ho3 M212 (hH212.mono (by omega) (by omega)) k (by omega) (SOK.cg hs1 (fun j h1 h2 => ((hR212 175 j (jin_hi (b := 234) (by decide +kernel) h1)).trans (hR210 175 j rfl)))) (KOK.cg hs2 (fun j h1 h2 => ((hR212 177 j rfl).trans (hR210 177 j rfl)))) (KOK.cg hs3 (fun j h1 h2 => ((hR212 177 j rfl).trans (hR210 177 j rfl)))) (TPQ.cg hs4 ((hR212 0 2 rfl).trans (hR210 0 2 rfl)) ((hR212 173 2 rfl).trans (hR210 173 2 rfl))) (TBQ.cg hs5 (fun j => ((hR212 2 j rfl).trans (hR210 2 j rfl))) (fun j => ((hR212 174 j rfl).trans (hR210 174 j rfl)))) (IMG.cg hs6 (fun j => ((hR212 46 j rfl).trans (hR210 46 j rfl))) (fun j => ((hR212 183 j rfl).trans (hR210 183 j rfl)))) (HNQ.cg hs7 ⟨fun j _ => ((hR212 6 j rfl).trans (hR210 6 j rfl)), fun k _ => ((hL212 7 k (by decide +kernel)).trans (hL210 7 k (by decide +kernel)))⟩ ⟨fun j hj => ((hR212 175 (0 + j) (jin_lo (b := 5) (by decide +kernel) (by omega))).trans (hR210 175 (0 + j) rfl)), fun k _ => ((hL212 180 (0 + k) (by decide +kernel)).trans (hL210 180 (0 + k) (by decide +kernel)))⟩) (IHQ.cg hs8 (fun j => ((hR212 46 j rfl).trans (hR210 46 j rfl))) ⟨fun j _ => ((hR212 138 j rfl).trans (hR210 138 j rfl)), fun k _ => ((hL212 139 k (by decide +kernel)).trans (hL210 139 k (by decide +kernel)))⟩ ⟨fun j _ => ((hR212 156 j rfl).trans (hR210 156 j rfl)), fun k _ => ((hL212 157 k (by decide +kernel)).trans (hL210 157 k (by decide +kernel)))⟩ ⟨fun j hj => ((hR212 177 (0 + j) rfl).trans (hR210 177 (0 + j) rfl)), fun k _ => ((hL212 182 (0 + k) (by decide +kernel)).trans (hL210 182 (0 + k) (by decide +kernel)))⟩ ⟨fun j hj => ((hR212 177 (476 + j) rfl).trans (hR210 177 (476 + j) rfl)), fun k _ => ((hL212 182 (18 + k) (by decide +kernel)).trans (hL210 182 (18 + k) (by decide +kernel)))⟩) (FQ.cg hs9 ((hR212 0 3 rfl).trans (hR210 0 3 rfl)) ((hR212 173 10 rfl).trans (hR210 173 10 rfl))) (by omega)
   by_cases h213 : z18 = 16
   ·
    refine jx_tswI c1 hm 783 rfl ⟨by omega, by omega⟩ (by rw [h213] <;> rfl) rfl ?_
    refine jx_load c1 hm rfl rfl rfl rfl ?_
    refine jx_load c1 hm rfl rfl rfl rfl ?_
    refine jx_load c1 hm rfl rfl rfl rfl ?_
    refine jy_ic c1 hm rfl (by decide) ?_
    refine jy_add c1 hm (b1 + 1) rfl (by omega) ?_
    obtain ⟨z214, kz214, lz214, uz214⟩ := hf ((b1 + 1)).toNat
    refine jx_sald c1 hm rfl ⟨by omega, by omega⟩ kz214 ?_
    refine jv_i c3 hm rfl (plp pj_X11_weeks rfl) rfl rfl ⟨_, _, _, rfl, sh_0⟩ rfl (((ct_X11_weeks_0 (X + 8000 * b1) (by omega) M4 hH4 z214 ⟨by omega, by omega⟩).lki (by decide +kernel) rfl).le (by decide)) (fun z215 M216 ⟨⟨hH216, hR216, lz215, uz215⟩, hL216⟩ => ?_)
    refine jx_pop c1 hm rfl rfl ?_
    refine jx_load c1 hm rfl rfl rfl rfl ?_
    refine jx_load c1 hm rfl rfl rfl rfl ?_
    refine jx_load c1 hm rfl rfl rfl rfl ?_
    refine jy_ic c1 hm rfl (by decide) ?_
    refine jy_add c1 hm (b1 + 1) rfl (by omega) ?_
    obtain ⟨z217, kz217, lz217, uz217⟩ := hf ((b1 + 1)).toNat
    refine jx_sald c1 hm rfl ⟨by omega, by omega⟩ kz217 ?_
    refine jv_i c3 hm rfl (plp pj_X12_weeks rfl) rfl rfl ⟨_, _, _, rfl, sh_173⟩ rfl (((ct_X12_weeks_173 (X + 8000 * b1 + 1) (by omega) M216 hH216 z217 ⟨by omega, by omega⟩).lki (by decide +kernel) rfl).le (by decide)) (fun z218 M219 ⟨⟨hH219, hR219, lz218, uz218⟩, hL219⟩ => ?_)
    refine jx_pop c1 hm rfl rfl ?_
    refine jx_goto c1 hm 1445 rfl rfl ?_
    refine jx_iinc c1 hm (v := (b1 + 6)) (L' := [some (.inr (.inr (.inr 0))), some (.inr (.inr (.inl 0))), some (.inr (.inr (.inl 173))), some (.inr (.inr (.inl 198))), some (.inl (b1 + 6)), o2, o3]) rfl rfl (by omega) (by omega) rfl ?_
    refine jx_goto c1 hm 23 rfl rfl ?_
    exact ihW14 (b1 + 6) (by omega) o2 ho2 o3 ho3 M219 (hH219.mono (by omega) (by omega)) k (by omega) (SOK.cg hs1 (fun j h1 h2 => ((hR219 175 j (jin_hi (b := 234) (by decide +kernel) h1)).trans (hR216 175 j rfl)))) (KOK.cg hs2 (fun j h1 h2 => ((hR219 177 j rfl).trans (hR216 177 j rfl)))) (KOK.cg hs3 (fun j h1 h2 => ((hR219 177 j rfl).trans (hR216 177 j rfl)))) (TPQ.cg hs4 ((hR219 0 2 rfl).trans (hR216 0 2 rfl)) ((hR219 173 2 rfl).trans (hR216 173 2 rfl))) (TBQ.cg hs5 (fun j => ((hR219 2 j rfl).trans (hR216 2 j rfl))) (fun j => ((hR219 174 j rfl).trans (hR216 174 j rfl)))) (IMG.cg hs6 (fun j => ((hR219 46 j rfl).trans (hR216 46 j rfl))) (fun j => ((hR219 183 j rfl).trans (hR216 183 j rfl)))) (HNQ.cg hs7 ⟨fun j _ => ((hR219 6 j rfl).trans (hR216 6 j rfl)), fun k _ => ((hL219 7 k (by decide +kernel)).trans (hL216 7 k (by decide +kernel)))⟩ ⟨fun j hj => ((hR219 175 (0 + j) (jin_lo (b := 5) (by decide +kernel) (by omega))).trans (hR216 175 (0 + j) rfl)), fun k _ => ((hL219 180 (0 + k) (by decide +kernel)).trans (hL216 180 (0 + k) (by decide +kernel)))⟩) (IHQ.cg hs8 (fun j => ((hR219 46 j rfl).trans (hR216 46 j rfl))) ⟨fun j _ => ((hR219 138 j rfl).trans (hR216 138 j rfl)), fun k _ => ((hL219 139 k (by decide +kernel)).trans (hL216 139 k (by decide +kernel)))⟩ ⟨fun j _ => ((hR219 156 j rfl).trans (hR216 156 j rfl)), fun k _ => ((hL219 157 k (by decide +kernel)).trans (hL216 157 k (by decide +kernel)))⟩ ⟨fun j hj => ((hR219 177 (0 + j) rfl).trans (hR216 177 (0 + j) rfl)), fun k _ => ((hL219 182 (0 + k) (by decide +kernel)).trans (hL216 182 (0 + k) (by decide +kernel)))⟩ ⟨fun j hj => ((hR219 177 (476 + j) rfl).trans (hR216 177 (476 + j) rfl)), fun k _ => ((hL219 182 (18 + k) (by decide +kernel)).trans (hL216 182 (18 + k) (by decide +kernel)))⟩) (FQ.cg hs9 ((hR219 0 3 rfl).trans (hR216 0 3 rfl)) ((hR219 173 10 rfl).trans (hR216 173 10 rfl))) (by omega)
   by_cases h220 : z18 = 17
   ·
    refine jx_tswI c1 hm 808 rfl ⟨by omega, by omega⟩ (by rw [h220] <;> rfl) rfl ?_
    refine jx_load c1 hm rfl rfl rfl rfl ?_
    refine jv_i c3 hm rfl (plp pj_X11_undo rfl) rfl rfl ⟨_, _, _, rfl, sh_0⟩ rfl (((ct_X11_undo_0 (X + 8000 * b1) (by omega) M4 hH4 ).lki (by decide +kernel) rfl).le (by decide)) (fun z221 M222 ⟨⟨hH222, hR222, lz221, uz221⟩, hL222⟩ => ?_)
    refine jx_pop c1 hm rfl rfl ?_
    refine jx_load c1 hm rfl rfl rfl rfl ?_
    refine jv_i c3 hm rfl (plp pj_X12_undo rfl) rfl rfl ⟨_, _, _, rfl, sh_173⟩ rfl (((ct_X12_undo_173 (X + 8000 * b1) (by omega) M222 hH222 ).lki (by decide +kernel) rfl).le (by decide)) (fun z223 M224 ⟨⟨hH224, hR224, lz223, uz223⟩, hL224⟩ => ?_)
    refine jx_pop c1 hm rfl rfl ?_
    refine jx_goto c1 hm 1445 rfl rfl ?_
    refine jx_iinc c1 hm (v := (b1 + 6)) (L' := [some (.inr (.inr (.inr 0))), some (.inr (.inr (.inl 0))), some (.inr (.inr (.inl 173))), some (.inr (.inr (.inl 198))), some (.inl (b1 + 6)), o2, o3]) rfl rfl (by omega) (by omega) rfl ?_
    refine jx_goto c1 hm 23 rfl rfl ?_
    exact ihW14 (b1 + 6) (by omega) o2 ho2 o3 ho3 M224 (hH224.mono (by omega) (by omega)) k (by omega) (SOK.cg hs1 (fun j h1 h2 => ((hR224 175 j (jin_hi (b := 234) (by decide +kernel) h1)).trans (hR222 175 j rfl)))) (KOK.cg hs2 (fun j h1 h2 => ((hR224 177 j rfl).trans (hR222 177 j rfl)))) (KOK.cg hs3 (fun j h1 h2 => ((hR224 177 j rfl).trans (hR222 177 j rfl)))) (TPQ.cg hs4 ((hR224 0 2 rfl).trans (hR222 0 2 rfl)) ((hR224 173 2 rfl).trans (hR222 173 2 rfl))) (TBQ.cg hs5 (fun j => ((hR224 2 j rfl).trans (hR222 2 j rfl))) (fun j => ((hR224 174 j rfl).trans (hR222 174 j rfl)))) (IMG.cg hs6 (fun j => ((hR224 46 j rfl).trans (hR222 46 j rfl))) (fun j => ((hR224 183 j rfl).trans (hR222 183 j rfl)))) (HNQ.cg hs7 ⟨fun j _ => ((hR224 6 j rfl).trans (hR222 6 j rfl)), fun k _ => ((hL224 7 k (by decide +kernel)).trans (hL222 7 k (by decide +kernel)))⟩ ⟨fun j hj => ((hR224 175 (0 + j) (jin_lo (b := 5) (by decide +kernel) (by omega))).trans (hR222 175 (0 + j) rfl)), fun k _ => ((hL224 180 (0 + k) (by decide +kernel)).trans (hL222 180 (0 + k) (by decide +kernel)))⟩) (IHQ.cg hs8 (fun j => ((hR224 46 j rfl).trans (hR222 46 j rfl))) ⟨fun j _ => ((hR224 138 j rfl).trans (hR222 138 j rfl)), fun k _ => ((hL224 139 k (by decide +kernel)).trans (hL222 139 k (by decide +kernel)))⟩ ⟨fun j _ => ((hR224 156 j rfl).trans (hR222 156 j rfl)), fun k _ => ((hL224 157 k (by decide +kernel)).trans (hL222 157 k (by decide +kernel)))⟩ ⟨fun j hj => ((hR224 177 (0 + j) rfl).trans (hR222 177 (0 + j) rfl)), fun k _ => ((hL224 182 (0 + k) (by decide +kernel)).trans (hL222 182 (0 + k) (by decide +kernel)))⟩ ⟨fun j hj => ((hR224 177 (476 + j) rfl).trans (hR222 177 (476 + j) rfl)), fun k _ => ((hL224 182 (18 + k) (by decide +kernel)).trans (hL222 182 (18 + k) (by decide +kernel)))⟩) (FQ.cg hs9 ((hR224 0 3 rfl).trans (hR222 0 3 rfl)) ((hR224 173 10 rfl).trans (hR222 173 10 rfl))) (by omega)
   by_cases h225 : z18 = 18
   ·
    refine jx_tswI c1 hm 821 rfl ⟨by omega, by omega⟩ (by rw [h225] <;> rfl) rfl ?_
    refine jx_load c1 hm rfl rfl rfl rfl ?_
    refine jv_i c3 hm rfl (plp pj_X11_ring rfl) rfl rfl ⟨_, _, _, rfl, sh_0⟩ rfl (((ct_X11_ring_0 (X + 8000 * b1) (by omega) M4 hH4 ).lki (by decide +kernel) rfl).le (by decide)) (fun z226 M227 ⟨⟨hH227, hR227, lz226, uz226⟩, hL227⟩ => ?_)
    refine jx_pop c1 hm rfl rfl ?_
    refine jx_load c1 hm rfl rfl rfl rfl ?_
    refine jv_i c3 hm rfl (plp pj_X12_ring rfl) rfl rfl ⟨_, _, _, rfl, sh_173⟩ rfl (((ct_X12_ring_173 (X + 8000 * b1) (by omega) M227 hH227 ).lki (by decide +kernel) rfl).le (by decide)) (fun z228 M229 ⟨⟨hH229, hR229, lz228, uz228⟩, hL229⟩ => ?_)
    refine jx_pop c1 hm rfl rfl ?_
    refine jx_goto c1 hm 1445 rfl rfl ?_
    refine jx_iinc c1 hm (v := (b1 + 6)) (L' := [some (.inr (.inr (.inr 0))), some (.inr (.inr (.inl 0))), some (.inr (.inr (.inl 173))), some (.inr (.inr (.inl 198))), some (.inl (b1 + 6)), o2, o3]) rfl rfl (by omega) (by omega) rfl ?_
    refine jx_goto c1 hm 23 rfl rfl ?_
    exact ihW14 (b1 + 6) (by omega) o2 ho2 o3 ho3 M229 (hH229.mono (by omega) (by omega)) k (by omega) (SOK.cg hs1 (fun j h1 h2 => ((hR229 175 j rfl).trans (hR227 175 j rfl)))) (KOK.cg hs2 (fun j h1 h2 => ((hR229 177 j rfl).trans (hR227 177 j rfl)))) (KOK.cg hs3 (fun j h1 h2 => ((hR229 177 j rfl).trans (hR227 177 j rfl)))) (TPQ.cg hs4 ((hR229 0 2 rfl).trans (hR227 0 2 rfl)) ((hR229 173 2 rfl).trans (hR227 173 2 rfl))) (TBQ.cg hs5 (fun j => ((hR229 2 j rfl).trans (hR227 2 j rfl))) (fun j => ((hR229 174 j rfl).trans (hR227 174 j rfl)))) (IMG.cg hs6 (fun j => ((hR229 46 j rfl).trans (hR227 46 j rfl))) (fun j => ((hR229 183 j rfl).trans (hR227 183 j rfl)))) (HNQ.cg hs7 ⟨fun j _ => ((hR229 6 j rfl).trans (hR227 6 j rfl)), fun k _ => ((hL229 7 k (by decide +kernel)).trans (hL227 7 k (by decide +kernel)))⟩ ⟨fun j hj => ((hR229 175 (0 + j) rfl).trans (hR227 175 (0 + j) rfl)), fun k _ => ((hL229 180 (0 + k) (by decide +kernel)).trans (hL227 180 (0 + k) (by decide +kernel)))⟩) (IHQ.cg hs8 (fun j => ((hR229 46 j rfl).trans (hR227 46 j rfl))) ⟨fun j _ => ((hR229 138 j rfl).trans (hR227 138 j rfl)), fun k _ => ((hL229 139 k (by decide +kernel)).trans (hL227 139 k (by decide +kernel)))⟩ ⟨fun j _ => ((hR229 156 j rfl).trans (hR227 156 j rfl)), fun k _ => ((hL229 157 k (by decide +kernel)).trans (hL227 157 k (by decide +kernel)))⟩ ⟨fun j hj => ((hR229 177 (0 + j) rfl).trans (hR227 177 (0 + j) rfl)), fun k _ => ((hL229 182 (0 + k) (by decide +kernel)).trans (hL227 182 (0 + k) (by decide +kernel)))⟩ ⟨fun j hj => ((hR229 177 (476 + j) rfl).trans (hR227 177 (476 + j) rfl)), fun k _ => ((hL229 182 (18 + k) (by decide +kernel)).trans (hL227 182 (18 + k) (by decide +kernel)))⟩) (FQ.cg hs9 ((hR229 0 3 rfl).trans (hR227 0 3 rfl)) ((hR229 173 10 rfl).trans (hR227 173 10 rfl))) (by omega)
   by_cases h230 : z18 = 19
   ·
    refine jx_tswI c1 hm 834 rfl ⟨by omega, by omega⟩ (by rw [h230] <;> rfl) rfl ?_
    refine jx_load c1 hm rfl rfl rfl rfl ?_
    refine jx_load c1 hm rfl rfl rfl rfl ?_
    refine jx_load c1 hm rfl rfl rfl rfl ?_
    refine jy_ic c1 hm rfl (by decide) ?_
    refine jy_add c1 hm (b1 + 1) rfl (by omega) ?_
    obtain ⟨z231, kz231, lz231, uz231⟩ := hf ((b1 + 1)).toNat
    refine jx_sald c1 hm rfl ⟨by omega, by omega⟩ kz231 ?_
    refine jv_i c3 hm rfl (plp pj_X11_ringAt rfl) rfl rfl ⟨_, _, _, rfl, sh_0⟩ rfl ((ct_X11_ringAt_0 (X + 8000 * b1) (by omega) M4 hH4 z231 ⟨by omega, by omega⟩).le (by decide)) (fun z232 _ ⟨rfl, lz232, uz232⟩ => ?_)
    refine jx_pop c1 hm rfl rfl ?_
    refine jx_load c1 hm rfl rfl rfl rfl ?_
    refine jx_load c1 hm rfl rfl rfl rfl ?_
    refine jx_load c1 hm rfl rfl rfl rfl ?_
    refine jy_ic c1 hm rfl (by decide) ?_
    refine jy_add c1 hm (b1 + 1) rfl (by omega) ?_
    obtain ⟨z233, kz233, lz233, uz233⟩ := hf ((b1 + 1)).toNat
    refine jx_sald c1 hm rfl ⟨by omega, by omega⟩ kz233 ?_
    refine jv_i c3 hm rfl (plp pj_X12_ringAt rfl) rfl rfl ⟨_, _, _, rfl, sh_173⟩ rfl (((ct_X12_ringAt_173 (X + 8000 * b1) (by omega) M4 hH4 z233 ⟨by omega, by omega⟩).lki (by decide +kernel) rfl).le (by decide)) (fun z234 M235 ⟨⟨hH235, hR235, lz234, uz234⟩, hL235⟩ => ?_)
    refine jx_pop c1 hm rfl rfl ?_
    refine jx_goto c1 hm 1445 rfl rfl ?_
    refine jx_iinc c1 hm (v := (b1 + 6)) (L' := [some (.inr (.inr (.inr 0))), some (.inr (.inr (.inl 0))), some (.inr (.inr (.inl 173))), some (.inr (.inr (.inl 198))), some (.inl (b1 + 6)), o2, o3]) rfl rfl (by omega) (by omega) rfl ?_
    refine jx_goto c1 hm 23 rfl rfl ?_
    exact ihW14 (b1 + 6) (by omega) o2 ho2 o3 ho3 M235 (hH235.mono (by omega) (by omega)) k (by omega) (SOK.cg hs1 (fun j h1 h2 => (hR235 175 j rfl))) (KOK.cg hs2 (fun j h1 h2 => (hR235 177 j rfl))) (KOK.cg hs3 (fun j h1 h2 => (hR235 177 j rfl))) (TPQ.cg hs4 (hR235 0 2 rfl) (hR235 173 2 rfl)) (TBQ.cg hs5 (fun j => (hR235 2 j rfl)) (fun j => (hR235 174 j rfl))) (IMG.cg hs6 (fun j => (hR235 46 j rfl)) (fun j => (hR235 183 j rfl))) (HNQ.cg hs7 ⟨fun j _ => (hR235 6 j rfl), fun k _ => (hL235 7 k (by decide +kernel))⟩ ⟨fun j hj => (hR235 175 (0 + j) rfl), fun k _ => (hL235 180 (0 + k) (by decide +kernel))⟩) (IHQ.cg hs8 (fun j => (hR235 46 j rfl)) ⟨fun j _ => (hR235 138 j rfl), fun k _ => (hL235 139 k (by decide +kernel))⟩ ⟨fun j _ => (hR235 156 j rfl), fun k _ => (hL235 157 k (by decide +kernel))⟩ ⟨fun j hj => (hR235 177 (0 + j) rfl), fun k _ => (hL235 182 (0 + k) (by decide +kernel))⟩ ⟨fun j hj => (hR235 177 (476 + j) rfl), fun k _ => (hL235 182 (18 + k) (by decide +kernel))⟩) (FQ.cg hs9 (hR235 0 3 rfl) (hR235 173 10 rfl)) (by omega)
   by_cases h236 : z18 = 20
   ·
    refine jx_tswI c1 hm 859 rfl ⟨by omega, by omega⟩ (by rw [h236] <;> rfl) rfl ?_
    refine jx_load c1 hm rfl rfl rfl rfl ?_
    refine jx_load c1 hm rfl rfl rfl rfl ?_
    refine jx_load c1 hm rfl rfl rfl rfl ?_
    refine jy_ic c1 hm rfl (by decide) ?_
    refine jy_add c1 hm (b1 + 1) rfl (by omega) ?_
    obtain ⟨z237, kz237, lz237, uz237⟩ := hf ((b1 + 1)).toNat
    refine jx_sald c1 hm rfl ⟨by omega, by omega⟩ kz237 ?_
    refine jx_load c1 hm rfl rfl rfl rfl ?_
    refine jx_load c1 hm rfl rfl rfl rfl ?_
    refine jy_ic c1 hm rfl (by decide) ?_
    refine jy_add c1 hm (b1 + 2) rfl (by omega) ?_
    obtain ⟨z238, kz238, lz238, uz238⟩ := hf ((b1 + 2)).toNat
    refine jx_sald c1 hm rfl ⟨by omega, by omega⟩ kz238 ?_
    refine jv_i c3 hm rfl (plp pj_X11_plan rfl) rfl rfl ⟨_, _, _, rfl, sh_0⟩ rfl (((ct_X11_plan_0 (X + 8000 * b1) (by omega) M4 hH4 z237 ⟨by omega, by omega⟩ z238 ⟨by omega, by omega⟩).lki (by decide +kernel) rfl).le (by decide)) (fun z239 M240 ⟨⟨hH240, hR240, lz239, uz239⟩, hL240⟩ => ?_)
    refine jx_pop c1 hm rfl rfl ?_
    refine jx_load c1 hm rfl rfl rfl rfl ?_
    refine jx_load c1 hm rfl rfl rfl rfl ?_
    refine jx_load c1 hm rfl rfl rfl rfl ?_
    refine jy_ic c1 hm rfl (by decide) ?_
    refine jy_add c1 hm (b1 + 1) rfl (by omega) ?_
    obtain ⟨z241, kz241, lz241, uz241⟩ := hf ((b1 + 1)).toNat
    refine jx_sald c1 hm rfl ⟨by omega, by omega⟩ kz241 ?_
    refine jx_load c1 hm rfl rfl rfl rfl ?_
    refine jx_load c1 hm rfl rfl rfl rfl ?_
    refine jy_ic c1 hm rfl (by decide) ?_
    refine jy_add c1 hm (b1 + 2) rfl (by omega) ?_
    obtain ⟨z242, kz242, lz242, uz242⟩ := hf ((b1 + 2)).toNat
    refine jx_sald c1 hm rfl ⟨by omega, by omega⟩ kz242 ?_
    refine jv_i c3 hm rfl (plp pj_X12_plan rfl) rfl rfl ⟨_, _, _, rfl, sh_173⟩ rfl (((ct_X12_plan_173 (X + 8000 * b1) (by omega) M240 hH240 z241 ⟨by omega, by omega⟩ z242 ⟨by omega, by omega⟩).lki (by decide +kernel) rfl).le (by decide)) (fun z243 M244 ⟨⟨hH244, hR244, lz243, uz243⟩, hL244⟩ => ?_)
    refine jx_pop c1 hm rfl rfl ?_
    refine jx_goto c1 hm 1445 rfl rfl ?_
    refine jx_iinc c1 hm (v := (b1 + 6)) (L' := [some (.inr (.inr (.inr 0))), some (.inr (.inr (.inl 0))), some (.inr (.inr (.inl 173))), some (.inr (.inr (.inl 198))), some (.inl (b1 + 6)), o2, o3]) rfl rfl (by omega) (by omega) rfl ?_
    refine jx_goto c1 hm 23 rfl rfl ?_
    exact ihW14 (b1 + 6) (by omega) o2 ho2 o3 ho3 M244 (hH244.mono (by omega) (by omega)) k (by omega) (SOK.cg hs1 (fun j h1 h2 => ((hR244 175 j rfl).trans (hR240 175 j rfl)))) (KOK.cg hs2 (fun j h1 h2 => ((hR244 177 j rfl).trans (hR240 177 j rfl)))) (KOK.cg hs3 (fun j h1 h2 => ((hR244 177 j rfl).trans (hR240 177 j rfl)))) (TPQ.cg hs4 ((hR244 0 2 rfl).trans (hR240 0 2 rfl)) ((hR244 173 2 rfl).trans (hR240 173 2 rfl))) (TBQ.cg hs5 (fun j => ((hR244 2 j rfl).trans (hR240 2 j rfl))) (fun j => ((hR244 174 j rfl).trans (hR240 174 j rfl)))) (IMG.cg hs6 (fun j => ((hR244 46 j rfl).trans (hR240 46 j rfl))) (fun j => ((hR244 183 j rfl).trans (hR240 183 j rfl)))) (HNQ.cg hs7 ⟨fun j _ => ((hR244 6 j rfl).trans (hR240 6 j rfl)), fun k _ => ((hL244 7 k (by decide +kernel)).trans (hL240 7 k (by decide +kernel)))⟩ ⟨fun j hj => ((hR244 175 (0 + j) rfl).trans (hR240 175 (0 + j) rfl)), fun k _ => ((hL244 180 (0 + k) (by decide +kernel)).trans (hL240 180 (0 + k) (by decide +kernel)))⟩) (IHQ.cg hs8 (fun j => ((hR244 46 j rfl).trans (hR240 46 j rfl))) ⟨fun j _ => ((hR244 138 j rfl).trans (hR240 138 j rfl)), fun k _ => ((hL244 139 k (by decide +kernel)).trans (hL240 139 k (by decide +kernel)))⟩ ⟨fun j _ => ((hR244 156 j rfl).trans (hR240 156 j rfl)), fun k _ => ((hL244 157 k (by decide +kernel)).trans (hL240 157 k (by decide +kernel)))⟩ ⟨fun j hj => ((hR244 177 (0 + j) rfl).trans (hR240 177 (0 + j) rfl)), fun k _ => ((hL244 182 (0 + k) (by decide +kernel)).trans (hL240 182 (0 + k) (by decide +kernel)))⟩ ⟨fun j hj => ((hR244 177 (476 + j) rfl).trans (hR240 177 (476 + j) rfl)), fun k _ => ((hL244 182 (18 + k) (by decide +kernel)).trans (hL240 182 (18 + k) (by decide +kernel)))⟩) (FQ.cg hs9 ((hR244 0 3 rfl).trans (hR240 0 3 rfl)) ((hR244 173 10 rfl).trans (hR240 173 10 rfl))) (by omega)
   by_cases h245 : z18 = 21
   ·
    refine jx_tswI c1 hm 896 rfl ⟨by omega, by omega⟩ (by rw [h245] <;> rfl) rfl ?_
    refine jx_load c1 hm rfl rfl rfl rfl ?_
    refine jx_load c1 hm rfl rfl rfl rfl ?_
    refine jx_load c1 hm rfl rfl rfl rfl ?_
    refine jy_ic c1 hm rfl (by decide) ?_
    refine jy_add c1 hm (b1 + 1) rfl (by omega) ?_
    obtain ⟨z246, kz246, lz246, uz246⟩ := hf ((b1 + 1)).toNat
    refine jx_sald c1 hm rfl ⟨by omega, by omega⟩ kz246 ?_
    refine jv_i c3 hm rfl (plp pj_X11_planned rfl) rfl rfl ⟨_, _, _, rfl, sh_0⟩ rfl ((ct_X11_planned_0 (X + 8000 * b1) (by omega) M4 hH4 z246 ⟨by omega, by omega⟩).le (by decide)) (fun z247 _ ⟨rfl, lz247, uz247⟩ => ?_)
    refine jx_pop c1 hm rfl rfl ?_
    refine jx_load c1 hm rfl rfl rfl rfl ?_
    refine jx_load c1 hm rfl rfl rfl rfl ?_
    refine jx_load c1 hm rfl rfl rfl rfl ?_
    refine jy_ic c1 hm rfl (by decide) ?_
    refine jy_add c1 hm (b1 + 1) rfl (by omega) ?_
    obtain ⟨z248, kz248, lz248, uz248⟩ := hf ((b1 + 1)).toNat
    refine jx_sald c1 hm rfl ⟨by omega, by omega⟩ kz248 ?_
    refine jv_i c3 hm rfl (plp pj_X12_planned rfl) rfl rfl ⟨_, _, _, rfl, sh_173⟩ rfl (((ct_X12_planned_173 (X + 8000 * b1) (by omega) M4 hH4 z248 ⟨by omega, by omega⟩).lki (by decide +kernel) rfl).le (by decide)) (fun z249 M250 ⟨⟨hH250, hR250, lz249, uz249⟩, hL250⟩ => ?_)
    refine jx_pop c1 hm rfl rfl ?_
    refine jx_goto c1 hm 1445 rfl rfl ?_
    refine jx_iinc c1 hm (v := (b1 + 6)) (L' := [some (.inr (.inr (.inr 0))), some (.inr (.inr (.inl 0))), some (.inr (.inr (.inl 173))), some (.inr (.inr (.inl 198))), some (.inl (b1 + 6)), o2, o3]) rfl rfl (by omega) (by omega) rfl ?_
    refine jx_goto c1 hm 23 rfl rfl ?_
    exact ihW14 (b1 + 6) (by omega) o2 ho2 o3 ho3 M250 (hH250.mono (by omega) (by omega)) k (by omega) (SOK.cg hs1 (fun j h1 h2 => (hR250 175 j rfl))) (KOK.cg hs2 (fun j h1 h2 => (hR250 177 j rfl))) (KOK.cg hs3 (fun j h1 h2 => (hR250 177 j rfl))) (TPQ.cg hs4 (hR250 0 2 rfl) (hR250 173 2 rfl)) (TBQ.cg hs5 (fun j => (hR250 2 j rfl)) (fun j => (hR250 174 j rfl))) (IMG.cg hs6 (fun j => (hR250 46 j rfl)) (fun j => (hR250 183 j rfl))) (HNQ.cg hs7 ⟨fun j _ => (hR250 6 j rfl), fun k _ => (hL250 7 k (by decide +kernel))⟩ ⟨fun j hj => (hR250 175 (0 + j) rfl), fun k _ => (hL250 180 (0 + k) (by decide +kernel))⟩) (IHQ.cg hs8 (fun j => (hR250 46 j rfl)) ⟨fun j _ => (hR250 138 j rfl), fun k _ => (hL250 139 k (by decide +kernel))⟩ ⟨fun j _ => (hR250 156 j rfl), fun k _ => (hL250 157 k (by decide +kernel))⟩ ⟨fun j hj => (hR250 177 (0 + j) rfl), fun k _ => (hL250 182 (0 + k) (by decide +kernel))⟩ ⟨fun j hj => (hR250 177 (476 + j) rfl), fun k _ => (hL250 182 (18 + k) (by decide +kernel))⟩) (FQ.cg hs9 (hR250 0 3 rfl) (hR250 173 10 rfl)) (by omega)
   by_cases h251 : z18 = 22
   ·
    refine jx_tswI c1 hm 921 rfl ⟨by omega, by omega⟩ (by rw [h251] <;> rfl) rfl ?_
    refine jx_load c1 hm rfl rfl rfl rfl ?_
    refine jx_load c1 hm rfl rfl rfl rfl ?_
    refine jx_load c1 hm rfl rfl rfl rfl ?_
    refine jy_ic c1 hm rfl (by decide) ?_
    refine jy_add c1 hm (b1 + 1) rfl (by omega) ?_
    obtain ⟨z252, kz252, lz252, uz252⟩ := hf ((b1 + 1)).toNat
    refine jx_sald c1 hm rfl ⟨by omega, by omega⟩ kz252 ?_
    refine jx_load c1 hm rfl rfl rfl rfl ?_
    refine jx_load c1 hm rfl rfl rfl rfl ?_
    refine jy_ic c1 hm rfl (by decide) ?_
    refine jy_add c1 hm (b1 + 2) rfl (by omega) ?_
    obtain ⟨z253, kz253, lz253, uz253⟩ := hf ((b1 + 2)).toNat
    refine jx_sald c1 hm rfl ⟨by omega, by omega⟩ kz253 ?_
    refine jv_i c3 hm rfl (plp pj_X11_lasts rfl) rfl rfl ⟨_, _, _, rfl, sh_0⟩ rfl ((ct_X11_lasts_0 (X + 8000 * b1) (by omega) M4 hH4 z252 ⟨by omega, by omega⟩ z253 ⟨by omega, by omega⟩).le (by decide)) (fun z254 _ ⟨rfl, lz254, uz254⟩ => ?_)
    refine jx_pop c1 hm rfl rfl ?_
    refine jx_load c1 hm rfl rfl rfl rfl ?_
    refine jx_load c1 hm rfl rfl rfl rfl ?_
    refine jx_load c1 hm rfl rfl rfl rfl ?_
    refine jy_ic c1 hm rfl (by decide) ?_
    refine jy_add c1 hm (b1 + 1) rfl (by omega) ?_
    obtain ⟨z255, kz255, lz255, uz255⟩ := hf ((b1 + 1)).toNat
    refine jx_sald c1 hm rfl ⟨by omega, by omega⟩ kz255 ?_
    refine jx_load c1 hm rfl rfl rfl rfl ?_
    refine jx_load c1 hm rfl rfl rfl rfl ?_
    refine jy_ic c1 hm rfl (by decide) ?_
    refine jy_add c1 hm (b1 + 2) rfl (by omega) ?_
    obtain ⟨z256, kz256, lz256, uz256⟩ := hf ((b1 + 2)).toNat
    refine jx_sald c1 hm rfl ⟨by omega, by omega⟩ kz256 ?_
    refine jv_i c3 hm rfl (plp pj_X12_lasts rfl) rfl rfl ⟨_, _, _, rfl, sh_173⟩ rfl (((ct_X12_lasts_173 (X + 8000 * b1) (by omega) M4 hH4 z255 ⟨by omega, by omega⟩ z256 ⟨by omega, by omega⟩).lki (by decide +kernel) rfl).le (by decide)) (fun z257 M258 ⟨⟨hH258, hR258, lz257, uz257⟩, hL258⟩ => ?_)
    refine jx_pop c1 hm rfl rfl ?_
    refine jx_goto c1 hm 1445 rfl rfl ?_
    refine jx_iinc c1 hm (v := (b1 + 6)) (L' := [some (.inr (.inr (.inr 0))), some (.inr (.inr (.inl 0))), some (.inr (.inr (.inl 173))), some (.inr (.inr (.inl 198))), some (.inl (b1 + 6)), o2, o3]) rfl rfl (by omega) (by omega) rfl ?_
    refine jx_goto c1 hm 23 rfl rfl ?_
    exact ihW14 (b1 + 6) (by omega) o2 ho2 o3 ho3 M258 (hH258.mono (by omega) (by omega)) k (by omega) (SOK.cg hs1 (fun j h1 h2 => (hR258 175 j rfl))) (KOK.cg hs2 (fun j h1 h2 => (hR258 177 j rfl))) (KOK.cg hs3 (fun j h1 h2 => (hR258 177 j rfl))) (TPQ.cg hs4 (hR258 0 2 rfl) (hR258 173 2 rfl)) (TBQ.cg hs5 (fun j => (hR258 2 j rfl)) (fun j => (hR258 174 j rfl))) (IMG.cg hs6 (fun j => (hR258 46 j rfl)) (fun j => (hR258 183 j rfl))) (HNQ.cg hs7 ⟨fun j _ => (hR258 6 j rfl), fun k _ => (hL258 7 k (by decide +kernel))⟩ ⟨fun j hj => (hR258 175 (0 + j) rfl), fun k _ => (hL258 180 (0 + k) (by decide +kernel))⟩) (IHQ.cg hs8 (fun j => (hR258 46 j rfl)) ⟨fun j _ => (hR258 138 j rfl), fun k _ => (hL258 139 k (by decide +kernel))⟩ ⟨fun j _ => (hR258 156 j rfl), fun k _ => (hL258 157 k (by decide +kernel))⟩ ⟨fun j hj => (hR258 177 (0 + j) rfl), fun k _ => (hL258 182 (0 + k) (by decide +kernel))⟩ ⟨fun j hj => (hR258 177 (476 + j) rfl), fun k _ => (hL258 182 (18 + k) (by decide +kernel))⟩) (FQ.cg hs9 (hR258 0 3 rfl) (hR258 173 10 rfl)) (by omega)
   by_cases h259 : z18 = 23
   ·
    refine jx_tswI c1 hm 958 rfl ⟨by omega, by omega⟩ (by rw [h259] <;> rfl) rfl ?_
    refine jx_load c1 hm rfl rfl rfl rfl ?_
    refine jx_load c1 hm rfl rfl rfl rfl ?_
    refine jx_load c1 hm rfl rfl rfl rfl ?_
    refine jy_ic c1 hm rfl (by decide) ?_
    refine jy_add c1 hm (b1 + 1) rfl (by omega) ?_
    obtain ⟨z260, kz260, lz260, uz260⟩ := hf ((b1 + 1)).toNat
    refine jx_sald c1 hm rfl ⟨by omega, by omega⟩ kz260 ?_
    refine jx_load c1 hm rfl rfl rfl rfl ?_
    refine jx_load c1 hm rfl rfl rfl rfl ?_
    refine jy_ic c1 hm rfl (by decide) ?_
    refine jy_add c1 hm (b1 + 2) rfl (by omega) ?_
    obtain ⟨z261, kz261, lz261, uz261⟩ := hf ((b1 + 2)).toNat
    refine jx_sald c1 hm rfl ⟨by omega, by omega⟩ kz261 ?_
    refine jv_i c3 hm rfl (plp pj_X11_worth rfl) rfl rfl ⟨_, _, _, rfl, sh_0⟩ rfl ((ct_X11_worth_0 (X + 8000 * b1) (by omega) M4 hH4 z260 ⟨by omega, by omega⟩ z261 ⟨by omega, by omega⟩).le (by decide)) (fun z262 _ ⟨rfl, lz262, uz262⟩ => ?_)
    refine jx_pop c1 hm rfl rfl ?_
    refine jx_load c1 hm rfl rfl rfl rfl ?_
    refine jx_load c1 hm rfl rfl rfl rfl ?_
    refine jx_load c1 hm rfl rfl rfl rfl ?_
    refine jy_ic c1 hm rfl (by decide) ?_
    refine jy_add c1 hm (b1 + 1) rfl (by omega) ?_
    obtain ⟨z263, kz263, lz263, uz263⟩ := hf ((b1 + 1)).toNat
    refine jx_sald c1 hm rfl ⟨by omega, by omega⟩ kz263 ?_
    refine jx_load c1 hm rfl rfl rfl rfl ?_
    refine jx_load c1 hm rfl rfl rfl rfl ?_
    refine jy_ic c1 hm rfl (by decide) ?_
    refine jy_add c1 hm (b1 + 2) rfl (by omega) ?_
    obtain ⟨z264, kz264, lz264, uz264⟩ := hf ((b1 + 2)).toNat
    refine jx_sald c1 hm rfl ⟨by omega, by omega⟩ kz264 ?_
    refine jv_i c3 hm rfl (plp pj_X12_worth rfl) rfl rfl ⟨_, _, _, rfl, sh_173⟩ rfl (((ct_X12_worth_173 (X + 8000 * b1) (by omega) M4 hH4 z263 ⟨by omega, by omega⟩ z264 ⟨by omega, by omega⟩).lki (by decide +kernel) rfl).le (by decide)) (fun z265 M266 ⟨⟨hH266, hR266, lz265, uz265⟩, hL266⟩ => ?_)
    refine jx_pop c1 hm rfl rfl ?_
    refine jx_goto c1 hm 1445 rfl rfl ?_
    refine jx_iinc c1 hm (v := (b1 + 6)) (L' := [some (.inr (.inr (.inr 0))), some (.inr (.inr (.inl 0))), some (.inr (.inr (.inl 173))), some (.inr (.inr (.inl 198))), some (.inl (b1 + 6)), o2, o3]) rfl rfl (by omega) (by omega) rfl ?_
    refine jx_goto c1 hm 23 rfl rfl ?_
    exact ihW14 (b1 + 6) (by omega) o2 ho2 o3 ho3 M266 (hH266.mono (by omega) (by omega)) k (by omega) (SOK.cg hs1 (fun j h1 h2 => (hR266 175 j rfl))) (KOK.cg hs2 (fun j h1 h2 => (hR266 177 j rfl))) (KOK.cg hs3 (fun j h1 h2 => (hR266 177 j rfl))) (TPQ.cg hs4 (hR266 0 2 rfl) (hR266 173 2 rfl)) (TBQ.cg hs5 (fun j => (hR266 2 j rfl)) (fun j => (hR266 174 j rfl))) (IMG.cg hs6 (fun j => (hR266 46 j rfl)) (fun j => (hR266 183 j rfl))) (HNQ.cg hs7 ⟨fun j _ => (hR266 6 j rfl), fun k _ => (hL266 7 k (by decide +kernel))⟩ ⟨fun j hj => (hR266 175 (0 + j) rfl), fun k _ => (hL266 180 (0 + k) (by decide +kernel))⟩) (IHQ.cg hs8 (fun j => (hR266 46 j rfl)) ⟨fun j _ => (hR266 138 j rfl), fun k _ => (hL266 139 k (by decide +kernel))⟩ ⟨fun j _ => (hR266 156 j rfl), fun k _ => (hL266 157 k (by decide +kernel))⟩ ⟨fun j hj => (hR266 177 (0 + j) rfl), fun k _ => (hL266 182 (0 + k) (by decide +kernel))⟩ ⟨fun j hj => (hR266 177 (476 + j) rfl), fun k _ => (hL266 182 (18 + k) (by decide +kernel))⟩) (FQ.cg hs9 (hR266 0 3 rfl) (hR266 173 10 rfl)) (by omega)
   by_cases h267 : z18 = 24
   ·
    refine jx_tswI c1 hm 995 rfl ⟨by omega, by omega⟩ (by rw [h267] <;> rfl) rfl ?_
    refine jx_load c1 hm rfl rfl rfl rfl ?_
    refine jv_i c3 hm rfl (plp pj_X11_even rfl) rfl rfl ⟨_, _, _, rfl, sh_0⟩ rfl (((ct_X11_even_0 (X + 8000 * b1) (by omega) M4 hH4 ).lki (by decide +kernel) rfl).le (by decide)) (fun z268 M269 ⟨⟨hH269, hR269, lz268, uz268⟩, hL269⟩ => ?_)
    refine jx_pop c1 hm rfl rfl ?_
    refine jx_load c1 hm rfl rfl rfl rfl ?_
    refine jv_i c3 hm rfl (plp pj_X12_even rfl) rfl rfl ⟨_, _, _, rfl, sh_173⟩ rfl (((ct_X12_even_173 (X + 8000 * b1) (by omega) M269 hH269 ).lki (by decide +kernel) rfl).le (by decide)) (fun z270 M271 ⟨⟨hH271, hR271, lz270, uz270⟩, hL271⟩ => ?_)
    refine jx_pop c1 hm rfl rfl ?_
    refine jx_goto c1 hm 1445 rfl rfl ?_
    refine jx_iinc c1 hm (v := (b1 + 6)) (L' := [some (.inr (.inr (.inr 0))), some (.inr (.inr (.inl 0))), some (.inr (.inr (.inl 173))), some (.inr (.inr (.inl 198))), some (.inl (b1 + 6)), o2, o3]) rfl rfl (by omega) (by omega) rfl ?_
    refine jx_goto c1 hm 23 rfl rfl ?_
    exact ihW14 (b1 + 6) (by omega) o2 ho2 o3 ho3 M271 (hH271.mono (by omega) (by omega)) k (by omega) (SOK.cg hs1 (fun j h1 h2 => ((hR271 175 j rfl).trans (hR269 175 j rfl)))) (KOK.cg hs2 (fun j h1 h2 => ((hR271 177 j rfl).trans (hR269 177 j rfl)))) (KOK.cg hs3 (fun j h1 h2 => ((hR271 177 j rfl).trans (hR269 177 j rfl)))) (TPQ.cg hs4 ((hR271 0 2 rfl).trans (hR269 0 2 rfl)) ((hR271 173 2 rfl).trans (hR269 173 2 rfl))) (TBQ.cg hs5 (fun j => ((hR271 2 j rfl).trans (hR269 2 j rfl))) (fun j => ((hR271 174 j rfl).trans (hR269 174 j rfl)))) (IMG.cg hs6 (fun j => ((hR271 46 j rfl).trans (hR269 46 j rfl))) (fun j => ((hR271 183 j rfl).trans (hR269 183 j rfl)))) (HNQ.cg hs7 ⟨fun j _ => ((hR271 6 j rfl).trans (hR269 6 j rfl)), fun k _ => ((hL271 7 k (by decide +kernel)).trans (hL269 7 k (by decide +kernel)))⟩ ⟨fun j hj => ((hR271 175 (0 + j) rfl).trans (hR269 175 (0 + j) rfl)), fun k _ => ((hL271 180 (0 + k) (by decide +kernel)).trans (hL269 180 (0 + k) (by decide +kernel)))⟩) (IHQ.cg hs8 (fun j => ((hR271 46 j rfl).trans (hR269 46 j rfl))) ⟨fun j _ => ((hR271 138 j rfl).trans (hR269 138 j rfl)), fun k _ => ((hL271 139 k (by decide +kernel)).trans (hL269 139 k (by decide +kernel)))⟩ ⟨fun j _ => ((hR271 156 j rfl).trans (hR269 156 j rfl)), fun k _ => ((hL271 157 k (by decide +kernel)).trans (hL269 157 k (by decide +kernel)))⟩ ⟨fun j hj => ((hR271 177 (0 + j) rfl).trans (hR269 177 (0 + j) rfl)), fun k _ => ((hL271 182 (0 + k) (by decide +kernel)).trans (hL269 182 (0 + k) (by decide +kernel)))⟩ ⟨fun j hj => ((hR271 177 (476 + j) rfl).trans (hR269 177 (476 + j) rfl)), fun k _ => ((hL271 182 (18 + k) (by decide +kernel)).trans (hL269 182 (18 + k) (by decide +kernel)))⟩) (FQ.cg hs9 ((hR271 0 3 rfl).trans (hR269 0 3 rfl)) ((hR271 173 10 rfl).trans (hR269 173 10 rfl))) (by omega)
   by_cases h272 : z18 = 25
   ·
    refine jx_tswI c1 hm 1008 rfl ⟨by omega, by omega⟩ (by rw [h272] <;> rfl) rfl ?_
    refine jx_load c1 hm rfl rfl rfl rfl ?_
    refine jv_i c3 hm rfl (plp pj_X11_fits rfl) rfl rfl ⟨_, _, _, rfl, sh_0⟩ rfl (((ct_X11_fits_0t (X + 8000 * b1) (by omega) M4 hH4 ).lki (by decide +kernel) rfl).le (by decide)) (fun z273 M275 ⟨⟨hH275, hR275, lz273, uz273, p274⟩, hL275⟩ => ?_)
    obtain ⟨z276, k277, lz276, uz276⟩ := hH275.ld (c := 0) (i := 2) (A := 0) (B := 940) (bs_18_1 _ _ (by omega) (by omega))
    refine jx_pop c1 hm rfl rfl ?_
    refine jx_load c1 hm rfl rfl rfl rfl ?_
    refine jv_i c3 hm rfl (plp pj_X12_fits rfl) rfl rfl ⟨_, _, _, rfl, sh_173⟩ rfl (((ct_X12_fits_173t (X + 8000 * b1) (by omega) M275 hH275 ).lki (by decide +kernel) rfl).le (by decide)) (fun z278 M280 ⟨⟨hH280, hR280, lz278, uz278, p279⟩, hL280⟩ => ?_)
    obtain ⟨z281, k282, lz281, uz281⟩ := hH280.ld (c := 173) (i := 2) (A := 0) (B := 940) (bs_28_1 _ _ (by omega) (by omega))
    refine jx_pop c1 hm rfl rfl ?_
    refine jx_goto c1 hm 1445 rfl rfl ?_
    refine jx_iinc c1 hm (v := (b1 + 6)) (L' := [some (.inr (.inr (.inr 0))), some (.inr (.inr (.inl 0))), some (.inr (.inr (.inl 173))), some (.inr (.inr (.inl 198))), some (.inl (b1 + 6)), o2, o3]) rfl rfl (by omega) (by omega) rfl ?_
    refine jx_goto c1 hm 23 rfl rfl ?_
    exact ihW14 (b1 + 6) (by omega) o2 ho2 o3 ho3 M280 (hH280.mono (by omega) (by omega)) k (by omega) (SOK.cg hs1 (fun j h1 h2 => ((hR280 175 j rfl).trans (hR275 175 j rfl)))) (KOK.cg hs2 (fun j h1 h2 => ((hR280 177 j rfl).trans (hR275 177 j rfl)))) (KOK.cg hs3 (fun j h1 h2 => ((hR280 177 j rfl).trans (hR275 177 j rfl)))) (TPQ.of (by have y9 := hs4.e; have y90_0 := hR280 0 2 rfl; have y91_173 := hR275 173 2 rfl; omega)) (TBQ.cg hs5 (fun j => ((hR280 2 j rfl).trans (hR275 2 j rfl))) (fun j => ((hR280 174 j rfl).trans (hR275 174 j rfl)))) (IMG.cg hs6 (fun j => ((hR280 46 j rfl).trans (hR275 46 j rfl))) (fun j => ((hR280 183 j rfl).trans (hR275 183 j rfl)))) (HNQ.cg hs7 ⟨fun j _ => ((hR280 6 j rfl).trans (hR275 6 j rfl)), fun k _ => ((hL280 7 k (by decide +kernel)).trans (hL275 7 k (by decide +kernel)))⟩ ⟨fun j hj => ((hR280 175 (0 + j) rfl).trans (hR275 175 (0 + j) rfl)), fun k _ => ((hL280 180 (0 + k) (by decide +kernel)).trans (hL275 180 (0 + k) (by decide +kernel)))⟩) (IHQ.cg hs8 (fun j => ((hR280 46 j rfl).trans (hR275 46 j rfl))) ⟨fun j _ => ((hR280 138 j rfl).trans (hR275 138 j rfl)), fun k _ => ((hL280 139 k (by decide +kernel)).trans (hL275 139 k (by decide +kernel)))⟩ ⟨fun j _ => ((hR280 156 j rfl).trans (hR275 156 j rfl)), fun k _ => ((hL280 157 k (by decide +kernel)).trans (hL275 157 k (by decide +kernel)))⟩ ⟨fun j hj => ((hR280 177 (0 + j) rfl).trans (hR275 177 (0 + j) rfl)), fun k _ => ((hL280 182 (0 + k) (by decide +kernel)).trans (hL275 182 (0 + k) (by decide +kernel)))⟩ ⟨fun j hj => ((hR280 177 (476 + j) rfl).trans (hR275 177 (476 + j) rfl)), fun k _ => ((hL280 182 (18 + k) (by decide +kernel)).trans (hL275 182 (18 + k) (by decide +kernel)))⟩) (FQ.cg hs9 ((hR280 0 3 rfl).trans (hR275 0 3 rfl)) ((hR280 173 10 rfl).trans (hR275 173 10 rfl))) (by omega)
   by_cases h283 : z18 = 26
   ·
    refine jx_tswI c1 hm 1021 rfl ⟨by omega, by omega⟩ (by rw [h283] <;> rfl) rfl ?_
    refine jx_load c1 hm rfl rfl rfl rfl ?_
    refine jv_i c3 hm rfl (plp pj_X11_tells rfl) rfl rfl ⟨_, _, _, rfl, sh_0⟩ rfl ((ct_X11_tells_0 (X + 8000 * b1) (by omega) M4 hH4 ).le (by decide)) (fun z284 _ ⟨rfl, lz284, uz284⟩ => ?_)
    refine jx_pop c1 hm rfl rfl ?_
    refine jx_load c1 hm rfl rfl rfl rfl ?_
    refine jv_i c3 hm rfl (plp pj_X12_tells rfl) rfl rfl ⟨_, _, _, rfl, sh_173⟩ rfl (((ct_X12_tells_173 (X + 8000 * b1) (by omega) M4 hH4 ).lki (by decide +kernel) rfl).le (by decide)) (fun z285 M286 ⟨⟨hH286, hR286, lz285, uz285⟩, hL286⟩ => ?_)
    refine jx_pop c1 hm rfl rfl ?_
    refine jx_goto c1 hm 1445 rfl rfl ?_
    refine jx_iinc c1 hm (v := (b1 + 6)) (L' := [some (.inr (.inr (.inr 0))), some (.inr (.inr (.inl 0))), some (.inr (.inr (.inl 173))), some (.inr (.inr (.inl 198))), some (.inl (b1 + 6)), o2, o3]) rfl rfl (by omega) (by omega) rfl ?_
    refine jx_goto c1 hm 23 rfl rfl ?_
    exact ihW14 (b1 + 6) (by omega) o2 ho2 o3 ho3 M286 (hH286.mono (by omega) (by omega)) k (by omega) (SOK.cg hs1 (fun j h1 h2 => (hR286 175 j rfl))) (KOK.cg hs2 (fun j h1 h2 => (hR286 177 j rfl))) (KOK.cg hs3 (fun j h1 h2 => (hR286 177 j rfl))) (TPQ.cg hs4 (hR286 0 2 rfl) (hR286 173 2 rfl)) (TBQ.cg hs5 (fun j => (hR286 2 j rfl)) (fun j => (hR286 174 j rfl))) (IMG.cg hs6 (fun j => (hR286 46 j rfl)) (fun j => (hR286 183 j rfl))) (HNQ.cg hs7 ⟨fun j _ => (hR286 6 j rfl), fun k _ => (hL286 7 k (by decide +kernel))⟩ ⟨fun j hj => (hR286 175 (0 + j) rfl), fun k _ => (hL286 180 (0 + k) (by decide +kernel))⟩) (IHQ.cg hs8 (fun j => (hR286 46 j rfl)) ⟨fun j _ => (hR286 138 j rfl), fun k _ => (hL286 139 k (by decide +kernel))⟩ ⟨fun j _ => (hR286 156 j rfl), fun k _ => (hL286 157 k (by decide +kernel))⟩ ⟨fun j hj => (hR286 177 (0 + j) rfl), fun k _ => (hL286 182 (0 + k) (by decide +kernel))⟩ ⟨fun j hj => (hR286 177 (476 + j) rfl), fun k _ => (hL286 182 (18 + k) (by decide +kernel))⟩) (FQ.cg hs9 (hR286 0 3 rfl) (hR286 173 10 rfl)) (by omega)
   by_cases h287 : z18 = 27
   ·
    refine jx_tswI c1 hm 1034 rfl ⟨by omega, by omega⟩ (by rw [h287] <;> rfl) rfl ?_
    refine jx_load c1 hm rfl rfl rfl rfl ?_
    refine jx_load c1 hm rfl rfl rfl rfl ?_
    refine jx_load c1 hm rfl rfl rfl rfl ?_
    refine jy_ic c1 hm rfl (by decide) ?_
    refine jy_add c1 hm (b1 + 1) rfl (by omega) ?_
    obtain ⟨z288, kz288, lz288, uz288⟩ := hf ((b1 + 1)).toNat
    refine jx_sald c1 hm rfl ⟨by omega, by omega⟩ kz288 ?_
    refine jx_load c1 hm rfl rfl rfl rfl ?_
    refine jx_load c1 hm rfl rfl rfl rfl ?_
    refine jy_ic c1 hm rfl (by decide) ?_
    refine jy_add c1 hm (b1 + 2) rfl (by omega) ?_
    obtain ⟨z289, kz289, lz289, uz289⟩ := hf ((b1 + 2)).toNat
    refine jx_sald c1 hm rfl ⟨by omega, by omega⟩ kz289 ?_
    refine jx_load c1 hm rfl rfl rfl rfl ?_
    refine jx_load c1 hm rfl rfl rfl rfl ?_
    refine jy_ic c1 hm rfl (by decide) ?_
    refine jy_add c1 hm (b1 + 3) rfl (by omega) ?_
    obtain ⟨z290, kz290, lz290, uz290⟩ := hf ((b1 + 3)).toNat
    refine jx_sald c1 hm rfl ⟨by omega, by omega⟩ kz290 ?_
    refine jv_i c3 hm rfl (plp pj_X11_share rfl) rfl rfl ⟨_, _, _, rfl, sh_0⟩ rfl ((ct_X11_share_0 (X + 8000 * b1) (by omega) M4 hH4 z288 ⟨by omega, by omega⟩ z289 ⟨by omega, by omega⟩ z290 ⟨by omega, by omega⟩).le (by decide)) (fun z291 _ ⟨rfl, lz291, uz291⟩ => ?_)
    refine jx_pop c1 hm rfl rfl ?_
    refine jx_load c1 hm rfl rfl rfl rfl ?_
    refine jx_load c1 hm rfl rfl rfl rfl ?_
    refine jx_load c1 hm rfl rfl rfl rfl ?_
    refine jy_ic c1 hm rfl (by decide) ?_
    refine jy_add c1 hm (b1 + 1) rfl (by omega) ?_
    obtain ⟨z292, kz292, lz292, uz292⟩ := hf ((b1 + 1)).toNat
    refine jx_sald c1 hm rfl ⟨by omega, by omega⟩ kz292 ?_
    refine jx_load c1 hm rfl rfl rfl rfl ?_
    refine jx_load c1 hm rfl rfl rfl rfl ?_
    refine jy_ic c1 hm rfl (by decide) ?_
    refine jy_add c1 hm (b1 + 2) rfl (by omega) ?_
    obtain ⟨z293, kz293, lz293, uz293⟩ := hf ((b1 + 2)).toNat
    refine jx_sald c1 hm rfl ⟨by omega, by omega⟩ kz293 ?_
    refine jx_load c1 hm rfl rfl rfl rfl ?_
    refine jx_load c1 hm rfl rfl rfl rfl ?_
    refine jy_ic c1 hm rfl (by decide) ?_
    refine jy_add c1 hm (b1 + 3) rfl (by omega) ?_
    obtain ⟨z294, kz294, lz294, uz294⟩ := hf ((b1 + 3)).toNat
    refine jx_sald c1 hm rfl ⟨by omega, by omega⟩ kz294 ?_
    refine jv_i c3 hm rfl (plp pj_X12_share rfl) rfl rfl ⟨_, _, _, rfl, sh_173⟩ rfl (((ct_X12_share_173 (X + 8000 * b1) (by omega) M4 hH4 z292 ⟨by omega, by omega⟩ z293 ⟨by omega, by omega⟩ z294 ⟨by omega, by omega⟩).lki (by decide +kernel) rfl).le (by decide)) (fun z295 M296 ⟨⟨hH296, hR296, lz295, uz295⟩, hL296⟩ => ?_)
    refine jx_pop c1 hm rfl rfl ?_
    refine jx_goto c1 hm 1445 rfl rfl ?_
    refine jx_iinc c1 hm (v := (b1 + 6)) (L' := [some (.inr (.inr (.inr 0))), some (.inr (.inr (.inl 0))), some (.inr (.inr (.inl 173))), some (.inr (.inr (.inl 198))), some (.inl (b1 + 6)), o2, o3]) rfl rfl (by omega) (by omega) rfl ?_
    refine jx_goto c1 hm 23 rfl rfl ?_
    exact ihW14 (b1 + 6) (by omega) o2 ho2 o3 ho3 M296 (hH296.mono (by omega) (by omega)) k (by omega) (SOK.cg hs1 (fun j h1 h2 => (hR296 175 j rfl))) (KOK.cg hs2 (fun j h1 h2 => (hR296 177 j rfl))) (KOK.cg hs3 (fun j h1 h2 => (hR296 177 j rfl))) (TPQ.cg hs4 (hR296 0 2 rfl) (hR296 173 2 rfl)) (TBQ.cg hs5 (fun j => (hR296 2 j rfl)) (fun j => (hR296 174 j rfl))) (IMG.cg hs6 (fun j => (hR296 46 j rfl)) (fun j => (hR296 183 j rfl))) (HNQ.cg hs7 ⟨fun j _ => (hR296 6 j rfl), fun k _ => (hL296 7 k (by decide +kernel))⟩ ⟨fun j hj => (hR296 175 (0 + j) rfl), fun k _ => (hL296 180 (0 + k) (by decide +kernel))⟩) (IHQ.cg hs8 (fun j => (hR296 46 j rfl)) ⟨fun j _ => (hR296 138 j rfl), fun k _ => (hL296 139 k (by decide +kernel))⟩ ⟨fun j _ => (hR296 156 j rfl), fun k _ => (hL296 157 k (by decide +kernel))⟩ ⟨fun j hj => (hR296 177 (0 + j) rfl), fun k _ => (hL296 182 (0 + k) (by decide +kernel))⟩ ⟨fun j hj => (hR296 177 (476 + j) rfl), fun k _ => (hL296 182 (18 + k) (by decide +kernel))⟩) (FQ.cg hs9 (hR296 0 3 rfl) (hR296 173 10 rfl)) (by omega)
   by_cases h297 : z18 = 28
   ·
    refine jx_tswI c1 hm 1083 rfl ⟨by omega, by omega⟩ (by rw [h297] <;> rfl) rfl ?_
    refine jx_load c1 hm rfl rfl rfl rfl ?_
    refine jx_load c1 hm rfl rfl rfl rfl ?_
    refine jx_load c1 hm rfl rfl rfl rfl ?_
    refine jy_ic c1 hm rfl (by decide) ?_
    refine jy_add c1 hm (b1 + 1) rfl (by omega) ?_
    obtain ⟨z298, kz298, lz298, uz298⟩ := hf ((b1 + 1)).toNat
    refine jx_sald c1 hm rfl ⟨by omega, by omega⟩ kz298 ?_
    refine jv_i c3 hm rfl (plp pj_X11_tax rfl) rfl rfl ⟨_, _, _, rfl, sh_0⟩ rfl (((ct_X11_tax_0 (X + 8000 * b1) (by omega) M4 hH4 z298 ⟨by omega, by omega⟩).lki (by decide +kernel) rfl).le (by decide)) (fun z299 M300 ⟨⟨hH300, hR300, lz299, uz299⟩, hL300⟩ => ?_)
    refine jx_pop c1 hm rfl rfl ?_
    refine jx_load c1 hm rfl rfl rfl rfl ?_
    refine jx_load c1 hm rfl rfl rfl rfl ?_
    refine jx_load c1 hm rfl rfl rfl rfl ?_
    refine jy_ic c1 hm rfl (by decide) ?_
    refine jy_add c1 hm (b1 + 1) rfl (by omega) ?_
    obtain ⟨z301, kz301, lz301, uz301⟩ := hf ((b1 + 1)).toNat
    refine jx_sald c1 hm rfl ⟨by omega, by omega⟩ kz301 ?_
    refine jv_i c3 hm rfl (plp pj_X12_tax rfl) rfl rfl ⟨_, _, _, rfl, sh_173⟩ rfl (((ct_X12_tax_173 (X + 8000 * b1) (by omega) M300 hH300 z301 ⟨by omega, by omega⟩).lki (by decide +kernel) rfl).le (by decide)) (fun z302 M303 ⟨⟨hH303, hR303, lz302, uz302⟩, hL303⟩ => ?_)
    refine jx_pop c1 hm rfl rfl ?_
    refine jx_goto c1 hm 1445 rfl rfl ?_
    refine jx_iinc c1 hm (v := (b1 + 6)) (L' := [some (.inr (.inr (.inr 0))), some (.inr (.inr (.inl 0))), some (.inr (.inr (.inl 173))), some (.inr (.inr (.inl 198))), some (.inl (b1 + 6)), o2, o3]) rfl rfl (by omega) (by omega) rfl ?_
    refine jx_goto c1 hm 23 rfl rfl ?_
    exact ihW14 (b1 + 6) (by omega) o2 ho2 o3 ho3 M303 (hH303.mono (by omega) (by omega)) k (by omega) (SOK.cg hs1 (fun j h1 h2 => ((hR303 175 j rfl).trans (hR300 175 j rfl)))) (KOK.cg hs2 (fun j h1 h2 => ((hR303 177 j rfl).trans (hR300 177 j rfl)))) (KOK.cg hs3 (fun j h1 h2 => ((hR303 177 j rfl).trans (hR300 177 j rfl)))) (TPQ.cg hs4 ((hR303 0 2 rfl).trans (hR300 0 2 rfl)) ((hR303 173 2 rfl).trans (hR300 173 2 rfl))) (TBQ.cg hs5 (fun j => ((hR303 2 j rfl).trans (hR300 2 j rfl))) (fun j => ((hR303 174 j rfl).trans (hR300 174 j rfl)))) (IMG.cg hs6 (fun j => ((hR303 46 j rfl).trans (hR300 46 j rfl))) (fun j => ((hR303 183 j rfl).trans (hR300 183 j rfl)))) (HNQ.cg hs7 ⟨fun j _ => ((hR303 6 j rfl).trans (hR300 6 j rfl)), fun k _ => ((hL303 7 k (by decide +kernel)).trans (hL300 7 k (by decide +kernel)))⟩ ⟨fun j hj => ((hR303 175 (0 + j) rfl).trans (hR300 175 (0 + j) rfl)), fun k _ => ((hL303 180 (0 + k) (by decide +kernel)).trans (hL300 180 (0 + k) (by decide +kernel)))⟩) (IHQ.cg hs8 (fun j => ((hR303 46 j rfl).trans (hR300 46 j rfl))) ⟨fun j _ => ((hR303 138 j rfl).trans (hR300 138 j rfl)), fun k _ => ((hL303 139 k (by decide +kernel)).trans (hL300 139 k (by decide +kernel)))⟩ ⟨fun j _ => ((hR303 156 j rfl).trans (hR300 156 j rfl)), fun k _ => ((hL303 157 k (by decide +kernel)).trans (hL300 157 k (by decide +kernel)))⟩ ⟨fun j hj => ((hR303 177 (0 + j) rfl).trans (hR300 177 (0 + j) rfl)), fun k _ => ((hL303 182 (0 + k) (by decide +kernel)).trans (hL300 182 (0 + k) (by decide +kernel)))⟩ ⟨fun j hj => ((hR303 177 (476 + j) rfl).trans (hR300 177 (476 + j) rfl)), fun k _ => ((hL303 182 (18 + k) (by decide +kernel)).trans (hL300 182 (18 + k) (by decide +kernel)))⟩) (FQ.cg hs9 ((hR303 0 3 rfl).trans (hR300 0 3 rfl)) ((hR303 173 10 rfl).trans (hR300 173 10 rfl))) (by omega)
   by_cases h304 : z18 = 29
   ·
    refine jx_tswI c1 hm 1108 rfl ⟨by omega, by omega⟩ (by rw [h304] <;> rfl) rfl ?_
    refine jx_load c1 hm rfl rfl rfl rfl ?_
    refine jx_load c1 hm rfl rfl rfl rfl ?_
    refine jx_load c1 hm rfl rfl rfl rfl ?_
    refine jy_ic c1 hm rfl (by decide) ?_
    refine jy_add c1 hm (b1 + 1) rfl (by omega) ?_
    obtain ⟨z305, kz305, lz305, uz305⟩ := hf ((b1 + 1)).toNat
    refine jx_sald c1 hm rfl ⟨by omega, by omega⟩ kz305 ?_
    refine jv_i c3 hm rfl (plp pj_X11_taxOf rfl) rfl rfl ⟨_, _, _, rfl, sh_0⟩ rfl ((ct_X11_taxOf_0 (X + 8000 * b1) (by omega) M4 hH4 z305 ⟨by omega, by omega⟩).le (by decide)) (fun z306 _ ⟨rfl, lz306, uz306⟩ => ?_)
    refine jx_pop c1 hm rfl rfl ?_
    refine jx_load c1 hm rfl rfl rfl rfl ?_
    refine jx_load c1 hm rfl rfl rfl rfl ?_
    refine jx_load c1 hm rfl rfl rfl rfl ?_
    refine jy_ic c1 hm rfl (by decide) ?_
    refine jy_add c1 hm (b1 + 1) rfl (by omega) ?_
    obtain ⟨z307, kz307, lz307, uz307⟩ := hf ((b1 + 1)).toNat
    refine jx_sald c1 hm rfl ⟨by omega, by omega⟩ kz307 ?_
    refine jv_i c3 hm rfl (plp pj_X12_taxOf rfl) rfl rfl ⟨_, _, _, rfl, sh_173⟩ rfl (((ct_X12_taxOf_173 (X + 8000 * b1) (by omega) M4 hH4 z307 ⟨by omega, by omega⟩).lki (by decide +kernel) rfl).le (by decide)) (fun z308 M309 ⟨⟨hH309, hR309, lz308, uz308⟩, hL309⟩ => ?_)
    refine jx_pop c1 hm rfl rfl ?_
    refine jx_goto c1 hm 1445 rfl rfl ?_
    refine jx_iinc c1 hm (v := (b1 + 6)) (L' := [some (.inr (.inr (.inr 0))), some (.inr (.inr (.inl 0))), some (.inr (.inr (.inl 173))), some (.inr (.inr (.inl 198))), some (.inl (b1 + 6)), o2, o3]) rfl rfl (by omega) (by omega) rfl ?_
    refine jx_goto c1 hm 23 rfl rfl ?_
    exact ihW14 (b1 + 6) (by omega) o2 ho2 o3 ho3 M309 (hH309.mono (by omega) (by omega)) k (by omega) (SOK.cg hs1 (fun j h1 h2 => (hR309 175 j rfl))) (KOK.cg hs2 (fun j h1 h2 => (hR309 177 j rfl))) (KOK.cg hs3 (fun j h1 h2 => (hR309 177 j rfl))) (TPQ.cg hs4 (hR309 0 2 rfl) (hR309 173 2 rfl)) (TBQ.cg hs5 (fun j => (hR309 2 j rfl)) (fun j => (hR309 174 j rfl))) (IMG.cg hs6 (fun j => (hR309 46 j rfl)) (fun j => (hR309 183 j rfl))) (HNQ.cg hs7 ⟨fun j _ => (hR309 6 j rfl), fun k _ => (hL309 7 k (by decide +kernel))⟩ ⟨fun j hj => (hR309 175 (0 + j) rfl), fun k _ => (hL309 180 (0 + k) (by decide +kernel))⟩) (IHQ.cg hs8 (fun j => (hR309 46 j rfl)) ⟨fun j _ => (hR309 138 j rfl), fun k _ => (hL309 139 k (by decide +kernel))⟩ ⟨fun j _ => (hR309 156 j rfl), fun k _ => (hL309 157 k (by decide +kernel))⟩ ⟨fun j hj => (hR309 177 (0 + j) rfl), fun k _ => (hL309 182 (0 + k) (by decide +kernel))⟩ ⟨fun j hj => (hR309 177 (476 + j) rfl), fun k _ => (hL309 182 (18 + k) (by decide +kernel))⟩) (FQ.cg hs9 (hR309 0 3 rfl) (hR309 173 10 rfl)) (by omega)
   by_cases h310 : z18 = 30
   ·
    refine jx_tswI c1 hm 1133 rfl ⟨by omega, by omega⟩ (by rw [h310] <;> rfl) rfl ?_
    refine jx_load c1 hm rfl rfl rfl rfl ?_
    refine jv_i c3 hm rfl (plp pj_X11_proudest rfl) rfl rfl ⟨_, _, _, rfl, sh_0⟩ rfl ((ct_X11_proudest_0 (X + 8000 * b1) (by omega) M4 hH4 ).le (by decide)) (fun z311 _ ⟨rfl, lz311, uz311⟩ => ?_)
    refine jx_pop c1 hm rfl rfl ?_
    refine jx_load c1 hm rfl rfl rfl rfl ?_
    refine jv_i c3 hm rfl (plp pj_X12_proudest rfl) rfl rfl ⟨_, _, _, rfl, sh_173⟩ rfl (((ct_X12_proudest_173 (X + 8000 * b1) (by omega) M4 hH4 ).lki (by decide +kernel) rfl).le (by decide)) (fun z312 M313 ⟨⟨hH313, hR313, lz312, uz312⟩, hL313⟩ => ?_)
    refine jx_pop c1 hm rfl rfl ?_
    refine jx_goto c1 hm 1445 rfl rfl ?_
    refine jx_iinc c1 hm (v := (b1 + 6)) (L' := [some (.inr (.inr (.inr 0))), some (.inr (.inr (.inl 0))), some (.inr (.inr (.inl 173))), some (.inr (.inr (.inl 198))), some (.inl (b1 + 6)), o2, o3]) rfl rfl (by omega) (by omega) rfl ?_
    refine jx_goto c1 hm 23 rfl rfl ?_
    exact ihW14 (b1 + 6) (by omega) o2 ho2 o3 ho3 M313 (hH313.mono (by omega) (by omega)) k (by omega) (SOK.cg hs1 (fun j h1 h2 => (hR313 175 j rfl))) (KOK.cg hs2 (fun j h1 h2 => (hR313 177 j rfl))) (KOK.cg hs3 (fun j h1 h2 => (hR313 177 j rfl))) (TPQ.cg hs4 (hR313 0 2 rfl) (hR313 173 2 rfl)) (TBQ.cg hs5 (fun j => (hR313 2 j rfl)) (fun j => (hR313 174 j rfl))) (IMG.cg hs6 (fun j => (hR313 46 j rfl)) (fun j => (hR313 183 j rfl))) (HNQ.cg hs7 ⟨fun j _ => (hR313 6 j rfl), fun k _ => (hL313 7 k (by decide +kernel))⟩ ⟨fun j hj => (hR313 175 (0 + j) rfl), fun k _ => (hL313 180 (0 + k) (by decide +kernel))⟩) (IHQ.cg hs8 (fun j => (hR313 46 j rfl)) ⟨fun j _ => (hR313 138 j rfl), fun k _ => (hL313 139 k (by decide +kernel))⟩ ⟨fun j _ => (hR313 156 j rfl), fun k _ => (hL313 157 k (by decide +kernel))⟩ ⟨fun j hj => (hR313 177 (0 + j) rfl), fun k _ => (hL313 182 (0 + k) (by decide +kernel))⟩ ⟨fun j hj => (hR313 177 (476 + j) rfl), fun k _ => (hL313 182 (18 + k) (by decide +kernel))⟩) (FQ.cg hs9 (hR313 0 3 rfl) (hR313 173 10 rfl)) (by omega)
   by_cases h314 : z18 = 31
   ·
    refine jx_tswI c1 hm 1146 rfl ⟨by omega, by omega⟩ (by rw [h314] <;> rfl) rfl ?_
    refine jx_load c1 hm rfl rfl rfl rfl ?_
    refine jx_load c1 hm rfl rfl rfl rfl ?_
    refine jx_load c1 hm rfl rfl rfl rfl ?_
    refine jy_ic c1 hm rfl (by decide) ?_
    refine jy_add c1 hm (b1 + 1) rfl (by omega) ?_
    obtain ⟨z315, kz315, lz315, uz315⟩ := hf ((b1 + 1)).toNat
    refine jx_sald c1 hm rfl ⟨by omega, by omega⟩ kz315 ?_
    refine jv_i c3 hm rfl (plp pj_X11_list rfl) rfl rfl ⟨_, _, _, rfl, sh_0⟩ rfl (((ct_X11_list_0 (X + 8000 * b1) (by omega) M4 hH4 z315 ⟨by omega, by omega⟩).lki (by decide +kernel) rfl).le (by decide)) (fun z316 M317 ⟨⟨hH317, hR317, lz316, uz316⟩, hL317⟩ => ?_)
    refine jx_pop c1 hm rfl rfl ?_
    refine jx_load c1 hm rfl rfl rfl rfl ?_
    refine jx_load c1 hm rfl rfl rfl rfl ?_
    refine jx_load c1 hm rfl rfl rfl rfl ?_
    refine jy_ic c1 hm rfl (by decide) ?_
    refine jy_add c1 hm (b1 + 1) rfl (by omega) ?_
    obtain ⟨z318, kz318, lz318, uz318⟩ := hf ((b1 + 1)).toNat
    refine jx_sald c1 hm rfl ⟨by omega, by omega⟩ kz318 ?_
    refine jv_i c3 hm rfl (plp pj_X12_list rfl) rfl rfl ⟨_, _, _, rfl, sh_173⟩ rfl (((ct_X12_list_173 (X + 8000 * b1) (by omega) M317 hH317 z318 ⟨by omega, by omega⟩).lki (by decide +kernel) rfl).le (by decide)) (fun z319 M320 ⟨⟨hH320, hR320, lz319, uz319⟩, hL320⟩ => ?_)
    refine jx_pop c1 hm rfl rfl ?_
    refine jx_goto c1 hm 1445 rfl rfl ?_
    refine jx_iinc c1 hm (v := (b1 + 6)) (L' := [some (.inr (.inr (.inr 0))), some (.inr (.inr (.inl 0))), some (.inr (.inr (.inl 173))), some (.inr (.inr (.inl 198))), some (.inl (b1 + 6)), o2, o3]) rfl rfl (by omega) (by omega) rfl ?_
    refine jx_goto c1 hm 23 rfl rfl ?_
    exact ihW14 (b1 + 6) (by omega) o2 ho2 o3 ho3 M320 (hH320.mono (by omega) (by omega)) k (by omega) (SOK.cg hs1 (fun j h1 h2 => ((hR320 175 j rfl).trans (hR317 175 j rfl)))) (KOK.cg hs2 (fun j h1 h2 => ((hR320 177 j rfl).trans (hR317 177 j rfl)))) (KOK.cg hs3 (fun j h1 h2 => ((hR320 177 j rfl).trans (hR317 177 j rfl)))) (TPQ.cg hs4 ((hR320 0 2 rfl).trans (hR317 0 2 rfl)) ((hR320 173 2 rfl).trans (hR317 173 2 rfl))) (TBQ.cg hs5 (fun j => ((hR320 2 j rfl).trans (hR317 2 j rfl))) (fun j => ((hR320 174 j rfl).trans (hR317 174 j rfl)))) (IMG.cg hs6 (fun j => ((hR320 46 j rfl).trans (hR317 46 j rfl))) (fun j => ((hR320 183 j rfl).trans (hR317 183 j rfl)))) (HNQ.cg hs7 ⟨fun j _ => ((hR320 6 j rfl).trans (hR317 6 j rfl)), fun k _ => ((hL320 7 k (by decide +kernel)).trans (hL317 7 k (by decide +kernel)))⟩ ⟨fun j hj => ((hR320 175 (0 + j) rfl).trans (hR317 175 (0 + j) rfl)), fun k _ => ((hL320 180 (0 + k) (by decide +kernel)).trans (hL317 180 (0 + k) (by decide +kernel)))⟩) (IHQ.cg hs8 (fun j => ((hR320 46 j rfl).trans (hR317 46 j rfl))) ⟨fun j _ => ((hR320 138 j rfl).trans (hR317 138 j rfl)), fun k _ => ((hL320 139 k (by decide +kernel)).trans (hL317 139 k (by decide +kernel)))⟩ ⟨fun j _ => ((hR320 156 j rfl).trans (hR317 156 j rfl)), fun k _ => ((hL320 157 k (by decide +kernel)).trans (hL317 157 k (by decide +kernel)))⟩ ⟨fun j hj => ((hR320 177 (0 + j) rfl).trans (hR317 177 (0 + j) rfl)), fun k _ => ((hL320 182 (0 + k) (by decide +kernel)).trans (hL317 182 (0 + k) (by decide +kernel)))⟩ ⟨fun j hj => ((hR320 177 (476 + j) rfl).trans (hR317 177 (476 + j) rfl)), fun k _ => ((hL320 182 (18 + k) (by decide +kernel)).trans (hL317 182 (18 + k) (by decide +kernel)))⟩) (FQ.cg hs9 ((hR320 0 3 rfl).trans (hR317 0 3 rfl)) ((hR320 173 10 rfl).trans (hR317 173 10 rfl))) (by omega)
   by_cases h321 : z18 = 32
   ·
    refine jx_tswI c1 hm 1171 rfl ⟨by omega, by omega⟩ (by rw [h321] <;> rfl) rfl ?_
    refine jx_load c1 hm rfl rfl rfl rfl ?_
    refine jx_load c1 hm rfl rfl rfl rfl ?_
    refine jx_load c1 hm rfl rfl rfl rfl ?_
    refine jy_ic c1 hm rfl (by decide) ?_
    refine jy_add c1 hm (b1 + 1) rfl (by omega) ?_
    obtain ⟨z322, kz322, lz322, uz322⟩ := hf ((b1 + 1)).toNat
    refine jx_sald c1 hm rfl ⟨by omega, by omega⟩ kz322 ?_
    refine jv_i c3 hm rfl (plp pj_X11_byteAt rfl) rfl rfl ⟨_, _, _, rfl, sh_0⟩ rfl ((ct_X11_byteAt_0 (X + 8000 * b1) (by omega) M4 hH4 z322 ⟨by omega, by omega⟩).le (by decide)) (fun z323 _ ⟨rfl, lz323, uz323⟩ => ?_)
    refine jx_pop c1 hm rfl rfl ?_
    refine jx_load c1 hm rfl rfl rfl rfl ?_
    refine jx_load c1 hm rfl rfl rfl rfl ?_
    refine jx_load c1 hm rfl rfl rfl rfl ?_
    refine jy_ic c1 hm rfl (by decide) ?_
    refine jy_add c1 hm (b1 + 1) rfl (by omega) ?_
    obtain ⟨z324, kz324, lz324, uz324⟩ := hf ((b1 + 1)).toNat
    refine jx_sald c1 hm rfl ⟨by omega, by omega⟩ kz324 ?_
    refine jv_i c3 hm rfl (plp pj_X12_byteAt rfl) rfl rfl ⟨_, _, _, rfl, sh_173⟩ rfl (((ct_X12_byteAt_173 (X + 8000 * b1) (by omega) M4 hH4 z324 ⟨by omega, by omega⟩).lki (by decide +kernel) rfl).le (by decide)) (fun z325 M326 ⟨⟨hH326, hR326, lz325, uz325⟩, hL326⟩ => ?_)
    refine jx_pop c1 hm rfl rfl ?_
    refine jx_goto c1 hm 1445 rfl rfl ?_
    refine jx_iinc c1 hm (v := (b1 + 6)) (L' := [some (.inr (.inr (.inr 0))), some (.inr (.inr (.inl 0))), some (.inr (.inr (.inl 173))), some (.inr (.inr (.inl 198))), some (.inl (b1 + 6)), o2, o3]) rfl rfl (by omega) (by omega) rfl ?_
    refine jx_goto c1 hm 23 rfl rfl ?_
    exact ihW14 (b1 + 6) (by omega) o2 ho2 o3 ho3 M326 (hH326.mono (by omega) (by omega)) k (by omega) (SOK.cg hs1 (fun j h1 h2 => (hR326 175 j rfl))) (KOK.cg hs2 (fun j h1 h2 => (hR326 177 j rfl))) (KOK.cg hs3 (fun j h1 h2 => (hR326 177 j rfl))) (TPQ.cg hs4 (hR326 0 2 rfl) (hR326 173 2 rfl)) (TBQ.cg hs5 (fun j => (hR326 2 j rfl)) (fun j => (hR326 174 j rfl))) (IMG.cg hs6 (fun j => (hR326 46 j rfl)) (fun j => (hR326 183 j rfl))) (HNQ.cg hs7 ⟨fun j _ => (hR326 6 j rfl), fun k _ => (hL326 7 k (by decide +kernel))⟩ ⟨fun j hj => (hR326 175 (0 + j) rfl), fun k _ => (hL326 180 (0 + k) (by decide +kernel))⟩) (IHQ.cg hs8 (fun j => (hR326 46 j rfl)) ⟨fun j _ => (hR326 138 j rfl), fun k _ => (hL326 139 k (by decide +kernel))⟩ ⟨fun j _ => (hR326 156 j rfl), fun k _ => (hL326 157 k (by decide +kernel))⟩ ⟨fun j hj => (hR326 177 (0 + j) rfl), fun k _ => (hL326 182 (0 + k) (by decide +kernel))⟩ ⟨fun j hj => (hR326 177 (476 + j) rfl), fun k _ => (hL326 182 (18 + k) (by decide +kernel))⟩) (FQ.cg hs9 (hR326 0 3 rfl) (hR326 173 10 rfl)) (by omega)
   by_cases h327 : z18 = 33
   ·
    refine jx_tswI c1 hm 1196 rfl ⟨by omega, by omega⟩ (by rw [h327] <;> rfl) rfl ?_
    refine jx_load c1 hm rfl rfl rfl rfl ?_
    refine jx_load c1 hm rfl rfl rfl rfl ?_
    refine jx_load c1 hm rfl rfl rfl rfl ?_
    refine jy_ic c1 hm rfl (by decide) ?_
    refine jy_add c1 hm (b1 + 1) rfl (by omega) ?_
    obtain ⟨z328, kz328, lz328, uz328⟩ := hf ((b1 + 1)).toNat
    refine jx_sald c1 hm rfl ⟨by omega, by omega⟩ kz328 ?_
    refine jx_load c1 hm rfl rfl rfl rfl ?_
    refine jx_load c1 hm rfl rfl rfl rfl ?_
    refine jy_ic c1 hm rfl (by decide) ?_
    refine jy_add c1 hm (b1 + 2) rfl (by omega) ?_
    obtain ⟨z329, kz329, lz329, uz329⟩ := hf ((b1 + 2)).toNat
    refine jx_sald c1 hm rfl ⟨by omega, by omega⟩ kz329 ?_
    refine jv_i c3 hm rfl (plp pj_X11_drawn rfl) rfl rfl ⟨_, _, _, rfl, sh_0⟩ rfl (((ct_X11_drawn_0 (X + 8000 * b1) (by omega) M4 hH4 z328 ⟨by omega, by omega⟩ z329 ⟨by omega, by omega⟩).lki (by decide +kernel) rfl).le (by decide)) (fun z330 M331 ⟨⟨hH331, hR331, lz330, uz330⟩, hL331⟩ => ?_)
    refine jx_pop c1 hm rfl rfl ?_
    refine jx_load c1 hm rfl rfl rfl rfl ?_
    refine jx_load c1 hm rfl rfl rfl rfl ?_
    refine jx_load c1 hm rfl rfl rfl rfl ?_
    refine jy_ic c1 hm rfl (by decide) ?_
    refine jy_add c1 hm (b1 + 1) rfl (by omega) ?_
    obtain ⟨z332, kz332, lz332, uz332⟩ := hf ((b1 + 1)).toNat
    refine jx_sald c1 hm rfl ⟨by omega, by omega⟩ kz332 ?_
    refine jx_load c1 hm rfl rfl rfl rfl ?_
    refine jx_load c1 hm rfl rfl rfl rfl ?_
    refine jy_ic c1 hm rfl (by decide) ?_
    refine jy_add c1 hm (b1 + 2) rfl (by omega) ?_
    obtain ⟨z333, kz333, lz333, uz333⟩ := hf ((b1 + 2)).toNat
    refine jx_sald c1 hm rfl ⟨by omega, by omega⟩ kz333 ?_
    refine jv_i c3 hm rfl (plp pj_X12_drawn rfl) rfl rfl ⟨_, _, _, rfl, sh_173⟩ rfl (((ct_X12_drawn_173 (X + 8000 * b1 + 360) (by omega) M331 hH331 z332 ⟨by omega, by omega⟩ z333 ⟨by omega, by omega⟩).lki (by decide +kernel) rfl).le (by decide)) (fun z334 M335 ⟨⟨hH335, hR335, lz334, uz334⟩, hL335⟩ => ?_)
    rw [show X + 8000 * b1 + 360 + 1080 = X + 8000 * b1 + 1440 by omega] at hH335
    refine jx_pop c1 hm rfl rfl ?_
    refine jx_goto c1 hm 1445 rfl rfl ?_
    refine jx_iinc c1 hm (v := (b1 + 6)) (L' := [some (.inr (.inr (.inr 0))), some (.inr (.inr (.inl 0))), some (.inr (.inr (.inl 173))), some (.inr (.inr (.inl 198))), some (.inl (b1 + 6)), o2, o3]) rfl rfl (by omega) (by omega) rfl ?_
    refine jx_goto c1 hm 23 rfl rfl ?_
    exact ihW14 (b1 + 6) (by omega) o2 ho2 o3 ho3 M335 (hH335.mono (by omega) (by omega)) k (by omega) (SOK.cg hs1 (fun j h1 h2 => ((hR335 175 j (jin_hi (b := 234) (by decide +kernel) h1)).trans (hR331 175 j rfl)))) (KOK.cg hs2 (fun j h1 h2 => ((hR335 177 j rfl).trans (hR331 177 j rfl)))) (KOK.cg hs3 (fun j h1 h2 => ((hR335 177 j rfl).trans (hR331 177 j rfl)))) (TPQ.cg hs4 ((hR335 0 2 rfl).trans (hR331 0 2 rfl)) ((hR335 173 2 rfl).trans (hR331 173 2 rfl))) (TBQ.cg hs5 (fun j => ((hR335 2 j rfl).trans (hR331 2 j rfl))) (fun j => ((hR335 174 j rfl).trans (hR331 174 j rfl)))) (IMG.cg hs6 (fun j => ((hR335 46 j rfl).trans (hR331 46 j rfl))) (fun j => ((hR335 183 j rfl).trans (hR331 183 j rfl)))) (HNQ.cg hs7 ⟨fun j _ => ((hR335 6 j rfl).trans (hR331 6 j rfl)), fun k _ => ((hL335 7 k (by decide +kernel)).trans (hL331 7 k (by decide +kernel)))⟩ ⟨fun j hj => ((hR335 175 (0 + j) (jin_lo (b := 5) (by decide +kernel) (by omega))).trans (hR331 175 (0 + j) rfl)), fun k _ => ((hL335 180 (0 + k) (by decide +kernel)).trans (hL331 180 (0 + k) (by decide +kernel)))⟩) (IHQ.cg hs8 (fun j => ((hR335 46 j rfl).trans (hR331 46 j rfl))) ⟨fun j _ => ((hR335 138 j rfl).trans (hR331 138 j rfl)), fun k _ => ((hL335 139 k (by decide +kernel)).trans (hL331 139 k (by decide +kernel)))⟩ ⟨fun j _ => ((hR335 156 j rfl).trans (hR331 156 j rfl)), fun k _ => ((hL335 157 k (by decide +kernel)).trans (hL331 157 k (by decide +kernel)))⟩ ⟨fun j hj => ((hR335 177 (0 + j) rfl).trans (hR331 177 (0 + j) rfl)), fun k _ => ((hL335 182 (0 + k) (by decide +kernel)).trans (hL331 182 (0 + k) (by decide +kernel)))⟩ ⟨fun j hj => ((hR335 177 (476 + j) rfl).trans (hR331 177 (476 + j) rfl)), fun k _ => ((hL335 182 (18 + k) (by decide +kernel)).trans (hL331 182 (18 + k) (by decide +kernel)))⟩) (FQ.cg hs9 ((hR335 0 3 rfl).trans (hR331 0 3 rfl)) ((hR335 173 10 rfl).trans (hR331 173 10 rfl))) (by omega)
   by_cases h336 : z18 = 34
   ·
    refine jx_tswI c1 hm 1233 rfl ⟨by omega, by omega⟩ (by rw [h336] <;> rfl) rfl ?_
    refine jx_load c1 hm rfl rfl rfl rfl ?_
    refine jx_load c1 hm rfl rfl rfl rfl ?_
    refine jx_load c1 hm rfl rfl rfl rfl ?_
    refine jy_ic c1 hm rfl (by decide) ?_
    refine jy_add c1 hm (b1 + 1) rfl (by omega) ?_
    obtain ⟨z337, kz337, lz337, uz337⟩ := hf ((b1 + 1)).toNat
    refine jx_sald c1 hm rfl ⟨by omega, by omega⟩ kz337 ?_
    refine jx_load c1 hm rfl rfl rfl rfl ?_
    refine jx_load c1 hm rfl rfl rfl rfl ?_
    refine jy_ic c1 hm rfl (by decide) ?_
    refine jy_add c1 hm (b1 + 2) rfl (by omega) ?_
    obtain ⟨z338, kz338, lz338, uz338⟩ := hf ((b1 + 2)).toNat
    refine jx_sald c1 hm rfl ⟨by omega, by omega⟩ kz338 ?_
    refine jx_load c1 hm rfl rfl rfl rfl ?_
    refine jx_load c1 hm rfl rfl rfl rfl ?_
    refine jy_ic c1 hm rfl (by decide) ?_
    refine jy_add c1 hm (b1 + 3) rfl (by omega) ?_
    obtain ⟨z339, kz339, lz339, uz339⟩ := hf ((b1 + 3)).toNat
    refine jx_sald c1 hm rfl ⟨by omega, by omega⟩ kz339 ?_
    refine jv_i c3 hm rfl (plp pj_X11_odds rfl) rfl rfl ⟨_, _, _, rfl, sh_0⟩ rfl (((ct_X11_odds_0 (X + 8000 * b1) (by omega) M4 hH4 z337 ⟨by omega, by omega⟩ z338 ⟨by omega, by omega⟩ z339 ⟨by omega, by omega⟩).lki (by decide +kernel) rfl).le (by decide)) (fun z340 M341 ⟨⟨hH341, hR341, lz340, uz340⟩, hL341⟩ => ?_)
    refine jx_pop c1 hm rfl rfl ?_
    refine jx_load c1 hm rfl rfl rfl rfl ?_
    refine jx_load c1 hm rfl rfl rfl rfl ?_
    refine jx_load c1 hm rfl rfl rfl rfl ?_
    refine jy_ic c1 hm rfl (by decide) ?_
    refine jy_add c1 hm (b1 + 1) rfl (by omega) ?_
    obtain ⟨z342, kz342, lz342, uz342⟩ := hf ((b1 + 1)).toNat
    refine jx_sald c1 hm rfl ⟨by omega, by omega⟩ kz342 ?_
    refine jx_load c1 hm rfl rfl rfl rfl ?_
    refine jx_load c1 hm rfl rfl rfl rfl ?_
    refine jy_ic c1 hm rfl (by decide) ?_
    refine jy_add c1 hm (b1 + 2) rfl (by omega) ?_
    obtain ⟨z343, kz343, lz343, uz343⟩ := hf ((b1 + 2)).toNat
    refine jx_sald c1 hm rfl ⟨by omega, by omega⟩ kz343 ?_
    refine jx_load c1 hm rfl rfl rfl rfl ?_
    refine jx_load c1 hm rfl rfl rfl rfl ?_
    refine jy_ic c1 hm rfl (by decide) ?_
    refine jy_add c1 hm (b1 + 3) rfl (by omega) ?_
    obtain ⟨z344, kz344, lz344, uz344⟩ := hf ((b1 + 3)).toNat
    refine jx_sald c1 hm rfl ⟨by omega, by omega⟩ kz344 ?_
    refine jv_i c3 hm rfl (plp pj_X12_odds rfl) rfl rfl ⟨_, _, _, rfl, sh_173⟩ rfl (((ct_X12_odds_173 (X + 8000 * b1 + 10800) (by omega) M341 hH341 z342 ⟨by omega, by omega⟩ z343 ⟨by omega, by omega⟩ z344 ⟨by omega, by omega⟩).lki (by decide +kernel) rfl).le (by decide)) (fun z345 M346 ⟨⟨hH346, hR346, lz345, uz345⟩, hL346⟩ => ?_)
    rw [show X + 8000 * b1 + 10800 + 32400 = X + 8000 * b1 + 43200 by omega] at hH346
    refine jx_pop c1 hm rfl rfl ?_
    refine jx_goto c1 hm 1445 rfl rfl ?_
    refine jx_iinc c1 hm (v := (b1 + 6)) (L' := [some (.inr (.inr (.inr 0))), some (.inr (.inr (.inl 0))), some (.inr (.inr (.inl 173))), some (.inr (.inr (.inl 198))), some (.inl (b1 + 6)), o2, o3]) rfl rfl (by omega) (by omega) rfl ?_
    refine jx_goto c1 hm 23 rfl rfl ?_
    exact ihW14 (b1 + 6) (by omega) o2 ho2 o3 ho3 M346 (hH346.mono (by omega) (by omega)) k (by omega) (SOK.cg hs1 (fun j h1 h2 => ((hR346 175 j (jin_hi (b := 234) (by decide +kernel) h1)).trans (hR341 175 j rfl)))) (KOK.cg hs2 (fun j h1 h2 => ((hR346 177 j rfl).trans (hR341 177 j rfl)))) (KOK.cg hs3 (fun j h1 h2 => ((hR346 177 j rfl).trans (hR341 177 j rfl)))) (TPQ.cg hs4 ((hR346 0 2 rfl).trans (hR341 0 2 rfl)) ((hR346 173 2 rfl).trans (hR341 173 2 rfl))) (TBQ.cg hs5 (fun j => ((hR346 2 j rfl).trans (hR341 2 j rfl))) (fun j => ((hR346 174 j rfl).trans (hR341 174 j rfl)))) (IMG.cg hs6 (fun j => ((hR346 46 j rfl).trans (hR341 46 j rfl))) (fun j => ((hR346 183 j rfl).trans (hR341 183 j rfl)))) (HNQ.cg hs7 ⟨fun j _ => ((hR346 6 j rfl).trans (hR341 6 j rfl)), fun k _ => ((hL346 7 k (by decide +kernel)).trans (hL341 7 k (by decide +kernel)))⟩ ⟨fun j hj => ((hR346 175 (0 + j) (jin_lo (b := 5) (by decide +kernel) (by omega))).trans (hR341 175 (0 + j) rfl)), fun k _ => ((hL346 180 (0 + k) (by decide +kernel)).trans (hL341 180 (0 + k) (by decide +kernel)))⟩) (IHQ.cg hs8 (fun j => ((hR346 46 j rfl).trans (hR341 46 j rfl))) ⟨fun j _ => ((hR346 138 j rfl).trans (hR341 138 j rfl)), fun k _ => ((hL346 139 k (by decide +kernel)).trans (hL341 139 k (by decide +kernel)))⟩ ⟨fun j _ => ((hR346 156 j rfl).trans (hR341 156 j rfl)), fun k _ => ((hL346 157 k (by decide +kernel)).trans (hL341 157 k (by decide +kernel)))⟩ ⟨fun j hj => ((hR346 177 (0 + j) rfl).trans (hR341 177 (0 + j) rfl)), fun k _ => ((hL346 182 (0 + k) (by decide +kernel)).trans (hL341 182 (0 + k) (by decide +kernel)))⟩ ⟨fun j hj => ((hR346 177 (476 + j) rfl).trans (hR341 177 (476 + j) rfl)), fun k _ => ((hL346 182 (18 + k) (by decide +kernel)).trans (hL341 182 (18 + k) (by decide +kernel)))⟩) (FQ.cg hs9 ((hR346 0 3 rfl).trans (hR341 0 3 rfl)) ((hR346 173 10 rfl).trans (hR341 173 10 rfl))) (by omega)
   by_cases h347 : z18 = 35
   ·
    refine jx_tswI c1 hm 1282 rfl ⟨by omega, by omega⟩ (by rw [h347] <;> rfl) rfl ?_
    refine jx_load c1 hm rfl rfl rfl rfl ?_
    refine jx_load c1 hm rfl rfl rfl rfl ?_
    refine jx_load c1 hm rfl rfl rfl rfl ?_
    refine jy_ic c1 hm rfl (by decide) ?_
    refine jy_add c1 hm (b1 + 1) rfl (by omega) ?_
    obtain ⟨z348, kz348, lz348, uz348⟩ := hf ((b1 + 1)).toNat
    refine jx_sald c1 hm rfl ⟨by omega, by omega⟩ kz348 ?_
    obtain ⟨z349, k350, lz349, uz349⟩ := hH4.ld (c := 0) (i := 2) (A := 0) (B := 940) (bs_18_1 _ _ (by omega) (by omega))
    obtain ⟨z351, k352, lz351, uz351⟩ := hH4.ld (c := 0) (i := 3) (A := (-2147483648)) (B := 2147483647) (bs_18_2 _ _ (by omega) (by omega))
    refine jv_i c3 hm rfl (plp pj_X11_book rfl) rfl rfl ⟨_, _, _, rfl, sh_0⟩ rfl (((ct_X11_book_0y (X + 8000 * b1) (by omega) M4 hH4 z348 ⟨by omega, by omega⟩).lki (by decide +kernel) rfl).le (by decide)) (fun z353 M358 ⟨⟨hH358, hR358, lz353, uz353, p354, p355, p356, p357⟩, hL358⟩ => ?_)
    obtain ⟨z359, k360, lz359, uz359⟩ := hH358.ld (c := 0) (i := 3) (A := (-2147483648)) (B := 2147483647) (bs_18_2 _ _ (by omega) (by omega))
    obtain ⟨z361, k362, lz361, uz361⟩ := hH358.ld (c := 0) (i := 2) (A := 0) (B := 940) (bs_18_1 _ _ (by omega) (by omega))
    refine jx_pop c1 hm rfl rfl ?_
    refine jx_load c1 hm rfl rfl rfl rfl ?_
    refine jx_load c1 hm rfl rfl rfl rfl ?_
    refine jx_load c1 hm rfl rfl rfl rfl ?_
    refine jy_ic c1 hm rfl (by decide) ?_
    refine jy_add c1 hm (b1 + 1) rfl (by omega) ?_
    obtain ⟨z363, kz363, lz363, uz363⟩ := hf ((b1 + 1)).toNat
    refine jx_sald c1 hm rfl ⟨by omega, by omega⟩ kz363 ?_
    obtain ⟨z364, k365, lz364, uz364⟩ := hH358.ld (c := 173) (i := 10) (A := (-2147483648)) (B := 2147483647) (bs_28_5 _ _ (by omega) (by omega))
    obtain ⟨z366, k367, lz366, uz366⟩ := hH358.ld (c := 173) (i := 2) (A := 0) (B := 940) (bs_28_1 _ _ (by omega) (by omega))
    refine jv_i c3 hm rfl (plp pj_X12_book rfl) rfl rfl ⟨_, _, _, rfl, sh_173⟩ rfl (((ct_X12_book_173y (X + 8000 * b1 + 40) (by omega) M358 hH358 z363 ⟨by omega, by omega⟩).lki (by decide +kernel) rfl).le (by decide)) (fun z368 M373 ⟨⟨hH373, hR373, lz368, uz368, p369, p370, p371, p372⟩, hL373⟩ => ?_)
    rw [show X + 8000 * b1 + 40 + 92 = X + 8000 * b1 + 132 by omega] at hH373
    obtain ⟨z374, k375, lz374, uz374⟩ := hH373.ld (c := 173) (i := 10) (A := (-2147483648)) (B := 2147483647) (bs_28_5 _ _ (by omega) (by omega))
    obtain ⟨z376, k377, lz376, uz376⟩ := hH373.ld (c := 173) (i := 2) (A := 0) (B := 940) (bs_28_1 _ _ (by omega) (by omega))
    refine jx_pop c1 hm rfl rfl ?_
    refine jx_goto c1 hm 1445 rfl rfl ?_
    refine jx_iinc c1 hm (v := (b1 + 6)) (L' := [some (.inr (.inr (.inr 0))), some (.inr (.inr (.inl 0))), some (.inr (.inr (.inl 173))), some (.inr (.inr (.inl 198))), some (.inl (b1 + 6)), o2, o3]) rfl rfl (by omega) (by omega) rfl ?_
    refine jx_goto c1 hm 23 rfl rfl ?_
    exact ihW14 (b1 + 6) (by omega) o2 ho2 o3 ho3 M373 (hH373.mono (by omega) (by omega)) k (by omega) (SOK.cg hs1 (fun j h1 h2 => ((hR373 175 j (jin_hi (b := 234) (by decide +kernel) h1)).trans (hR358 175 j rfl)))) (KOK.cg hs2 (fun j h1 h2 => ((hR373 177 j rfl).trans (hR358 177 j rfl)))) (KOK.cg hs3 (fun j h1 h2 => ((hR373 177 j rfl).trans (hR358 177 j rfl)))) (TPQ.of (by have y9 := hs4.e; have y90_0 := hR373 0 2 rfl; have y91_173 := hR358 173 2 rfl; omega)) (TBQ.cg hs5 (fun j => ((hR373 2 j rfl).trans (hR358 2 j rfl))) (fun j => ((hR373 174 j rfl).trans (hR358 174 j rfl)))) (IMG.cg hs6 (fun j => ((hR373 46 j rfl).trans (hR358 46 j rfl))) (fun j => ((hR373 183 j rfl).trans (hR358 183 j rfl)))) (HNQ.cg hs7 ⟨fun j _ => ((hR373 6 j rfl).trans (hR358 6 j rfl)), fun k _ => ((hL373 7 k (by decide +kernel)).trans (hL358 7 k (by decide +kernel)))⟩ ⟨fun j hj => ((hR373 175 (0 + j) (jin_lo (b := 5) (by decide +kernel) (by omega))).trans (hR358 175 (0 + j) rfl)), fun k _ => ((hL373 180 (0 + k) (by decide +kernel)).trans (hL358 180 (0 + k) (by decide +kernel)))⟩) (IHQ.cg hs8 (fun j => ((hR373 46 j rfl).trans (hR358 46 j rfl))) ⟨fun j _ => ((hR373 138 j rfl).trans (hR358 138 j rfl)), fun k _ => ((hL373 139 k (by decide +kernel)).trans (hL358 139 k (by decide +kernel)))⟩ ⟨fun j _ => ((hR373 156 j rfl).trans (hR358 156 j rfl)), fun k _ => ((hL373 157 k (by decide +kernel)).trans (hL358 157 k (by decide +kernel)))⟩ ⟨fun j hj => ((hR373 177 (0 + j) rfl).trans (hR358 177 (0 + j) rfl)), fun k _ => ((hL373 182 (0 + k) (by decide +kernel)).trans (hL358 182 (0 + k) (by decide +kernel)))⟩ ⟨fun j hj => ((hR373 177 (476 + j) rfl).trans (hR358 177 (476 + j) rfl)), fun k _ => ((hL373 182 (18 + k) (by decide +kernel)).trans (hL358 182 (18 + k) (by decide +kernel)))⟩) (FQ.bo hs9 hs7 hs5 hs4 (kz348.symm.trans kz363) p354 p355 (fun j => hR358 174 j rfl) (hR358 173 2 rfl) (hR358 173 10 rfl) ⟨fun j hj => (hR358 175 (0 + j) rfl), fun k _ => (hL358 180 (0 + k) (by decide +kernel))⟩ p369 p370 (hR373 0 3 rfl)) (by omega)
   by_cases h378 : z18 = 36
   ·
    refine jx_tswI c1 hm 1307 rfl ⟨by omega, by omega⟩ (by rw [h378] <;> rfl) rfl ?_
    refine jx_load c1 hm rfl rfl rfl rfl ?_
    refine jx_load c1 hm rfl rfl rfl rfl ?_
    refine jx_load c1 hm rfl rfl rfl rfl ?_
    refine jy_ic c1 hm rfl (by decide) ?_
    refine jy_add c1 hm (b1 + 1) rfl (by omega) ?_
    obtain ⟨z379, kz379, lz379, uz379⟩ := hf ((b1 + 1)).toNat
    refine jx_sald c1 hm rfl ⟨by omega, by omega⟩ kz379 ?_
    refine jv_i c3 hm rfl (plp pj_X11_told rfl) rfl rfl ⟨_, _, _, rfl, sh_0⟩ rfl ((ct_X11_told_0 (X + 8000 * b1) (by omega) M4 hH4 z379 ⟨by omega, by omega⟩).le (by decide)) (fun z380 _ ⟨rfl, lz380, uz380⟩ => ?_)
    refine jx_pop c1 hm rfl rfl ?_
    refine jx_load c1 hm rfl rfl rfl rfl ?_
    refine jx_load c1 hm rfl rfl rfl rfl ?_
    refine jx_load c1 hm rfl rfl rfl rfl ?_
    refine jy_ic c1 hm rfl (by decide) ?_
    refine jy_add c1 hm (b1 + 1) rfl (by omega) ?_
    obtain ⟨z381, kz381, lz381, uz381⟩ := hf ((b1 + 1)).toNat
    refine jx_sald c1 hm rfl ⟨by omega, by omega⟩ kz381 ?_
    refine jv_i c3 hm rfl (plp pj_X12_told rfl) rfl rfl ⟨_, _, _, rfl, sh_173⟩ rfl (((ct_X12_told_173 (X + 8000 * b1) (by omega) M4 hH4 z381 ⟨by omega, by omega⟩).lki (by decide +kernel) rfl).le (by decide)) (fun z382 M383 ⟨⟨hH383, hR383, lz382, uz382⟩, hL383⟩ => ?_)
    refine jx_pop c1 hm rfl rfl ?_
    refine jx_goto c1 hm 1445 rfl rfl ?_
    refine jx_iinc c1 hm (v := (b1 + 6)) (L' := [some (.inr (.inr (.inr 0))), some (.inr (.inr (.inl 0))), some (.inr (.inr (.inl 173))), some (.inr (.inr (.inl 198))), some (.inl (b1 + 6)), o2, o3]) rfl rfl (by omega) (by omega) rfl ?_
    refine jx_goto c1 hm 23 rfl rfl ?_
    exact ihW14 (b1 + 6) (by omega) o2 ho2 o3 ho3 M383 (hH383.mono (by omega) (by omega)) k (by omega) (SOK.cg hs1 (fun j h1 h2 => (hR383 175 j rfl))) (KOK.cg hs2 (fun j h1 h2 => (hR383 177 j rfl))) (KOK.cg hs3 (fun j h1 h2 => (hR383 177 j rfl))) (TPQ.cg hs4 (hR383 0 2 rfl) (hR383 173 2 rfl)) (TBQ.cg hs5 (fun j => (hR383 2 j rfl)) (fun j => (hR383 174 j rfl))) (IMG.cg hs6 (fun j => (hR383 46 j rfl)) (fun j => (hR383 183 j rfl))) (HNQ.cg hs7 ⟨fun j _ => (hR383 6 j rfl), fun k _ => (hL383 7 k (by decide +kernel))⟩ ⟨fun j hj => (hR383 175 (0 + j) rfl), fun k _ => (hL383 180 (0 + k) (by decide +kernel))⟩) (IHQ.cg hs8 (fun j => (hR383 46 j rfl)) ⟨fun j _ => (hR383 138 j rfl), fun k _ => (hL383 139 k (by decide +kernel))⟩ ⟨fun j _ => (hR383 156 j rfl), fun k _ => (hL383 157 k (by decide +kernel))⟩ ⟨fun j hj => (hR383 177 (0 + j) rfl), fun k _ => (hL383 182 (0 + k) (by decide +kernel))⟩ ⟨fun j hj => (hR383 177 (476 + j) rfl), fun k _ => (hL383 182 (18 + k) (by decide +kernel))⟩) (FQ.cg hs9 (hR383 0 3 rfl) (hR383 173 10 rfl)) (by omega)
   by_cases h384 : z18 = 37
   ·
    refine jx_tswI c1 hm 1332 rfl ⟨by omega, by omega⟩ (by rw [h384] <;> rfl) rfl ?_
    refine jx_load c1 hm rfl rfl rfl rfl ?_
    obtain ⟨z385, k386, lz385, uz385⟩ := hH4.ld (c := 0) (i := 2) (A := 0) (B := 940) (bs_18_1 _ _ (by omega) (by omega))
    refine jv_i c3 hm rfl (plp pj_X11_sentence rfl) rfl rfl ⟨_, _, _, rfl, sh_0⟩ rfl (((ct_X11_sentence_0q (X + 8000 * b1) (by omega) M4 hH4 ).lki (by decide +kernel) rfl).le (by decide)) (fun z387 M390 ⟨⟨hH390, hR390, lz387, uz387, p388, p389⟩, hL390⟩ => ?_)
    obtain ⟨z391, k392, lz391, uz391⟩ := hH390.ld (c := 0) (i := 3) (A := (-2147483648)) (B := 2147483647) (bs_18_2 _ _ (by omega) (by omega))
    obtain ⟨z393, k394, lz393, uz393⟩ := hH390.ld (c := 0) (i := 2) (A := 0) (B := 940) (bs_18_1 _ _ (by omega) (by omega))
    refine jx_pop c1 hm rfl rfl ?_
    refine jx_load c1 hm rfl rfl rfl rfl ?_
    obtain ⟨z395, k396, lz395, uz395⟩ := hH390.ld (c := 173) (i := 2) (A := 0) (B := 940) (bs_28_1 _ _ (by omega) (by omega))
    refine jv_i c3 hm rfl (plp pj_X12_sentence rfl) rfl rfl ⟨_, _, _, rfl, sh_173⟩ rfl (((ct_X12_sentence_173q (X + 8000 * b1) (by omega) M390 hH390 (SOK.cg hs1 (fun j h1 h2 => (hR390 175 j rfl)))).lki (by decide +kernel) rfl).le (by decide)) (fun z397 M402 ⟨⟨hH402, hR402, lz397, uz397, p398, p399, p400, p401⟩, hL402⟩ => ?_)
    obtain ⟨z403, k404, lz403, uz403⟩ := hH402.ld (c := 173) (i := 10) (A := (-2147483648)) (B := 2147483647) (bs_28_5 _ _ (by omega) (by omega))
    obtain ⟨z405, k406, lz405, uz405⟩ := hH402.ld (c := 173) (i := 2) (A := 0) (B := 940) (bs_28_1 _ _ (by omega) (by omega))
    refine jx_pop c1 hm rfl rfl ?_
    refine jx_goto c1 hm 1445 rfl rfl ?_
    refine jx_iinc c1 hm (v := (b1 + 6)) (L' := [some (.inr (.inr (.inr 0))), some (.inr (.inr (.inl 0))), some (.inr (.inr (.inl 173))), some (.inr (.inr (.inl 198))), some (.inl (b1 + 6)), o2, o3]) rfl rfl (by omega) (by omega) rfl ?_
    refine jx_goto c1 hm 23 rfl rfl ?_
    exact ihW14 (b1 + 6) (by omega) o2 ho2 o3 ho3 M402 (hH402.mono (by omega) (by omega)) k (by omega) p398 (KOK.cg hs2 (fun j h1 h2 => ((hR402 177 j rfl).trans (hR390 177 j rfl)))) (KOK.cg hs3 (fun j h1 h2 => ((hR402 177 j rfl).trans (hR390 177 j rfl)))) (TPQ.of (by have y9 := hs4.e; have y90_0 := hR402 0 2 rfl; have y91_173 := hR390 173 2 rfl; omega)) (TBQ.cg hs5 (fun j => ((hR402 2 j rfl).trans (hR390 2 j rfl))) (fun j => ((hR402 174 j rfl).trans (hR390 174 j rfl)))) (IMG.cg hs6 (fun j => ((hR402 46 j rfl).trans (hR390 46 j rfl))) (fun j => ((hR402 183 j rfl).trans (hR390 183 j rfl)))) (HNQ.cg hs7 ⟨fun j _ => ((hR402 6 j rfl).trans (hR390 6 j rfl)), fun k _ => ((hL402 7 k (by decide +kernel)).trans (hL390 7 k (by decide +kernel)))⟩ ⟨fun j hj => ((hR402 175 (0 + j) (jin_lo (b := 5) (by decide +kernel) (by omega))).trans (hR390 175 (0 + j) rfl)), fun k _ => ((hL402 180 (0 + k) (by decide +kernel)).trans (hL390 180 (0 + k) (by decide +kernel)))⟩) (IHQ.cg hs8 (fun j => ((hR402 46 j rfl).trans (hR390 46 j rfl))) ⟨fun j _ => ((hR402 138 j rfl).trans (hR390 138 j rfl)), fun k _ => ((hL402 139 k (by decide +kernel)).trans (hL390 139 k (by decide +kernel)))⟩ ⟨fun j _ => ((hR402 156 j rfl).trans (hR390 156 j rfl)), fun k _ => ((hL402 157 k (by decide +kernel)).trans (hL390 157 k (by decide +kernel)))⟩ ⟨fun j hj => ((hR402 177 (0 + j) rfl).trans (hR390 177 (0 + j) rfl)), fun k _ => ((hL402 182 (0 + k) (by decide +kernel)).trans (hL390 182 (0 + k) (by decide +kernel)))⟩ ⟨fun j hj => ((hR402 177 (476 + j) rfl).trans (hR390 177 (476 + j) rfl)), fun k _ => ((hL402 182 (18 + k) (by decide +kernel)).trans (hL390 182 (18 + k) (by decide +kernel)))⟩) (FQ.se hs7 hs5 hs4 p388 (fun j => hR390 174 j rfl) (hR390 173 2 rfl) ⟨fun j hj => (hR390 175 (0 + j) rfl), fun k _ => (hL390 180 (0 + k) (by decide +kernel))⟩ p399 (hR402 0 3 rfl)) (by omega)
   by_cases h407 : z18 = 38
   ·
    refine jx_tswI c1 hm 1345 rfl ⟨by omega, by omega⟩ (by rw [h407] <;> rfl) rfl ?_
    refine jx_load c1 hm rfl rfl rfl rfl ?_
    refine jx_load c1 hm rfl rfl rfl rfl ?_
    refine jx_load c1 hm rfl rfl rfl rfl ?_
    refine jy_ic c1 hm rfl (by decide) ?_
    refine jy_add c1 hm (b1 + 1) rfl (by omega) ?_
    obtain ⟨z408, kz408, lz408, uz408⟩ := hf ((b1 + 1)).toNat
    refine jx_sald c1 hm rfl ⟨by omega, by omega⟩ kz408 ?_
    refine jv_i c3 hm rfl (plp pj_X11_said rfl) rfl rfl ⟨_, _, _, rfl, sh_0⟩ rfl (((ct_X11_said_0 (X + 8000 * b1) (by omega) M4 hH4 z408 ⟨by omega, by omega⟩).lki (by decide +kernel) rfl).le (by decide)) (fun z409 M410 ⟨⟨hH410, hR410, lz409, uz409⟩, hL410⟩ => ?_)
    refine jx_pop c1 hm rfl rfl ?_
    refine jx_load c1 hm rfl rfl rfl rfl ?_
    refine jx_load c1 hm rfl rfl rfl rfl ?_
    refine jx_load c1 hm rfl rfl rfl rfl ?_
    refine jy_ic c1 hm rfl (by decide) ?_
    refine jy_add c1 hm (b1 + 1) rfl (by omega) ?_
    obtain ⟨z411, kz411, lz411, uz411⟩ := hf ((b1 + 1)).toNat
    refine jx_sald c1 hm rfl ⟨by omega, by omega⟩ kz411 ?_
    refine jv_i c3 hm rfl (plp pj_X12_said rfl) rfl rfl ⟨_, _, _, rfl, sh_173⟩ rfl (((ct_X12_said_173 (X + 8000 * b1) (by omega) M410 hH410 z411 ⟨by omega, by omega⟩ (SOK.cg hs1 (fun j h1 h2 => (hR410 175 j rfl)))).lki (by decide +kernel) rfl).le (by decide)) (fun z412 M413 ⟨⟨hH413, hR413, lz412, uz412⟩, hL413⟩ => ?_)
    refine jx_pop c1 hm rfl rfl ?_
    refine jx_goto c1 hm 1445 rfl rfl ?_
    refine jx_iinc c1 hm (v := (b1 + 6)) (L' := [some (.inr (.inr (.inr 0))), some (.inr (.inr (.inl 0))), some (.inr (.inr (.inl 173))), some (.inr (.inr (.inl 198))), some (.inl (b1 + 6)), o2, o3]) rfl rfl (by omega) (by omega) rfl ?_
    refine jx_goto c1 hm 23 rfl rfl ?_
    exact ihW14 (b1 + 6) (by omega) o2 ho2 o3 ho3 M413 (hH413.mono (by omega) (by omega)) k (by omega) (SOK.cg hs1 (fun j h1 h2 => ((hR413 175 j rfl).trans (hR410 175 j rfl)))) (KOK.cg hs2 (fun j h1 h2 => ((hR413 177 j rfl).trans (hR410 177 j rfl)))) (KOK.cg hs3 (fun j h1 h2 => ((hR413 177 j rfl).trans (hR410 177 j rfl)))) (TPQ.cg hs4 ((hR413 0 2 rfl).trans (hR410 0 2 rfl)) ((hR413 173 2 rfl).trans (hR410 173 2 rfl))) (TBQ.cg hs5 (fun j => ((hR413 2 j rfl).trans (hR410 2 j rfl))) (fun j => ((hR413 174 j rfl).trans (hR410 174 j rfl)))) (IMG.cg hs6 (fun j => ((hR413 46 j rfl).trans (hR410 46 j rfl))) (fun j => ((hR413 183 j rfl).trans (hR410 183 j rfl)))) (HNQ.cg hs7 ⟨fun j _ => ((hR413 6 j rfl).trans (hR410 6 j rfl)), fun k _ => ((hL413 7 k (by decide +kernel)).trans (hL410 7 k (by decide +kernel)))⟩ ⟨fun j hj => ((hR413 175 (0 + j) rfl).trans (hR410 175 (0 + j) rfl)), fun k _ => ((hL413 180 (0 + k) (by decide +kernel)).trans (hL410 180 (0 + k) (by decide +kernel)))⟩) (IHQ.cg hs8 (fun j => ((hR413 46 j rfl).trans (hR410 46 j rfl))) ⟨fun j _ => ((hR413 138 j rfl).trans (hR410 138 j rfl)), fun k _ => ((hL413 139 k (by decide +kernel)).trans (hL410 139 k (by decide +kernel)))⟩ ⟨fun j _ => ((hR413 156 j rfl).trans (hR410 156 j rfl)), fun k _ => ((hL413 157 k (by decide +kernel)).trans (hL410 157 k (by decide +kernel)))⟩ ⟨fun j hj => ((hR413 177 (0 + j) rfl).trans (hR410 177 (0 + j) rfl)), fun k _ => ((hL413 182 (0 + k) (by decide +kernel)).trans (hL410 182 (0 + k) (by decide +kernel)))⟩ ⟨fun j hj => ((hR413 177 (476 + j) rfl).trans (hR410 177 (476 + j) rfl)), fun k _ => ((hL413 182 (18 + k) (by decide +kernel)).trans (hL410 182 (18 + k) (by decide +kernel)))⟩) (FQ.cg hs9 ((hR413 0 3 rfl).trans (hR410 0 3 rfl)) ((hR413 173 10 rfl).trans (hR410 173 10 rfl))) (by omega)
   by_cases h414 : z18 = 39
   ·
    refine jx_tswI c1 hm 1370 rfl ⟨by omega, by omega⟩ (by rw [h414] <;> rfl) rfl ?_
    refine jx_load c1 hm rfl rfl rfl rfl ?_
    refine jx_load c1 hm rfl rfl rfl rfl ?_
    refine jx_load c1 hm rfl rfl rfl rfl ?_
    refine jy_ic c1 hm rfl (by decide) ?_
    refine jy_add c1 hm (b1 + 1) rfl (by omega) ?_
    obtain ⟨z415, kz415, lz415, uz415⟩ := hf ((b1 + 1)).toNat
    refine jx_sald c1 hm rfl ⟨by omega, by omega⟩ kz415 ?_
    refine jv_i c3 hm rfl (plp pj_X11_image rfl) rfl rfl ⟨_, _, _, rfl, sh_0⟩ rfl ((ct_X11_image_0n (X + 8000 * b1) (by omega) M4 hH4 z415 ⟨by omega, by omega⟩).le (by decide)) (fun z416 M422 ⟨hH422, hR422, lz416, uz416, p417, p418, p419, p420, p421⟩ => ?_)
    refine jx_pop c1 hm rfl rfl ?_
    refine jx_load c1 hm rfl rfl rfl rfl ?_
    refine jx_load c1 hm rfl rfl rfl rfl ?_
    refine jx_load c1 hm rfl rfl rfl rfl ?_
    refine jy_ic c1 hm rfl (by decide) ?_
    refine jy_add c1 hm (b1 + 1) rfl (by omega) ?_
    obtain ⟨z423, kz423, lz423, uz423⟩ := hf ((b1 + 1)).toNat
    refine jx_sald c1 hm rfl ⟨by omega, by omega⟩ kz423 ?_
    refine jv_i c3 hm rfl (plp pj_X12_image rfl) rfl rfl ⟨_, _, _, rfl, sh_173⟩ rfl ((ct_X12_image_173n (X + 8000 * b1) (by omega) M422 hH422 z423 ⟨by omega, by omega⟩ (SOK.cg hs1 (fun j h1 h2 => (hR422 175 j rfl))) (KOK.cg hs2 (fun j h1 h2 => (hR422 177 j rfl))) (KOK.cg hs3 (fun j h1 h2 => (hR422 177 j rfl)))).le (by decide)) (fun z424 M432 ⟨hH432, hR432, lz424, uz424, p425, p426, p427, p428, p429, p430, p431⟩ => ?_)
    refine jx_pop c1 hm rfl rfl ?_
    refine jx_goto c1 hm 1445 rfl rfl ?_
    refine jx_iinc c1 hm (v := (b1 + 6)) (L' := [some (.inr (.inr (.inr 0))), some (.inr (.inr (.inl 0))), some (.inr (.inr (.inl 173))), some (.inr (.inr (.inl 198))), some (.inl (b1 + 6)), o2, o3]) rfl rfl (by omega) (by omega) rfl ?_
    refine jx_goto c1 hm 23 rfl rfl ?_
    exact ihW14 (b1 + 6) (by omega) o2 ho2 o3 ho3 M432 (hH432.mono (by omega) (by omega)) k (by omega) (SOK.cg hs1 (fun j h1 h2 => ((hR432 175 j rfl).trans (hR422 175 j rfl)))) p425 p426 (TPQ.cg hs4 ((hR432 0 2 rfl).trans (hR422 0 2 rfl)) ((hR432 173 2 rfl).trans (hR422 173 2 rfl))) (TBQ.cg hs5 (fun j => ((hR432 2 j rfl).trans (hR422 2 j rfl))) (fun j => ((hR432 174 j rfl).trans (hR422 174 j rfl)))) (IMG.im hs6 (kz415.symm.trans kz423) p417 (fun j => hR422 183 j rfl) p427 (fun j => hR432 46 j rfl)) (HNQ.cg hs7 ⟨fun j _ => ((hR432 6 j rfl).trans (hR422 6 j rfl)), fun k _ => ((p431 7 k (by decide +kernel) rfl).trans (p421 7 k (by decide +kernel) rfl))⟩ ⟨fun j hj => ((hR432 175 (0 + j) rfl).trans (hR422 175 (0 + j) rfl)), fun k _ => ((p431 180 (0 + k) (by decide +kernel) rfl).trans (p421 180 (0 + k) (by decide +kernel) rfl))⟩) (IHQ.im hs8 hs7 (kz415.symm.trans kz423) p417 p418 p419 p420 ⟨fun j hj => (hR422 175 (0 + j) rfl), fun k _ => (p421 180 (0 + k) (by decide +kernel) rfl)⟩ ⟨fun j hj => (hR422 177 (0 + j) rfl), fun k _ => (p421 182 (0 + k) (by decide +kernel) rfl)⟩ ⟨fun j hj => (hR422 177 (476 + j) rfl), fun k _ => (p421 182 (18 + k) (by decide +kernel) rfl)⟩ p428 p429 p430 (fun j => hR432 46 j rfl) ⟨fun j _ => (hR432 138 j rfl), fun k _ => (p431 139 k (by decide +kernel) rfl)⟩ ⟨fun j _ => (hR432 156 j rfl), fun k _ => (p431 157 k (by decide +kernel) rfl)⟩) (FQ.cg hs9 ((hR432 0 3 rfl).trans (hR422 0 3 rfl)) ((hR432 173 10 rfl).trans (hR422 173 10 rfl))) (by omega)
   by_cases h433 : z18 = 40
   ·
    refine jx_tswI c1 hm 1395 rfl ⟨by omega, by omega⟩ (by rw [h433] <;> rfl) rfl ?_
    refine jx_load c1 hm rfl rfl rfl rfl ?_
    refine jx_load c1 hm rfl rfl rfl rfl ?_
    refine jx_load c1 hm rfl rfl rfl rfl ?_
    refine jy_ic c1 hm rfl (by decide) ?_
    refine jy_add c1 hm (b1 + 1) rfl (by omega) ?_
    obtain ⟨z434, kz434, lz434, uz434⟩ := hf ((b1 + 1)).toNat
    refine jx_sald c1 hm rfl ⟨by omega, by omega⟩ kz434 ?_
    refine jv_i c3 hm rfl (plp pj_X11_restore rfl) rfl rfl ⟨_, _, _, rfl, sh_0⟩ rfl ((ct_X11_restore_0n (X + 8000 * b1) (by omega) M4 hH4 z434 ⟨by omega, by omega⟩).le (by decide)) (fun z435 M439 ⟨hH439, hR439, lz435, uz435, p436, p437, p438⟩ => ?_)
    refine jx_pop c1 hm rfl rfl ?_
    refine jx_load c1 hm rfl rfl rfl rfl ?_
    refine jx_load c1 hm rfl rfl rfl rfl ?_
    refine jx_load c1 hm rfl rfl rfl rfl ?_
    refine jy_ic c1 hm rfl (by decide) ?_
    refine jy_add c1 hm (b1 + 1) rfl (by omega) ?_
    obtain ⟨z440, kz440, lz440, uz440⟩ := hf ((b1 + 1)).toNat
    refine jx_sald c1 hm rfl ⟨by omega, by omega⟩ kz440 ?_
    refine jv_i c3 hm rfl (plp pj_X12_restore rfl) rfl rfl ⟨_, _, _, rfl, sh_173⟩ rfl ((ct_X12_restore_173n (X + 8000 * b1) (by omega) M439 hH439 z440 ⟨by omega, by omega⟩ (SOK.cg hs1 (fun j h1 h2 => (hR439 175 j rfl))) (KOK.cg hs2 (fun j h1 h2 => (hR439 177 j rfl))) (KOK.cg hs3 (fun j h1 h2 => (hR439 177 j rfl)))).le (by decide)) (fun z441 M446 ⟨hH446, hR446, lz441, uz441, p442, p443, p444, p445⟩ => ?_)
    refine jx_pop c1 hm rfl rfl ?_
    refine jx_goto c1 hm 1445 rfl rfl ?_
    refine jx_iinc c1 hm (v := (b1 + 6)) (L' := [some (.inr (.inr (.inr 0))), some (.inr (.inr (.inl 0))), some (.inr (.inr (.inl 173))), some (.inr (.inr (.inl 198))), some (.inl (b1 + 6)), o2, o3]) rfl rfl (by omega) (by omega) rfl ?_
    refine jx_goto c1 hm 23 rfl rfl ?_
    exact ihW14 (b1 + 6) (by omega) o2 ho2 o3 ho3 M446 (hH446.mono (by omega) (by omega)) k (by omega) p442 (KOK.cg hs2 (fun j h1 h2 => ((hR446 177 j rfl).trans (hR439 177 j rfl)))) (KOK.cg hs3 (fun j h1 h2 => ((hR446 177 j rfl).trans (hR439 177 j rfl)))) (TPQ.cg hs4 ((hR446 0 2 rfl).trans (hR439 0 2 rfl)) ((hR446 173 2 rfl).trans (hR439 173 2 rfl))) (TBQ.cg hs5 (fun j => ((hR446 2 j rfl).trans (hR439 2 j rfl))) (fun j => ((hR446 174 j rfl).trans (hR439 174 j rfl)))) (IMG.cg hs6 (fun j => ((hR446 46 j rfl).trans (hR439 46 j rfl))) (fun j => ((hR446 183 j rfl).trans (hR439 183 j rfl)))) (HNQ.re hs7 hs6 hs8 (kz434.symm.trans kz440) ⟨by omega, by omega⟩ p436 p437 (fun j => hR439 183 j rfl) ⟨fun j hj => (hR439 175 (0 + j) rfl), fun k _ => (p438 180 (0 + k) (by decide +kernel) rfl)⟩ ⟨fun j hj => (hR439 177 (0 + j) rfl), fun k _ => (p438 182 (0 + k) (by decide +kernel) rfl)⟩ ⟨fun j hj => (hR439 177 (476 + j) rfl), fun k _ => (p438 182 (18 + k) (by decide +kernel) rfl)⟩ p443 p444 ⟨fun j _ => (hR446 6 j rfl), fun k _ => (p445 7 k (by decide +kernel) rfl)⟩) (IHQ.cg hs8 (fun j => ((hR446 46 j rfl).trans (hR439 46 j rfl))) ⟨fun j _ => ((hR446 138 j rfl).trans (hR439 138 j rfl)), fun k _ => ((p445 139 k (by decide +kernel) rfl).trans (p438 139 k (by decide +kernel) rfl))⟩ ⟨fun j _ => ((hR446 156 j rfl).trans (hR439 156 j rfl)), fun k _ => ((p445 157 k (by decide +kernel) rfl).trans (p438 157 k (by decide +kernel) rfl))⟩ ⟨fun j hj => ((hR446 177 (0 + j) rfl).trans (hR439 177 (0 + j) rfl)), fun k _ => ((p445 182 (0 + k) (by decide +kernel) rfl).trans (p438 182 (0 + k) (by decide +kernel) rfl))⟩ ⟨fun j hj => ((hR446 177 (476 + j) rfl).trans (hR439 177 (476 + j) rfl)), fun k _ => ((p445 182 (18 + k) (by decide +kernel) rfl).trans (p438 182 (18 + k) (by decide +kernel) rfl))⟩) (FQ.cg hs9 ((hR446 0 3 rfl).trans (hR439 0 3 rfl)) ((hR446 173 10 rfl).trans (hR439 173 10 rfl))) (by omega)
   by_cases h447 : z18 = 41
   ·
    refine jx_tswI c1 hm 1420 rfl ⟨by omega, by omega⟩ (by rw [h447] <;> rfl) rfl ?_
    refine jx_load c1 hm rfl rfl rfl rfl ?_
    refine jx_load c1 hm rfl rfl rfl rfl ?_
    refine jx_load c1 hm rfl rfl rfl rfl ?_
    refine jy_ic c1 hm rfl (by decide) ?_
    refine jy_add c1 hm (b1 + 1) rfl (by omega) ?_
    obtain ⟨z448, kz448, lz448, uz448⟩ := hf ((b1 + 1)).toNat
    refine jx_sald c1 hm rfl ⟨by omega, by omega⟩ kz448 ?_
    refine jv_i c3 hm rfl (plp pj_X11_count rfl) rfl rfl ⟨_, _, _, rfl, sh_0⟩ rfl ((ct_X11_count_0 (X + 8000 * b1) (by omega) M4 hH4 z448 ⟨by omega, by omega⟩).le (by decide)) (fun z449 _ ⟨rfl, lz449, uz449⟩ => ?_)
    refine jx_pop c1 hm rfl rfl ?_
    refine jx_load c1 hm rfl rfl rfl rfl ?_
    refine jx_load c1 hm rfl rfl rfl rfl ?_
    refine jx_load c1 hm rfl rfl rfl rfl ?_
    refine jy_ic c1 hm rfl (by decide) ?_
    refine jy_add c1 hm (b1 + 1) rfl (by omega) ?_
    obtain ⟨z450, kz450, lz450, uz450⟩ := hf ((b1 + 1)).toNat
    refine jx_sald c1 hm rfl ⟨by omega, by omega⟩ kz450 ?_
    refine jv_i c3 hm rfl (plp pj_X12_count rfl) rfl rfl ⟨_, _, _, rfl, sh_173⟩ rfl (((ct_X12_count_173 (X + 8000 * b1) (by omega) M4 hH4 z450 ⟨by omega, by omega⟩).lki (by decide +kernel) rfl).le (by decide)) (fun z451 M452 ⟨⟨hH452, hR452, lz451, uz451⟩, hL452⟩ => ?_)
    refine jx_pop c1 hm rfl rfl ?_
    refine jx_goto c1 hm 1445 rfl rfl ?_
    refine jx_iinc c1 hm (v := (b1 + 6)) (L' := [some (.inr (.inr (.inr 0))), some (.inr (.inr (.inl 0))), some (.inr (.inr (.inl 173))), some (.inr (.inr (.inl 198))), some (.inl (b1 + 6)), o2, o3]) rfl rfl (by omega) (by omega) rfl ?_
    refine jx_goto c1 hm 23 rfl rfl ?_
    exact ihW14 (b1 + 6) (by omega) o2 ho2 o3 ho3 M452 (hH452.mono (by omega) (by omega)) k (by omega) (SOK.cg hs1 (fun j h1 h2 => (hR452 175 j rfl))) (KOK.cg hs2 (fun j h1 h2 => (hR452 177 j rfl))) (KOK.cg hs3 (fun j h1 h2 => (hR452 177 j rfl))) (TPQ.cg hs4 (hR452 0 2 rfl) (hR452 173 2 rfl)) (TBQ.cg hs5 (fun j => (hR452 2 j rfl)) (fun j => (hR452 174 j rfl))) (IMG.cg hs6 (fun j => (hR452 46 j rfl)) (fun j => (hR452 183 j rfl))) (HNQ.cg hs7 ⟨fun j _ => (hR452 6 j rfl), fun k _ => (hL452 7 k (by decide +kernel))⟩ ⟨fun j hj => (hR452 175 (0 + j) rfl), fun k _ => (hL452 180 (0 + k) (by decide +kernel))⟩) (IHQ.cg hs8 (fun j => (hR452 46 j rfl)) ⟨fun j _ => (hR452 138 j rfl), fun k _ => (hL452 139 k (by decide +kernel))⟩ ⟨fun j _ => (hR452 156 j rfl), fun k _ => (hL452 157 k (by decide +kernel))⟩ ⟨fun j hj => (hR452 177 (0 + j) rfl), fun k _ => (hL452 182 (0 + k) (by decide +kernel))⟩ ⟨fun j hj => (hR452 177 (476 + j) rfl), fun k _ => (hL452 182 (18 + k) (by decide +kernel))⟩) (FQ.cg hs9 (hR452 0 3 rfl) (hR452 173 10 rfl)) (by omega)
   refine jx_tswO c1 hm 1445 rfl (by omega) rfl ?_
   refine jx_iinc c1 hm (v := (b1 + 6)) (L' := [some (.inr (.inr (.inr 0))), some (.inr (.inr (.inl 0))), some (.inr (.inr (.inl 173))), some (.inr (.inr (.inl 198))), some (.inl (b1 + 6)), o2, o3]) rfl rfl (by omega) (by omega) rfl ?_
   refine jx_goto c1 hm 23 rfl rfl ?_
   exact ihW14 (b1 + 6) (by omega) o2 ho2 o3 ho3 M4 (hH4.mono (by omega) (by omega)) k (by omega) (SOK.cg hs1 (fun j h1 h2 => rfl)) (KOK.cg hs2 (fun j h1 h2 => rfl)) (KOK.cg hs3 (fun j h1 h2 => rfl)) (TPQ.cg hs4 rfl rfl) (TBQ.cg hs5 (fun j => rfl) (fun j => rfl)) (IMG.cg hs6 (fun j => rfl) (fun j => rfl)) (HNQ.cg hs7 ⟨fun j _ => rfl, fun k _ => rfl⟩ ⟨fun j hj => rfl, fun k _ => rfl⟩) (IHQ.cg hs8 (fun j => rfl) ⟨fun j _ => rfl, fun k _ => rfl⟩ ⟨fun j _ => rfl, fun k _ => rfl⟩ ⟨fun j hj => rfl, fun k _ => rfl⟩ ⟨fun j hj => rfl, fun k _ => rfl⟩) (FQ.cg hs9 rfl rfl) (by omega)
 exact W14 (3072 + 1 : Int).toNat 0 (by omega) none (Or.inl rfl) none (Or.inl rfl) M0 (hH0.mono (by omega) (by omega)) 0 (by omega) hs1 hs2 hs3 hs4 hs5 hs6 hs7 hs8 hs9 (by omega)
