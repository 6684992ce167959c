/-! The law's loop. -/
theorem law_loop (n : Nat) (nn : Int) (hnn : (n : Int) = nn) (hn : 0 ≤ nn ∧ nn ≤ 3072) (f : Nat → Int) (hf : ∀ j, ∃ z, f j = z ∧ -2147483648 ≤ z ∧ z ≤ 2147483647) (F : Nat → JP) (c1f : ∀ k, k ≤ 512 → jstC shp PL (some (n, f)) 1000 (F k)) (c2f : ∀ k, k ≤ 512 → jreC PL 1000 (fun r _ => r = some (.inl 1)) (F k)) (c3f : ∀ k, k ≤ 512 → jcaC shp PL (JOk shp PJ 94) 1000 (F k))
 (cm : ∀ k : Nat, k < 512 → ∀ (X : Int) (L : JL) (a b : Int) (M : JM), 0 ≤ X → X ≤ 100000000 → HI X M → -2147483648 ≤ a → a ≤ 2147483647 → -2147483648 ≤ b → b ≤ 2147483647 → (∀ (v : Int) (M' : JM), 0 ≤ v → v ≤ 1 → HI X M' → (∀ c i, M'.1 c i = M.1 c i) → (∀ c i, c ≠ 198 → M'.2 c i = M.2 c i) → F (k + 1) 365 L [.inl v] M') → F k 362 L [.inr (.inr (.inl 198)), .inl b, .inl a, .inr (.inr (.inl 0))] M)
 (X : Int) (hX : 0 ≤ X ∧ X ≤ 0) (M0 : JM) (hH0 : HI X M0) (hs1 : SOK M0) (hs2 : KOK M0 0) (hs3 : KOK M0 1) (hs4 : TPQ M0) (hs5 : TBQ M0) (hs6 : IMG M0) (hs7 : HNQ M0) (hs8 : IHQ M0) : F 0 23 [some (.inr (.inr (.inr 0))), some (.inr (.inr (.inl 0))), some (.inr (.inr (.inl 173))), some (.inr (.inr (.inl 198))), some (.inl 0), none, none] [] M0 := by
 have hm := pl_law
 have W13 : ∀ (n14 : Nat) (b1 : Int) (hb1 : 0 ≤ b1 ∧ b1 ≤ 3072) (o2 : Option JV) (ho2 : o2 = none ∨ (∃ z, o2 = some (.inl z)) ∨ ∃ r, o2 = some (.inr (.inr r))) (o3 : Option JV) (ho3 : o3 = none ∨ (∃ z, o3 = some (.inl z)) ∨ ∃ r, o3 = some (.inr (.inr r))) (M4 : JM) (hH4 : HI (X + 8000 * b1) M4) (k : Nat) (hk : 6 * (k : Int) ≤ b1) (hs1 : SOK M4) (hs2 : KOK M4 0) (hs3 : KOK M4 1) (hs4 : TPQ M4) (hs5 : TBQ M4) (hs6 : IMG M4) (hs7 : HNQ M4) (hs8 : IHQ M4), (-b1 + 3072) < (n14 : Int) → F k 23 [some (.inr (.inr (.inr 0))), some (.inr (.inr (.inl 0))), some (.inr (.inr (.inl 173))), some (.inr (.inr (.inl 198))), some (.inl b1), o2, o3] [] M4 := by
  intro n14
  induction n14 with
  | zero => intros; omega
  | succ n14 ihW13 =>
   intro b1 hb1 o2 ho2 o3 ho3 M4 hH4 k hk hs1 hs2 hs3 hs4 hs5 hs6 hs7 hs8 hrW13
   have c1 := c1f k (by omega)
   have c2 := c2f k (by omega)
   have c3 := c3f k (by omega)
   refine jx_load c1 hm rfl rfl rfl rfl ?_
   refine jx_load c1 hm rfl rfl rfl rfl ?_
   refine jx_slen c1 hm rfl hnn ?_
   refine jy_bp c1 hm rfl (by decide) ?_
   refine jy_sub c1 hm (nn - 6) rfl (by omega) ?_
   refine jc_gt c1 hm 1451 rfl rfl (fun h15 => ?_) (fun h15 => ?_)
   ·
    refine jy_ic c1 hm rfl (by decide) ?_
    exact jx_retz c2 hm rfl rfl ⟨by omega, by omega⟩ rfl
   refine jx_load c1 hm rfl rfl rfl rfl ?_
   refine jx_load c1 hm rfl rfl rfl rfl ?_
   obtain ⟨z16, kz16, lz16, uz16⟩ := hf (b1).toNat
   refine jx_sald c1 hm rfl ⟨by omega, by omega⟩ kz16 ?_
   refine jy_bp c1 hm rfl (by decide) ?_
   refine jy_anr c1 hm rfl ⟨by omega, by omega⟩ (fun z17 lz17 uz17 => ?_)
   by_cases h18 : z17 = 0
   ·
    refine jx_tswI c1 hm 224 rfl ⟨by omega, by omega⟩ (by rw [h18] <;> rfl) rfl ?_
    refine jx_load c1 hm rfl rfl rfl rfl ?_
    refine jx_load c1 hm rfl rfl rfl rfl ?_
    refine jx_load c1 hm rfl rfl rfl rfl ?_
    refine jy_ic c1 hm rfl (by decide) ?_
    refine jy_add c1 hm (b1 + 1) rfl (by omega) ?_
    obtain ⟨z19, kz19, lz19, uz19⟩ := hf ((b1 + 1)).toNat
    refine jx_sald c1 hm rfl ⟨by omega, by omega⟩ kz19 ?_
    refine jx_load c1 hm rfl rfl rfl rfl ?_
    refine jx_load c1 hm rfl rfl rfl rfl ?_
    refine jy_ic c1 hm rfl (by decide) ?_
    refine jy_add c1 hm (b1 + 2) rfl (by omega) ?_
    obtain ⟨z20, kz20, lz20, uz20⟩ := hf ((b1 + 2)).toNat
    refine jx_sald c1 hm rfl ⟨by omega, by omega⟩ kz20 ?_
    refine jx_load c1 hm rfl rfl rfl rfl ?_
    refine jx_load c1 hm rfl rfl rfl rfl ?_
    refine jy_ic c1 hm rfl (by decide) ?_
    refine jy_add c1 hm (b1 + 3) rfl (by omega) ?_
    obtain ⟨z21, kz21, lz21, uz21⟩ := hf ((b1 + 3)).toNat
    refine jx_sald c1 hm rfl ⟨by omega, by omega⟩ kz21 ?_
    refine jx_load c1 hm rfl rfl rfl rfl ?_
    refine jx_load c1 hm rfl rfl rfl rfl ?_
    refine jy_ic c1 hm rfl (by decide) ?_
    refine jy_add c1 hm (b1 + 4) rfl (by omega) ?_
    obtain ⟨z22, kz22, lz22, uz22⟩ := hf ((b1 + 4)).toNat
    refine jx_sald c1 hm rfl ⟨by omega, by omega⟩ kz22 ?_
    refine jx_load c1 hm rfl rfl rfl rfl ?_
    refine jx_load c1 hm rfl rfl rfl rfl ?_
    refine jy_ic c1 hm rfl (by decide) ?_
    refine jy_add c1 hm (b1 + 5) rfl (by omega) ?_
    obtain ⟨z23, kz23, lz23, uz23⟩ := hf ((b1 + 5)).toNat
    refine jx_sald c1 hm rfl ⟨by omega, by omega⟩ kz23 ?_
    obtain ⟨z24, k25, lz24, uz24⟩ := hH4.ld (c := 0) (i := 2) (A := 0) (B := 940) (bs_18_1 _ _ (by omega) (by omega))
    refine jv_i c3 hm rfl (plp pj_X11_feed rfl) rfl rfl ⟨_, _, _, rfl, sh_0⟩ rfl (((ct_X11_feed_0t (X + 8000 * b1) (by omega) M4 hH4 z19 ⟨by omega, by omega⟩ z20 ⟨by omega, by omega⟩ z21 ⟨by omega, by omega⟩ z22 ⟨by omega, by omega⟩ z23 ⟨by omega, by omega⟩).lki (by decide +kernel) rfl).le (by decide)) (fun z26 M31 ⟨⟨hH31, hR31, lz26, uz26, p27, p28, p29, p30⟩, hL31⟩ => ?_)
    obtain ⟨z32, k33, lz32, uz32⟩ := hH31.ld (c := 0) (i := 2) (A := 0) (B := 940) (bs_18_1 _ _ (by omega) (by omega))
    refine jx_pop c1 hm rfl rfl ?_
    refine jx_load c1 hm rfl rfl rfl rfl ?_
    refine jx_load c1 hm rfl rfl rfl rfl ?_
    refine jx_load c1 hm rfl rfl rfl rfl ?_
    refine jy_ic c1 hm rfl (by decide) ?_
    refine jy_add c1 hm (b1 + 1) rfl (by omega) ?_
    obtain ⟨z34, kz34, lz34, uz34⟩ := hf ((b1 + 1)).toNat
    refine jx_sald c1 hm rfl ⟨by omega, by omega⟩ kz34 ?_
    refine jx_load c1 hm rfl rfl rfl rfl ?_
    refine jx_load c1 hm rfl rfl rfl rfl ?_
    refine jy_ic c1 hm rfl (by decide) ?_
    refine jy_add c1 hm (b1 + 2) rfl (by omega) ?_
    obtain ⟨z35, kz35, lz35, uz35⟩ := hf ((b1 + 2)).toNat
    refine jx_sald c1 hm rfl ⟨by omega, by omega⟩ kz35 ?_
    refine jx_load c1 hm rfl rfl rfl rfl ?_
    refine jx_load c1 hm rfl rfl rfl rfl ?_
    refine jy_ic c1 hm rfl (by decide) ?_
    refine jy_add c1 hm (b1 + 3) rfl (by omega) ?_
    obtain ⟨z36, kz36, lz36, uz36⟩ := hf ((b1 + 3)).toNat
    refine jx_sald c1 hm rfl ⟨by omega, by omega⟩ kz36 ?_
    refine jx_load c1 hm rfl rfl rfl rfl ?_
    refine jx_load c1 hm rfl rfl rfl rfl ?_
    refine jy_ic c1 hm rfl (by decide) ?_
    refine jy_add c1 hm (b1 + 4) rfl (by omega) ?_
    obtain ⟨z37, kz37, lz37, uz37⟩ := hf ((b1 + 4)).toNat
    refine jx_sald c1 hm rfl ⟨by omega, by omega⟩ kz37 ?_
    refine jx_load c1 hm rfl rfl rfl rfl ?_
    refine jx_load c1 hm rfl rfl rfl rfl ?_
    refine jy_ic c1 hm rfl (by decide) ?_
    refine jy_add c1 hm (b1 + 5) rfl (by omega) ?_
    obtain ⟨z38, kz38, lz38, uz38⟩ := hf ((b1 + 5)).toNat
    refine jx_sald c1 hm rfl ⟨by omega, by omega⟩ kz38 ?_
    obtain ⟨z39, k40, lz39, uz39⟩ := hH31.ld (c := 173) (i := 2) (A := 0) (B := 940) (bs_28_1 _ _ (by omega) (by omega))
    refine jv_i c3 hm rfl (plp pj_X12_feed rfl) rfl rfl ⟨_, _, _, rfl, sh_173⟩ rfl (((ct_X12_feed_173t (X + 8000 * b1) (by omega) M31 hH31 z34 ⟨by omega, by omega⟩ z35 ⟨by omega, by omega⟩ z36 ⟨by omega, by omega⟩ z37 ⟨by omega, by omega⟩ z38 ⟨by omega, by omega⟩).lki (by decide +kernel) rfl).le (by decide)) (fun z41 M46 ⟨⟨hH46, hR46, lz41, uz41, p42, p43, p44, p45⟩, hL46⟩ => ?_)
    obtain ⟨z47, k48, lz47, uz47⟩ := hH46.ld (c := 173) (i := 2) (A := 0) (B := 940) (bs_28_1 _ _ (by omega) (by omega))
    refine jx_pop c1 hm rfl rfl ?_
    refine jx_goto c1 hm 1445 rfl rfl ?_
    refine jx_iinc c1 hm (v := (b1 + 6)) (L' := [some (.inr (.inr (.inr 0))), some (.inr (.inr (.inl 0))), some (.inr (.inr (.inl 173))), some (.inr (.inr (.inl 198))), some (.inl (b1 + 6)), o2, o3]) rfl rfl (by omega) (by omega) rfl ?_
    refine jx_goto c1 hm 23 rfl rfl ?_
    exact ihW13 (b1 + 6) (by omega) o2 ho2 o3 ho3 M46 (hH46.mono (by omega) (by omega)) k (by omega) (SOK.cg hs1 (fun j h1 h2 => ((hR46 175 j rfl).trans (hR31 175 j rfl)))) (KOK.cg hs2 (fun j h1 h2 => ((hR46 177 j rfl).trans (hR31 177 j rfl)))) (KOK.cg hs3 (fun j h1 h2 => ((hR46 177 j rfl).trans (hR31 177 j rfl)))) (TPQ.of (by have y9 := hs4.e; have y90_0 := hR46 0 2 rfl; have y91_173 := hR31 173 2 rfl; omega)) (TBQ.feed hs5 hs4 (kz19.symm.trans kz34) (kz20.symm.trans kz35) (kz21.symm.trans kz36) (kz22.symm.trans kz37) (kz23.symm.trans kz38) p29 p30 (fun j => hR31 174 j rfl) (hR31 173 2 rfl) p44 p45 (fun j => hR46 2 j rfl) (hR46 0 2 rfl)) (IMG.cg hs6 (fun j => ((hR46 46 j rfl).trans (hR31 46 j rfl))) (fun j => ((hR46 183 j rfl).trans (hR31 183 j rfl)))) (HNQ.cg hs7 ⟨fun j _ => ((hR46 6 j rfl).trans (hR31 6 j rfl)), fun k _ => ((hL46 7 k (by decide +kernel)).trans (hL31 7 k (by decide +kernel)))⟩ ⟨fun j hj => ((hR46 175 (0 + j) rfl).trans (hR31 175 (0 + j) rfl)), fun k _ => ((hL46 180 (0 + k) (by decide +kernel)).trans (hL31 180 (0 + k) (by decide +kernel)))⟩) (IHQ.cg hs8 (fun j => ((hR46 46 j rfl).trans (hR31 46 j rfl))) ⟨fun j _ => ((hR46 138 j rfl).trans (hR31 138 j rfl)), fun k _ => ((hL46 139 k (by decide +kernel)).trans (hL31 139 k (by decide +kernel)))⟩ ⟨fun j _ => ((hR46 156 j rfl).trans (hR31 156 j rfl)), fun k _ => ((hL46 157 k (by decide +kernel)).trans (hL31 157 k (by decide +kernel)))⟩ ⟨fun j hj => ((hR46 177 (0 + j) rfl).trans (hR31 177 (0 + j) rfl)), fun k _ => ((hL46 182 (0 + k) (by decide +kernel)).trans (hL31 182 (0 + k) (by decide +kernel)))⟩ ⟨fun j hj => ((hR46 177 (476 + j) rfl).trans (hR31 177 (476 + j) rfl)), fun k _ => ((hL46 182 (18 + k) (by decide +kernel)).trans (hL31 182 (18 + k) (by decide +kernel)))⟩) (by omega)
   by_cases h49 : z17 = 1
   ·
    refine jx_tswI c1 hm 297 rfl ⟨by omega, by omega⟩ (by rw [h49] <;> rfl) rfl ?_
    refine jx_load c1 hm rfl rfl rfl rfl ?_
    refine jx_load c1 hm rfl rfl rfl rfl ?_
    refine jx_load c1 hm rfl rfl rfl rfl ?_
    refine jy_ic c1 hm rfl (by decide) ?_
    refine jy_add c1 hm (b1 + 1) rfl (by omega) ?_
    obtain ⟨z50, kz50, lz50, uz50⟩ := hf ((b1 + 1)).toNat
    refine jx_sald c1 hm rfl ⟨by omega, by omega⟩ kz50 ?_
    obtain ⟨z51, k52, lz51, uz51⟩ := hH4.ld (c := 0) (i := 2) (A := 0) (B := 940) (bs_18_1 _ _ (by omega) (by omega))
    refine jv_i c3 hm rfl (plp pj_X11_end rfl) rfl rfl ⟨_, _, _, rfl, sh_0⟩ rfl (((ct_X11_end_0t (X + 8000 * b1) (by omega) M4 hH4 z50 ⟨by omega, by omega⟩).lki (by decide +kernel) rfl).le (by decide)) (fun z53 M56 ⟨⟨hH56, hR56, lz53, uz53, p54, p55⟩, hL56⟩ => ?_)
    obtain ⟨z57, k58, lz57, uz57⟩ := hH56.ld (c := 0) (i := 2) (A := 0) (B := 940) (bs_18_1 _ _ (by omega) (by omega))
    refine jx_pop c1 hm rfl rfl ?_
    refine jx_load c1 hm rfl rfl rfl rfl ?_
    refine jx_load c1 hm rfl rfl rfl rfl ?_
    refine jx_load c1 hm rfl rfl rfl rfl ?_
    refine jy_ic c1 hm rfl (by decide) ?_
    refine jy_add c1 hm (b1 + 1) rfl (by omega) ?_
    obtain ⟨z59, kz59, lz59, uz59⟩ := hf ((b1 + 1)).toNat
    refine jx_sald c1 hm rfl ⟨by omega, by omega⟩ kz59 ?_
    obtain ⟨z60, k61, lz60, uz60⟩ := hH56.ld (c := 173) (i := 2) (A := 0) (B := 940) (bs_28_1 _ _ (by omega) (by omega))
    refine jv_i c3 hm rfl (plp pj_X12_end rfl) rfl rfl ⟨_, _, _, rfl, sh_173⟩ rfl (((ct_X12_end_173t (X + 8000 * b1) (by omega) M56 hH56 z59 ⟨by omega, by omega⟩).lki (by decide +kernel) rfl).le (by decide)) (fun z62 M65 ⟨⟨hH65, hR65, lz62, uz62, p63, p64⟩, hL65⟩ => ?_)
    obtain ⟨z66, k67, lz66, uz66⟩ := hH65.ld (c := 173) (i := 2) (A := 0) (B := 940) (bs_28_1 _ _ (by omega) (by omega))
    refine jx_pop c1 hm rfl rfl ?_
    refine jx_goto c1 hm 1445 rfl rfl ?_
    refine jx_iinc c1 hm (v := (b1 + 6)) (L' := [some (.inr (.inr (.inr 0))), some (.inr (.inr (.inl 0))), some (.inr (.inr (.inl 173))), some (.inr (.inr (.inl 198))), some (.inl (b1 + 6)), o2, o3]) rfl rfl (by omega) (by omega) rfl ?_
    refine jx_goto c1 hm 23 rfl rfl ?_
    exact ihW13 (b1 + 6) (by omega) o2 ho2 o3 ho3 M65 (hH65.mono (by omega) (by omega)) k (by omega) (SOK.cg hs1 (fun j h1 h2 => ((hR65 175 j rfl).trans (hR56 175 j rfl)))) (KOK.cg hs2 (fun j h1 h2 => ((hR65 177 j rfl).trans (hR56 177 j rfl)))) (KOK.cg hs3 (fun j h1 h2 => ((hR65 177 j rfl).trans (hR56 177 j rfl)))) (TPQ.of (by have y9 := hs4.e; have y90_0 := hR65 0 2 rfl; have y91_173 := hR56 173 2 rfl; omega)) (TBQ.cg hs5 (fun j => ((hR65 2 j rfl).trans (hR56 2 j rfl))) (fun j => ((hR65 174 j rfl).trans (hR56 174 j rfl)))) (IMG.cg hs6 (fun j => ((hR65 46 j rfl).trans (hR56 46 j rfl))) (fun j => ((hR65 183 j rfl).trans (hR56 183 j rfl)))) (HNQ.cg hs7 ⟨fun j _ => ((hR65 6 j rfl).trans (hR56 6 j rfl)), fun k _ => ((hL65 7 k (by decide +kernel)).trans (hL56 7 k (by decide +kernel)))⟩ ⟨fun j hj => ((hR65 175 (0 + j) rfl).trans (hR56 175 (0 + j) rfl)), fun k _ => ((hL65 180 (0 + k) (by decide +kernel)).trans (hL56 180 (0 + k) (by decide +kernel)))⟩) (IHQ.cg hs8 (fun j => ((hR65 46 j rfl).trans (hR56 46 j rfl))) ⟨fun j _ => ((hR65 138 j rfl).trans (hR56 138 j rfl)), fun k _ => ((hL65 139 k (by decide +kernel)).trans (hL56 139 k (by decide +kernel)))⟩ ⟨fun j _ => ((hR65 156 j rfl).trans (hR56 156 j rfl)), fun k _ => ((hL65 157 k (by decide +kernel)).trans (hL56 157 k (by decide +kernel)))⟩ ⟨fun j hj => ((hR65 177 (0 + j) rfl).trans (hR56 177 (0 + j) rfl)), fun k _ => ((hL65 182 (0 + k) (by decide +kernel)).trans (hL56 182 (0 + k) (by decide +kernel)))⟩ ⟨fun j hj => ((hR65 177 (476 + j) rfl).trans (hR56 177 (476 + j) rfl)), fun k _ => ((hL65 182 (18 + k) (by decide +kernel)).trans (hL56 182 (18 + k) (by decide +kernel)))⟩) (by omega)
   by_cases h68 : z17 = 2
   ·
    refine jx_tswI c1 hm 322 rfl ⟨by omega, by omega⟩ (by rw [h68] <;> rfl) rfl ?_
    refine jx_load c1 hm rfl rfl rfl rfl ?_
    obtain ⟨z69, k70, lz69, uz69⟩ := hH4.ld (c := 0) (i := 2) (A := 0) (B := 940) (bs_18_1 _ _ (by omega) (by omega))
    refine jv_i c3 hm rfl (plp pj_X11_duchy rfl) rfl rfl ⟨_, _, _, rfl, sh_0⟩ rfl ((ct_X11_duchy_0n (X + 8000 * b1) (by omega) M4 hH4 ).le (by decide)) (fun z71 M77 ⟨hH77, hR77, lz71, uz71, p72, p73, p74, p75, p76⟩ => ?_)
    obtain ⟨z78, k79, lz78, uz78⟩ := hH77.ld (c := 0) (i := 2) (A := 0) (B := 940) (bs_18_1 _ _ (by omega) (by omega))
    refine jx_pop c1 hm rfl rfl ?_
    refine jx_load c1 hm rfl rfl rfl rfl ?_
    obtain ⟨z80, k81, lz80, uz80⟩ := hH77.ld (c := 173) (i := 2) (A := 0) (B := 940) (bs_28_1 _ _ (by omega) (by omega))
    refine jv_i c3 hm rfl (plp pj_X12_duchy rfl) rfl rfl ⟨_, _, _, rfl, sh_173⟩ rfl ((ct_X12_duchy_173n (X + 8000 * b1) (by omega) M77 hH77 (SOK.cg hs1 (fun j h1 h2 => (hR77 175 j rfl)))).le (by decide)) (fun z82 M90 ⟨hH90, hR90, lz82, uz82, p83, p84, p85, p86, p87, p88, p89⟩ => ?_)
    obtain ⟨z91, k92, lz91, uz91⟩ := hH90.ld (c := 175) (i := 234) (A := (-2147483648)) (B := 2147483647) (bs_11_11 _ _ (by omega) (by omega))
    obtain ⟨z93, k94, lz93, uz93⟩ := hH90.ld (c := 173) (i := 2) (A := 0) (B := 940) (bs_28_1 _ _ (by omega) (by omega))
    refine jx_pop c1 hm rfl rfl ?_
    refine jx_goto c1 hm 1445 rfl rfl ?_
    refine jx_iinc c1 hm (v := (b1 + 6)) (L' := [some (.inr (.inr (.inr 0))), some (.inr (.inr (.inl 0))), some (.inr (.inr (.inl 173))), some (.inr (.inr (.inl 198))), some (.inl (b1 + 6)), o2, o3]) rfl rfl (by omega) (by omega) rfl ?_
    refine jx_goto c1 hm 23 rfl rfl ?_
    exact ihW13 (b1 + 6) (by omega) o2 ho2 o3 ho3 M90 (hH90.mono (by omega) (by omega)) k (by omega) p83 (KOK.cg hs2 (fun j h1 h2 => ((hR90 177 j rfl).trans (hR77 177 j rfl)))) (KOK.cg hs3 (fun j h1 h2 => ((hR90 177 j rfl).trans (hR77 177 j rfl)))) (TPQ.of (by have y9 := hs4.e; have y90_0 := hR90 0 2 rfl; have y91_173 := hR77 173 2 rfl; omega)) (TBQ.cg hs5 (fun j => ((hR90 2 j rfl).trans (hR77 2 j rfl))) (fun j => ((hR90 174 j rfl).trans (hR77 174 j rfl)))) (IMG.cg hs6 (fun j => ((hR90 46 j rfl).trans (hR77 46 j rfl))) (fun j => ((hR90 183 j rfl).trans (hR77 183 j rfl)))) (HNQ.du hs7 hs5 hs4 p72 p74 p75 (fun j => hR77 174 j rfl) (hR77 173 2 rfl) ⟨fun j hj => (hR77 175 (0 + j) rfl), fun k _ => (p76 180 (0 + k) (by decide +kernel) rfl)⟩ p85 p87 p88 ⟨fun j _ => (hR90 6 j rfl), fun k _ => (p89 7 k (by decide +kernel) rfl)⟩) (IHQ.cg hs8 (fun j => ((hR90 46 j rfl).trans (hR77 46 j rfl))) ⟨fun j _ => ((hR90 138 j rfl).trans (hR77 138 j rfl)), fun k _ => ((p89 139 k (by decide +kernel) rfl).trans (p76 139 k (by decide +kernel) rfl))⟩ ⟨fun j _ => ((hR90 156 j rfl).trans (hR77 156 j rfl)), fun k _ => ((p89 157 k (by decide +kernel) rfl).trans (p76 157 k (by decide +kernel) rfl))⟩ ⟨fun j hj => ((hR90 177 (0 + j) rfl).trans (hR77 177 (0 + j) rfl)), fun k _ => ((p89 182 (0 + k) (by decide +kernel) rfl).trans (p76 182 (0 + k) (by decide +kernel) rfl))⟩ ⟨fun j hj => ((hR90 177 (476 + j) rfl).trans (hR77 177 (476 + j) rfl)), fun k _ => ((p89 182 (18 + k) (by decide +kernel) rfl).trans (p76 182 (18 + k) (by decide +kernel) rfl))⟩) (by omega)
   by_cases h95 : z17 = 3
   ·
    refine jx_tswI c1 hm 335 rfl ⟨by omega, by omega⟩ (by rw [h95] <;> rfl) rfl ?_
    refine jx_load c1 hm rfl rfl rfl rfl ?_
    refine jv_i c3 hm rfl (plp pj_X11_fault rfl) rfl rfl ⟨_, _, _, rfl, sh_0⟩ rfl ((ct_X11_fault_0 (X + 8000 * b1) (by omega) M4 hH4 ).le (by decide)) (fun z96 _ ⟨rfl, lz96, uz96⟩ => ?_)
    refine jx_pop c1 hm rfl rfl ?_
    refine jx_load c1 hm rfl rfl rfl rfl ?_
    refine jv_i c3 hm rfl (plp pj_X12_fault rfl) rfl rfl ⟨_, _, _, rfl, sh_173⟩ rfl (((ct_X12_fault_173 (X + 8000 * b1) (by omega) M4 hH4 ).lki (by decide +kernel) rfl).le (by decide)) (fun z97 M98 ⟨⟨hH98, hR98, lz97, uz97⟩, hL98⟩ => ?_)
    refine jx_pop c1 hm rfl rfl ?_
    refine jx_goto c1 hm 1445 rfl rfl ?_
    refine jx_iinc c1 hm (v := (b1 + 6)) (L' := [some (.inr (.inr (.inr 0))), some (.inr (.inr (.inl 0))), some (.inr (.inr (.inl 173))), some (.inr (.inr (.inl 198))), some (.inl (b1 + 6)), o2, o3]) rfl rfl (by omega) (by omega) rfl ?_
    refine jx_goto c1 hm 23 rfl rfl ?_
    exact ihW13 (b1 + 6) (by omega) o2 ho2 o3 ho3 M98 (hH98.mono (by omega) (by omega)) k (by omega) (SOK.cg hs1 (fun j h1 h2 => (hR98 175 j rfl))) (KOK.cg hs2 (fun j h1 h2 => (hR98 177 j rfl))) (KOK.cg hs3 (fun j h1 h2 => (hR98 177 j rfl))) (TPQ.cg hs4 (hR98 0 2 rfl) (hR98 173 2 rfl)) (TBQ.cg hs5 (fun j => (hR98 2 j rfl)) (fun j => (hR98 174 j rfl))) (IMG.cg hs6 (fun j => (hR98 46 j rfl)) (fun j => (hR98 183 j rfl))) (HNQ.cg hs7 ⟨fun j _ => (hR98 6 j rfl), fun k _ => (hL98 7 k (by decide +kernel))⟩ ⟨fun j hj => (hR98 175 (0 + j) rfl), fun k _ => (hL98 180 (0 + k) (by decide +kernel))⟩) (IHQ.cg hs8 (fun j => (hR98 46 j rfl)) ⟨fun j _ => (hR98 138 j rfl), fun k _ => (hL98 139 k (by decide +kernel))⟩ ⟨fun j _ => (hR98 156 j rfl), fun k _ => (hL98 157 k (by decide +kernel))⟩ ⟨fun j hj => (hR98 177 (0 + j) rfl), fun k _ => (hL98 182 (0 + k) (by decide +kernel))⟩ ⟨fun j hj => (hR98 177 (476 + j) rfl), fun k _ => (hL98 182 (18 + k) (by decide +kernel))⟩) (by omega)
   by_cases h99 : z17 = 4
   ·
    refine jx_tswI c1 hm 348 rfl ⟨by omega, by omega⟩ (by rw [h99] <;> rfl) rfl ?_
    refine jx_load c1 hm rfl rfl rfl rfl ?_
    refine jx_load c1 hm rfl rfl rfl rfl ?_
    refine jx_load c1 hm rfl rfl rfl rfl ?_
    refine jy_ic c1 hm rfl (by decide) ?_
    refine jy_add c1 hm (b1 + 1) rfl (by omega) ?_
    obtain ⟨z100, kz100, lz100, uz100⟩ := hf ((b1 + 1)).toNat
    refine jx_sald c1 hm rfl ⟨by omega, by omega⟩ kz100 ?_
    refine jx_load c1 hm rfl rfl rfl rfl ?_
    refine jx_load c1 hm rfl rfl rfl rfl ?_
    refine jy_ic c1 hm rfl (by decide) ?_
    refine jy_add c1 hm (b1 + 2) rfl (by omega) ?_
    obtain ⟨z101, kz101, lz101, uz101⟩ := hf ((b1 + 2)).toNat
    refine jx_sald c1 hm rfl ⟨by omega, by omega⟩ kz101 ?_
    refine jx_load c1 hm rfl rfl rfl rfl ?_
    refine cm k (by omega) (X + 8000 * b1) _ z100 z101 M4 (by omega) (by omega) hH4 (by omega) (by omega) (by omega) (by omega) (fun z102 M103 lz102 uz102 hH103 y103 yl103 => ?_)
    have c1 := c1f (k + 1) (by omega)
    have c2 := c2f (k + 1) (by omega)
    have c3 := c3f (k + 1) (by omega)
    refine jx_stor c1 hm (L' := [some (.inr (.inr (.inr 0))), some (.inr (.inr (.inl 0))), some (.inr (.inr (.inl 173))), some (.inr (.inr (.inl 198))), some (.inl b1), some (.inl z102), o3]) rfl rfl rfl rfl rfl ?_
    refine jx_load c1 hm rfl rfl rfl rfl ?_
    refine jx_load c1 hm rfl rfl rfl rfl ?_
    refine jx_load c1 hm rfl rfl rfl rfl ?_
    refine jy_ic c1 hm rfl (by decide) ?_
    refine jy_add c1 hm (b1 + 1) rfl (by omega) ?_
    obtain ⟨z104, kz104, lz104, uz104⟩ := hf ((b1 + 1)).toNat
    refine jx_sald c1 hm rfl ⟨by omega, by omega⟩ kz104 ?_
    refine jx_load c1 hm rfl rfl rfl rfl ?_
    refine jx_load c1 hm rfl rfl rfl rfl ?_
    refine jy_ic c1 hm rfl (by decide) ?_
    refine jy_add c1 hm (b1 + 2) rfl (by omega) ?_
    obtain ⟨z105, kz105, lz105, uz105⟩ := hf ((b1 + 2)).toNat
    refine jx_sald c1 hm rfl ⟨by omega, by omega⟩ kz105 ?_
    refine jv_i c3 hm rfl (plp pj_X12_man rfl) rfl rfl ⟨_, _, _, rfl, sh_173⟩ rfl (((ct_X12_man_173 (X + 8000 * b1) (by omega) M103 hH103 z104 ⟨by omega, by omega⟩ z105 ⟨by omega, by omega⟩).lki (by decide +kernel) rfl).le (by decide)) (fun z106 M107 ⟨⟨hH107, hR107, lz106, uz106⟩, hL107⟩ => ?_)
    refine jx_stor c1 hm (L' := [some (.inr (.inr (.inr 0))), some (.inr (.inr (.inl 0))), some (.inr (.inr (.inl 173))), some (.inr (.inr (.inl 198))), some (.inl b1), some (.inl z102), some (.inl z106)]) rfl rfl rfl rfl rfl ?_
    refine jx_goto c1 hm 1445 rfl rfl ?_
    refine jx_iinc c1 hm (v := (b1 + 6)) (L' := [some (.inr (.inr (.inr 0))), some (.inr (.inr (.inl 0))), some (.inr (.inr (.inl 173))), some (.inr (.inr (.inl 198))), some (.inl (b1 + 6)), some (.inl z102), some (.inl z106)]) rfl rfl (by omega) (by omega) rfl ?_
    refine jx_goto c1 hm 23 rfl rfl ?_
    exact ihW13 (b1 + 6) (by omega) (some (.inl z102)) (Or.inr (Or.inl ⟨_, rfl⟩)) (some (.inl z106)) (Or.inr (Or.inl ⟨_, rfl⟩)) M107 (hH107.mono (by omega) (by omega)) (k + 1) (by omega) (SOK.cg hs1 (fun j h1 h2 => ((hR107 175 j rfl).trans (y103 175 j)))) (KOK.cg hs2 (fun j h1 h2 => ((hR107 177 j rfl).trans (y103 177 j)))) (KOK.cg hs3 (fun j h1 h2 => ((hR107 177 j rfl).trans (y103 177 j)))) (TPQ.cg hs4 ((hR107 0 2 rfl).trans (y103 0 2)) ((hR107 173 2 rfl).trans (y103 173 2))) (TBQ.cg hs5 (fun j => ((hR107 2 j rfl).trans (y103 2 j))) (fun j => ((hR107 174 j rfl).trans (y103 174 j)))) (IMG.cg hs6 (fun j => ((hR107 46 j rfl).trans (y103 46 j))) (fun j => ((hR107 183 j rfl).trans (y103 183 j)))) (HNQ.cg hs7 ⟨fun j _ => ((hR107 6 j rfl).trans (y103 6 j)), fun k _ => ((hL107 7 k (by decide +kernel)).trans (yl103 7 k (by decide)))⟩ ⟨fun j hj => ((hR107 175 (0 + j) rfl).trans (y103 175 (0 + j))), fun k _ => ((hL107 180 (0 + k) (by decide +kernel)).trans (yl103 180 (0 + k) (by decide)))⟩) (IHQ.cg hs8 (fun j => ((hR107 46 j rfl).trans (y103 46 j))) ⟨fun j _ => ((hR107 138 j rfl).trans (y103 138 j)), fun k _ => ((hL107 139 k (by decide +kernel)).trans (yl103 139 k (by decide)))⟩ ⟨fun j _ => ((hR107 156 j rfl).trans (y103 156 j)), fun k _ => ((hL107 157 k (by decide +kernel)).trans (yl103 157 k (by decide)))⟩ ⟨fun j hj => ((hR107 177 (0 + j) rfl).trans (y103 177 (0 + j))), fun k _ => ((hL107 182 (0 + k) (by decide +kernel)).trans (yl103 182 (0 + k) (by decide)))⟩ ⟨fun j hj => ((hR107 177 (476 + j) rfl).trans (y103 177 (476 + j))), fun k _ => ((hL107 182 (18 + k) (by decide +kernel)).trans (yl103 182 (18 + k) (by decide)))⟩) (by omega)
   by_cases h108 : z17 = 5
   ·
    refine jx_tswI c1 hm 388 rfl ⟨by omega, by omega⟩ (by rw [h108] <;> rfl) rfl ?_
    refine jx_load c1 hm rfl rfl rfl rfl ?_
    refine jx_load c1 hm rfl rfl rfl rfl ?_
    refine jx_load c1 hm rfl rfl rfl rfl ?_
    refine jy_ic c1 hm rfl (by decide) ?_
    refine jy_add c1 hm (b1 + 1) rfl (by omega) ?_
    obtain ⟨z109, kz109, lz109, uz109⟩ := hf ((b1 + 1)).toNat
    refine jx_sald c1 hm rfl ⟨by omega, by omega⟩ kz109 ?_
    refine jx_load c1 hm rfl rfl rfl rfl ?_
    refine jx_load c1 hm rfl rfl rfl rfl ?_
    refine jy_ic c1 hm rfl (by decide) ?_
    refine jy_add c1 hm (b1 + 2) rfl (by omega) ?_
    obtain ⟨z110, kz110, lz110, uz110⟩ := hf ((b1 + 2)).toNat
    refine jx_sald c1 hm rfl ⟨by omega, by omega⟩ kz110 ?_
    refine jv_i c3 hm rfl (plp pj_X11_cost rfl) rfl rfl ⟨_, _, _, rfl, sh_0⟩ rfl ((ct_X11_cost_0 (X + 8000 * b1) (by omega) M4 hH4 z109 ⟨by omega, by omega⟩ z110 ⟨by omega, by omega⟩).le (by decide)) (fun z111 _ ⟨rfl, lz111, uz111⟩ => ?_)
    refine jx_pop c1 hm rfl rfl ?_
    refine jx_load c1 hm rfl rfl rfl rfl ?_
    refine jx_load c1 hm rfl rfl rfl rfl ?_
    refine jx_load c1 hm rfl rfl rfl rfl ?_
    refine jy_ic c1 hm rfl (by decide) ?_
    refine jy_add c1 hm (b1 + 1) rfl (by omega) ?_
    obtain ⟨z112, kz112, lz112, uz112⟩ := hf ((b1 + 1)).toNat
    refine jx_sald c1 hm rfl ⟨by omega, by omega⟩ kz112 ?_
    refine jx_load c1 hm rfl rfl rfl rfl ?_
    refine jx_load c1 hm rfl rfl rfl rfl ?_
    refine jy_ic c1 hm rfl (by decide) ?_
    refine jy_add c1 hm (b1 + 2) rfl (by omega) ?_
    obtain ⟨z113, kz113, lz113, uz113⟩ := hf ((b1 + 2)).toNat
    refine jx_sald c1 hm rfl ⟨by omega, by omega⟩ kz113 ?_
    refine jv_i c3 hm rfl (plp pj_X12_cost rfl) rfl rfl ⟨_, _, _, rfl, sh_173⟩ rfl (((ct_X12_cost_173 (X + 8000 * b1) (by omega) M4 hH4 z112 ⟨by omega, by omega⟩ z113 ⟨by omega, by omega⟩).lki (by decide +kernel) rfl).le (by decide)) (fun z114 M115 ⟨⟨hH115, hR115, lz114, uz114⟩, hL115⟩ => ?_)
    refine jx_pop c1 hm rfl rfl ?_
    refine jx_goto c1 hm 1445 rfl rfl ?_
    refine jx_iinc c1 hm (v := (b1 + 6)) (L' := [some (.inr (.inr (.inr 0))), some (.inr (.inr (.inl 0))), some (.inr (.inr (.inl 173))), some (.inr (.inr (.inl 198))), some (.inl (b1 + 6)), o2, o3]) rfl rfl (by omega) (by omega) rfl ?_
    refine jx_goto c1 hm 23 rfl rfl ?_
    exact ihW13 (b1 + 6) (by omega) o2 ho2 o3 ho3 M115 (hH115.mono (by omega) (by omega)) k (by omega) (SOK.cg hs1 (fun j h1 h2 => (hR115 175 j rfl))) (KOK.cg hs2 (fun j h1 h2 => (hR115 177 j rfl))) (KOK.cg hs3 (fun j h1 h2 => (hR115 177 j rfl))) (TPQ.cg hs4 (hR115 0 2 rfl) (hR115 173 2 rfl)) (TBQ.cg hs5 (fun j => (hR115 2 j rfl)) (fun j => (hR115 174 j rfl))) (IMG.cg hs6 (fun j => (hR115 46 j rfl)) (fun j => (hR115 183 j rfl))) (HNQ.cg hs7 ⟨fun j _ => (hR115 6 j rfl), fun k _ => (hL115 7 k (by decide +kernel))⟩ ⟨fun j hj => (hR115 175 (0 + j) rfl), fun k _ => (hL115 180 (0 + k) (by decide +kernel))⟩) (IHQ.cg hs8 (fun j => (hR115 46 j rfl)) ⟨fun j _ => (hR115 138 j rfl), fun k _ => (hL115 139 k (by decide +kernel))⟩ ⟨fun j _ => (hR115 156 j rfl), fun k _ => (hL115 157 k (by decide +kernel))⟩ ⟨fun j hj => (hR115 177 (0 + j) rfl), fun k _ => (hL115 182 (0 + k) (by decide +kernel))⟩ ⟨fun j hj => (hR115 177 (476 + j) rfl), fun k _ => (hL115 182 (18 + k) (by decide +kernel))⟩) (by omega)
   by_cases h116 : z17 = 6
   ·
    refine jx_tswI c1 hm 425 rfl ⟨by omega, by omega⟩ (by rw [h116] <;> rfl) rfl ?_
    refine jx_load c1 hm rfl rfl rfl rfl ?_
    refine jx_load c1 hm rfl rfl rfl rfl ?_
    refine jx_load c1 hm rfl rfl rfl rfl ?_
    refine jy_ic c1 hm rfl (by decide) ?_
    refine jy_add c1 hm (b1 + 1) rfl (by omega) ?_
    obtain ⟨z117, kz117, lz117, uz117⟩ := hf ((b1 + 1)).toNat
    refine jx_sald c1 hm rfl ⟨by omega, by omega⟩ kz117 ?_
    refine jx_load c1 hm rfl rfl rfl rfl ?_
    refine jx_load c1 hm rfl rfl rfl rfl ?_
    refine jy_ic c1 hm rfl (by decide) ?_
    refine jy_add c1 hm (b1 + 2) rfl (by omega) ?_
    obtain ⟨z118, kz118, lz118, uz118⟩ := hf ((b1 + 2)).toNat
    refine jx_sald c1 hm rfl ⟨by omega, by omega⟩ kz118 ?_
    refine jv_i c3 hm rfl (plp pj_X11_times rfl) rfl rfl ⟨_, _, _, rfl, sh_0⟩ rfl ((ct_X11_times_0 (X + 8000 * b1) (by omega) M4 hH4 z117 ⟨by omega, by omega⟩ z118 ⟨by omega, by omega⟩).le (by decide)) (fun z119 _ ⟨rfl, lz119, uz119⟩ => ?_)
    refine jx_pop c1 hm rfl rfl ?_
    refine jx_load c1 hm rfl rfl rfl rfl ?_
    refine jx_load c1 hm rfl rfl rfl rfl ?_
    refine jx_load c1 hm rfl rfl rfl rfl ?_
    refine jy_ic c1 hm rfl (by decide) ?_
    refine jy_add c1 hm (b1 + 1) rfl (by omega) ?_
    obtain ⟨z120, kz120, lz120, uz120⟩ := hf ((b1 + 1)).toNat
    refine jx_sald c1 hm rfl ⟨by omega, by omega⟩ kz120 ?_
    refine jx_load c1 hm rfl rfl rfl rfl ?_
    refine jx_load c1 hm rfl rfl rfl rfl ?_
    refine jy_ic c1 hm rfl (by decide) ?_
    refine jy_add c1 hm (b1 + 2) rfl (by omega) ?_
    obtain ⟨z121, kz121, lz121, uz121⟩ := hf ((b1 + 2)).toNat
    refine jx_sald c1 hm rfl ⟨by omega, by omega⟩ kz121 ?_
    refine jv_i c3 hm rfl (plp pj_X12_times rfl) rfl rfl ⟨_, _, _, rfl, sh_173⟩ rfl (((ct_X12_times_173 (X + 8000 * b1) (by omega) M4 hH4 z120 ⟨by omega, by omega⟩ z121 ⟨by omega, by omega⟩).lki (by decide +kernel) rfl).le (by decide)) (fun z122 M123 ⟨⟨hH123, hR123, lz122, uz122⟩, hL123⟩ => ?_)
    refine jx_pop c1 hm rfl rfl ?_
    refine jx_goto c1 hm 1445 rfl rfl ?_
    refine jx_iinc c1 hm (v := (b1 + 6)) (L' := [some (.inr (.inr (.inr 0))), some (.inr (.inr (.inl 0))), some (.inr (.inr (.inl 173))), some (.inr (.inr (.inl 198))), some (.inl (b1 + 6)), o2, o3]) rfl rfl (by omega) (by omega) rfl ?_
    refine jx_goto c1 hm 23 rfl rfl ?_
    exact ihW13 (b1 + 6) (by omega) o2 ho2 o3 ho3 M123 (hH123.mono (by omega) (by omega)) k (by omega) (SOK.cg hs1 (fun j h1 h2 => (hR123 175 j rfl))) (KOK.cg hs2 (fun j h1 h2 => (hR123 177 j rfl))) (KOK.cg hs3 (fun j h1 h2 => (hR123 177 j rfl))) (TPQ.cg hs4 (hR123 0 2 rfl) (hR123 173 2 rfl)) (TBQ.cg hs5 (fun j => (hR123 2 j rfl)) (fun j => (hR123 174 j rfl))) (IMG.cg hs6 (fun j => (hR123 46 j rfl)) (fun j => (hR123 183 j rfl))) (HNQ.cg hs7 ⟨fun j _ => (hR123 6 j rfl), fun k _ => (hL123 7 k (by decide +kernel))⟩ ⟨fun j hj => (hR123 175 (0 + j) rfl), fun k _ => (hL123 180 (0 + k) (by decide +kernel))⟩) (IHQ.cg hs8 (fun j => (hR123 46 j rfl)) ⟨fun j _ => (hR123 138 j rfl), fun k _ => (hL123 139 k (by decide +kernel))⟩ ⟨fun j _ => (hR123 156 j rfl), fun k _ => (hL123 157 k (by decide +kernel))⟩ ⟨fun j hj => (hR123 177 (0 + j) rfl), fun k _ => (hL123 182 (0 + k) (by decide +kernel))⟩ ⟨fun j hj => (hR123 177 (476 + j) rfl), fun k _ => (hL123 182 (18 + k) (by decide +kernel))⟩) (by omega)
   by_cases h124 : z17 = 7
   ·
    refine jx_tswI c1 hm 462 rfl ⟨by omega, by omega⟩ (by rw [h124] <;> rfl) rfl ?_
    refine jx_load c1 hm rfl rfl rfl rfl ?_
    refine jx_load c1 hm rfl rfl rfl rfl ?_
    refine jx_load c1 hm rfl rfl rfl rfl ?_
    refine jy_ic c1 hm rfl (by decide) ?_
    refine jy_add c1 hm (b1 + 1) rfl (by omega) ?_
    obtain ⟨z125, kz125, lz125, uz125⟩ := hf ((b1 + 1)).toNat
    refine jx_sald c1 hm rfl ⟨by omega, by omega⟩ kz125 ?_
    refine jx_load c1 hm rfl rfl rfl rfl ?_
    refine jx_load c1 hm rfl rfl rfl rfl ?_
    refine jy_ic c1 hm rfl (by decide) ?_
    refine jy_add c1 hm (b1 + 2) rfl (by omega) ?_
    obtain ⟨z126, kz126, lz126, uz126⟩ := hf ((b1 + 2)).toNat
    refine jx_sald c1 hm rfl ⟨by omega, by omega⟩ kz126 ?_
    refine jv_i c3 hm rfl (plp pj_X11_bought rfl) rfl rfl ⟨_, _, _, rfl, sh_0⟩ rfl ((ct_X11_bought_0 (X + 8000 * b1) (by omega) M4 hH4 z125 ⟨by omega, by omega⟩ z126 ⟨by omega, by omega⟩).le (by decide)) (fun z127 _ ⟨rfl, lz127, uz127⟩ => ?_)
    refine jx_pop c1 hm rfl rfl ?_
    refine jx_load c1 hm rfl rfl rfl rfl ?_
    refine jx_load c1 hm rfl rfl rfl rfl ?_
    refine jx_load c1 hm rfl rfl rfl rfl ?_
    refine jy_ic c1 hm rfl (by decide) ?_
    refine jy_add c1 hm (b1 + 1) rfl (by omega) ?_
    obtain ⟨z128, kz128, lz128, uz128⟩ := hf ((b1 + 1)).toNat
    refine jx_sald c1 hm rfl ⟨by omega, by omega⟩ kz128 ?_
    refine jx_load c1 hm rfl rfl rfl rfl ?_
    refine jx_load c1 hm rfl rfl rfl rfl ?_
    refine jy_ic c1 hm rfl (by decide) ?_
    refine jy_add c1 hm (b1 + 2) rfl (by omega) ?_
    obtain ⟨z129, kz129, lz129, uz129⟩ := hf ((b1 + 2)).toNat
    refine jx_sald c1 hm rfl ⟨by omega, by omega⟩ kz129 ?_
    refine jv_i c3 hm rfl (plp pj_X12_bought rfl) rfl rfl ⟨_, _, _, rfl, sh_173⟩ rfl (((ct_X12_bought_173 (X + 8000 * b1) (by omega) M4 hH4 z128 ⟨by omega, by omega⟩ z129 ⟨by omega, by omega⟩).lki (by decide +kernel) rfl).le (by decide)) (fun z130 M131 ⟨⟨hH131, hR131, lz130, uz130⟩, hL131⟩ => ?_)
    refine jx_pop c1 hm rfl rfl ?_
    refine jx_goto c1 hm 1445 rfl rfl ?_
    refine jx_iinc c1 hm (v := (b1 + 6)) (L' := [some (.inr (.inr (.inr 0))), some (.inr (.inr (.inl 0))), some (.inr (.inr (.inl 173))), some (.inr (.inr (.inl 198))), some (.inl (b1 + 6)), o2, o3]) rfl rfl (by omega) (by omega) rfl ?_
    refine jx_goto c1 hm 23 rfl rfl ?_
    exact ihW13 (b1 + 6) (by omega) o2 ho2 o3 ho3 M131 (hH131.mono (by omega) (by omega)) k (by omega) (SOK.cg hs1 (fun j h1 h2 => (hR131 175 j rfl))) (KOK.cg hs2 (fun j h1 h2 => (hR131 177 j rfl))) (KOK.cg hs3 (fun j h1 h2 => (hR131 177 j rfl))) (TPQ.cg hs4 (hR131 0 2 rfl) (hR131 173 2 rfl)) (TBQ.cg hs5 (fun j => (hR131 2 j rfl)) (fun j => (hR131 174 j rfl))) (IMG.cg hs6 (fun j => (hR131 46 j rfl)) (fun j => (hR131 183 j rfl))) (HNQ.cg hs7 ⟨fun j _ => (hR131 6 j rfl), fun k _ => (hL131 7 k (by decide +kernel))⟩ ⟨fun j hj => (hR131 175 (0 + j) rfl), fun k _ => (hL131 180 (0 + k) (by decide +kernel))⟩) (IHQ.cg hs8 (fun j => (hR131 46 j rfl)) ⟨fun j _ => (hR131 138 j rfl), fun k _ => (hL131 139 k (by decide +kernel))⟩ ⟨fun j _ => (hR131 156 j rfl), fun k _ => (hL131 157 k (by decide +kernel))⟩ ⟨fun j hj => (hR131 177 (0 + j) rfl), fun k _ => (hL131 182 (0 + k) (by decide +kernel))⟩ ⟨fun j hj => (hR131 177 (476 + j) rfl), fun k _ => (hL131 182 (18 + k) (by decide +kernel))⟩) (by omega)
   by_cases h132 : z17 = 8
   ·
    refine jx_tswI c1 hm 499 rfl ⟨by omega, by omega⟩ (by rw [h132] <;> rfl) rfl ?_
    refine jx_load c1 hm rfl rfl rfl rfl ?_
    refine jx_load c1 hm rfl rfl rfl rfl ?_
    refine jx_load c1 hm rfl rfl rfl rfl ?_
    refine jy_ic c1 hm rfl (by decide) ?_
    refine jy_add c1 hm (b1 + 1) rfl (by omega) ?_
    obtain ⟨z133, kz133, lz133, uz133⟩ := hf ((b1 + 1)).toNat
    refine jx_sald c1 hm rfl ⟨by omega, by omega⟩ kz133 ?_
    refine jx_load c1 hm rfl rfl rfl rfl ?_
    refine jx_load c1 hm rfl rfl rfl rfl ?_
    refine jy_ic c1 hm rfl (by decide) ?_
    refine jy_add c1 hm (b1 + 2) rfl (by omega) ?_
    obtain ⟨z134, kz134, lz134, uz134⟩ := hf ((b1 + 2)).toNat
    refine jx_sald c1 hm rfl ⟨by omega, by omega⟩ kz134 ?_
    refine jv_i c3 hm rfl (plp pj_X11_good rfl) rfl rfl ⟨_, _, _, rfl, sh_0⟩ rfl ((ct_X11_good_0 (X + 8000 * b1) (by omega) M4 hH4 z133 ⟨by omega, by omega⟩ z134 ⟨by omega, by omega⟩).le (by decide)) (fun z135 _ ⟨rfl, lz135, uz135⟩ => ?_)
    refine jx_pop c1 hm rfl rfl ?_
    refine jx_load c1 hm rfl rfl rfl rfl ?_
    refine jx_load c1 hm rfl rfl rfl rfl ?_
    refine jx_load c1 hm rfl rfl rfl rfl ?_
    refine jy_ic c1 hm rfl (by decide) ?_
    refine jy_add c1 hm (b1 + 1) rfl (by omega) ?_
    obtain ⟨z136, kz136, lz136, uz136⟩ := hf ((b1 + 1)).toNat
    refine jx_sald c1 hm rfl ⟨by omega, by omega⟩ kz136 ?_
    refine jx_load c1 hm rfl rfl rfl rfl ?_
    refine jx_load c1 hm rfl rfl rfl rfl ?_
    refine jy_ic c1 hm rfl (by decide) ?_
    refine jy_add c1 hm (b1 + 2) rfl (by omega) ?_
    obtain ⟨z137, kz137, lz137, uz137⟩ := hf ((b1 + 2)).toNat
    refine jx_sald c1 hm rfl ⟨by omega, by omega⟩ kz137 ?_
    refine jv_i c3 hm rfl (plp pj_X12_good rfl) rfl rfl ⟨_, _, _, rfl, sh_173⟩ rfl (((ct_X12_good_173 (X + 8000 * b1) (by omega) M4 hH4 z136 ⟨by omega, by omega⟩ z137 ⟨by omega, by omega⟩).lki (by decide +kernel) rfl).le (by decide)) (fun z138 M139 ⟨⟨hH139, hR139, lz138, uz138⟩, hL139⟩ => ?_)
    refine jx_pop c1 hm rfl rfl ?_
    refine jx_goto c1 hm 1445 rfl rfl ?_
    refine jx_iinc c1 hm (v := (b1 + 6)) (L' := [some (.inr (.inr (.inr 0))), some (.inr (.inr (.inl 0))), some (.inr (.inr (.inl 173))), some (.inr (.inr (.inl 198))), some (.inl (b1 + 6)), o2, o3]) rfl rfl (by omega) (by omega) rfl ?_
    refine jx_goto c1 hm 23 rfl rfl ?_
    exact ihW13 (b1 + 6) (by omega) o2 ho2 o3 ho3 M139 (hH139.mono (by omega) (by omega)) k (by omega) (SOK.cg hs1 (fun j h1 h2 => (hR139 175 j rfl))) (KOK.cg hs2 (fun j h1 h2 => (hR139 177 j rfl))) (KOK.cg hs3 (fun j h1 h2 => (hR139 177 j rfl))) (TPQ.cg hs4 (hR139 0 2 rfl) (hR139 173 2 rfl)) (TBQ.cg hs5 (fun j => (hR139 2 j rfl)) (fun j => (hR139 174 j rfl))) (IMG.cg hs6 (fun j => (hR139 46 j rfl)) (fun j => (hR139 183 j rfl))) (HNQ.cg hs7 ⟨fun j _ => (hR139 6 j rfl), fun k _ => (hL139 7 k (by decide +kernel))⟩ ⟨fun j hj => (hR139 175 (0 + j) rfl), fun k _ => (hL139 180 (0 + k) (by decide +kernel))⟩) (IHQ.cg hs8 (fun j => (hR139 46 j rfl)) ⟨fun j _ => (hR139 138 j rfl), fun k _ => (hL139 139 k (by decide +kernel))⟩ ⟨fun j _ => (hR139 156 j rfl), fun k _ => (hL139 157 k (by decide +kernel))⟩ ⟨fun j hj => (hR139 177 (0 + j) rfl), fun k _ => (hL139 182 (0 + k) (by decide +kernel))⟩ ⟨fun j hj => (hR139 177 (476 + j) rfl), fun k _ => (hL139 182 (18 + k) (by decide +kernel))⟩) (by omega)
   by_cases h140 : z17 = 9
   ·
    refine jx_tswI c1 hm 536 rfl ⟨by omega, by omega⟩ (by rw [h140] <;> rfl) rfl ?_
    refine jx_load c1 hm rfl rfl rfl rfl ?_
    refine jx_load c1 hm rfl rfl rfl rfl ?_
    refine jx_load c1 hm rfl rfl rfl rfl ?_
    refine jy_ic c1 hm rfl (by decide) ?_
    refine jy_add c1 hm (b1 + 1) rfl (by omega) ?_
    obtain ⟨z141, kz141, lz141, uz141⟩ := hf ((b1 + 1)).toNat
    refine jx_sald c1 hm rfl ⟨by omega, by omega⟩ kz141 ?_
    refine jx_load c1 hm rfl rfl rfl rfl ?_
    refine jx_load c1 hm rfl rfl rfl rfl ?_
    refine jy_ic c1 hm rfl (by decide) ?_
    refine jy_add c1 hm (b1 + 2) rfl (by omega) ?_
    obtain ⟨z142, kz142, lz142, uz142⟩ := hf ((b1 + 2)).toNat
    refine jx_sald c1 hm rfl ⟨by omega, by omega⟩ kz142 ?_
    refine jv_i c3 hm rfl (plp pj_X11_owes rfl) rfl rfl ⟨_, _, _, rfl, sh_0⟩ rfl ((ct_X11_owes_0 (X + 8000 * b1) (by omega) M4 hH4 z141 ⟨by omega, by omega⟩ z142 ⟨by omega, by omega⟩).le (by decide)) (fun z143 _ ⟨rfl, lz143, uz143⟩ => ?_)
    refine jx_pop c1 hm rfl rfl ?_
    refine jx_load c1 hm rfl rfl rfl rfl ?_
    refine jx_load c1 hm rfl rfl rfl rfl ?_
    refine jx_load c1 hm rfl rfl rfl rfl ?_
    refine jy_ic c1 hm rfl (by decide) ?_
    refine jy_add c1 hm (b1 + 1) rfl (by omega) ?_
    obtain ⟨z144, kz144, lz144, uz144⟩ := hf ((b1 + 1)).toNat
    refine jx_sald c1 hm rfl ⟨by omega, by omega⟩ kz144 ?_
    refine jx_load c1 hm rfl rfl rfl rfl ?_
    refine jx_load c1 hm rfl rfl rfl rfl ?_
    refine jy_ic c1 hm rfl (by decide) ?_
    refine jy_add c1 hm (b1 + 2) rfl (by omega) ?_
    obtain ⟨z145, kz145, lz145, uz145⟩ := hf ((b1 + 2)).toNat
    refine jx_sald c1 hm rfl ⟨by omega, by omega⟩ kz145 ?_
    refine jv_i c3 hm rfl (plp pj_X12_owes rfl) rfl rfl ⟨_, _, _, rfl, sh_173⟩ rfl (((ct_X12_owes_173 (X + 8000 * b1) (by omega) M4 hH4 z144 ⟨by omega, by omega⟩ z145 ⟨by omega, by omega⟩).lki (by decide +kernel) rfl).le (by decide)) (fun z146 M147 ⟨⟨hH147, hR147, lz146, uz146⟩, hL147⟩ => ?_)
    refine jx_pop c1 hm rfl rfl ?_
    refine jx_goto c1 hm 1445 rfl rfl ?_
    refine jx_iinc c1 hm (v := (b1 + 6)) (L' := [some (.inr (.inr (.inr 0))), some (.inr (.inr (.inl 0))), some (.inr (.inr (.inl 173))), some (.inr (.inr (.inl 198))), some (.inl (b1 + 6)), o2, o3]) rfl rfl (by omega) (by omega) rfl ?_
    refine jx_goto c1 hm 23 rfl rfl ?_
    exact ihW13 (b1 + 6) (by omega) o2 ho2 o3 ho3 M147 (hH147.mono (by omega) (by omega)) k (by omega) (SOK.cg hs1 (fun j h1 h2 => (hR147 175 j rfl))) (KOK.cg hs2 (fun j h1 h2 => (hR147 177 j rfl))) (KOK.cg hs3 (fun j h1 h2 => (hR147 177 j rfl))) (TPQ.cg hs4 (hR147 0 2 rfl) (hR147 173 2 rfl)) (TBQ.cg hs5 (fun j => (hR147 2 j rfl)) (fun j => (hR147 174 j rfl))) (IMG.cg hs6 (fun j => (hR147 46 j rfl)) (fun j => (hR147 183 j rfl))) (HNQ.cg hs7 ⟨fun j _ => (hR147 6 j rfl), fun k _ => (hL147 7 k (by decide +kernel))⟩ ⟨fun j hj => (hR147 175 (0 + j) rfl), fun k _ => (hL147 180 (0 + k) (by decide +kernel))⟩) (IHQ.cg hs8 (fun j => (hR147 46 j rfl)) ⟨fun j _ => (hR147 138 j rfl), fun k _ => (hL147 139 k (by decide +kernel))⟩ ⟨fun j _ => (hR147 156 j rfl), fun k _ => (hL147 157 k (by decide +kernel))⟩ ⟨fun j hj => (hR147 177 (0 + j) rfl), fun k _ => (hL147 182 (0 + k) (by decide +kernel))⟩ ⟨fun j hj => (hR147 177 (476 + j) rfl), fun k _ => (hL147 182 (18 + k) (by decide +kernel))⟩) (by omega)
   by_cases h148 : z17 = 10
   ·
    refine jx_tswI c1 hm 573 rfl ⟨by omega, by omega⟩ (by rw [h148] <;> rfl) rfl ?_
    refine jx_load c1 hm rfl rfl rfl rfl ?_
    refine jx_load c1 hm rfl rfl rfl rfl ?_
    refine jx_load c1 hm rfl rfl rfl rfl ?_
    refine jy_ic c1 hm rfl (by decide) ?_
    refine jy_add c1 hm (b1 + 1) rfl (by omega) ?_
    obtain ⟨z149, kz149, lz149, uz149⟩ := hf ((b1 + 1)).toNat
    refine jx_sald c1 hm rfl ⟨by omega, by omega⟩ kz149 ?_
    refine jv_i c3 hm rfl (plp pj_X11_now rfl) rfl rfl ⟨_, _, _, rfl, sh_0⟩ rfl ((ct_X11_now_0 (X + 8000 * b1) (by omega) M4 hH4 z149 ⟨by omega, by omega⟩).le (by decide)) (fun z150 _ ⟨rfl, lz150, uz150⟩ => ?_)
    refine jx_pop c1 hm rfl rfl ?_
    refine jx_load c1 hm rfl rfl rfl rfl ?_
    refine jx_load c1 hm rfl rfl rfl rfl ?_
    refine jx_load c1 hm rfl rfl rfl rfl ?_
    refine jy_ic c1 hm rfl (by decide) ?_
    refine jy_add c1 hm (b1 + 1) rfl (by omega) ?_
    obtain ⟨z151, kz151, lz151, uz151⟩ := hf ((b1 + 1)).toNat
    refine jx_sald c1 hm rfl ⟨by omega, by omega⟩ kz151 ?_
    refine jv_i c3 hm rfl (plp pj_X12_now rfl) rfl rfl ⟨_, _, _, rfl, sh_173⟩ rfl (((ct_X12_now_173 (X + 8000 * b1) (by omega) M4 hH4 z151 ⟨by omega, by omega⟩).lki (by decide +kernel) rfl).le (by decide)) (fun z152 M153 ⟨⟨hH153, hR153, lz152, uz152⟩, hL153⟩ => ?_)
    refine jx_pop c1 hm rfl rfl ?_
    refine jx_goto c1 hm 1445 rfl rfl ?_
    refine jx_iinc c1 hm (v := (b1 + 6)) (L' := [some (.inr (.inr (.inr 0))), some (.inr (.inr (.inl 0))), some (.inr (.inr (.inl 173))), some (.inr (.inr (.inl 198))), some (.inl (b1 + 6)), o2, o3]) rfl rfl (by omega) (by omega) rfl ?_
    refine jx_goto c1 hm 23 rfl rfl ?_
    exact ihW13 (b1 + 6) (by omega) o2 ho2 o3 ho3 M153 (hH153.mono (by omega) (by omega)) k (by omega) (SOK.cg hs1 (fun j h1 h2 => (hR153 175 j rfl))) (KOK.cg hs2 (fun j h1 h2 => (hR153 177 j rfl))) (KOK.cg hs3 (fun j h1 h2 => (hR153 177 j rfl))) (TPQ.cg hs4 (hR153 0 2 rfl) (hR153 173 2 rfl)) (TBQ.cg hs5 (fun j => (hR153 2 j rfl)) (fun j => (hR153 174 j rfl))) (IMG.cg hs6 (fun j => (hR153 46 j rfl)) (fun j => (hR153 183 j rfl))) (HNQ.cg hs7 ⟨fun j _ => (hR153 6 j rfl), fun k _ => (hL153 7 k (by decide +kernel))⟩ ⟨fun j hj => (hR153 175 (0 + j) rfl), fun k _ => (hL153 180 (0 + k) (by decide +kernel))⟩) (IHQ.cg hs8 (fun j => (hR153 46 j rfl)) ⟨fun j _ => (hR153 138 j rfl), fun k _ => (hL153 139 k (by decide +kernel))⟩ ⟨fun j _ => (hR153 156 j rfl), fun k _ => (hL153 157 k (by decide +kernel))⟩ ⟨fun j hj => (hR153 177 (0 + j) rfl), fun k _ => (hL153 182 (0 + k) (by decide +kernel))⟩ ⟨fun j hj => (hR153 177 (476 + j) rfl), fun k _ => (hL153 182 (18 + k) (by decide +kernel))⟩) (by omega)
   by_cases h154 : z17 = 11
   ·
    refine jx_tswI c1 hm 598 rfl ⟨by omega, by omega⟩ (by rw [h154] <;> rfl) rfl ?_
    refine jx_load c1 hm rfl rfl rfl rfl ?_
    refine jx_load c1 hm rfl rfl rfl rfl ?_
    refine jx_load c1 hm rfl rfl rfl rfl ?_
    refine jy_ic c1 hm rfl (by decide) ?_
    refine jy_add c1 hm (b1 + 1) rfl (by omega) ?_
    obtain ⟨z155, kz155, lz155, uz155⟩ := hf ((b1 + 1)).toNat
    refine jx_sald c1 hm rfl ⟨by omega, by omega⟩ kz155 ?_
    refine jx_load c1 hm rfl rfl rfl rfl ?_
    refine jx_load c1 hm rfl rfl rfl rfl ?_
    refine jy_ic c1 hm rfl (by decide) ?_
    refine jy_add c1 hm (b1 + 2) rfl (by omega) ?_
    obtain ⟨z156, kz156, lz156, uz156⟩ := hf ((b1 + 2)).toNat
    refine jx_sald c1 hm rfl ⟨by omega, by omega⟩ kz156 ?_
    refine jv_i c3 hm rfl (plp pj_X11_forfeit rfl) rfl rfl ⟨_, _, _, rfl, sh_0⟩ rfl (((ct_X11_forfeit_0 (X + 8000 * b1) (by omega) M4 hH4 z155 ⟨by omega, by omega⟩ z156 ⟨by omega, by omega⟩).lki (by decide +kernel) rfl).le (by decide)) (fun z157 M158 ⟨⟨hH158, hR158, lz157, uz157⟩, hL158⟩ => ?_)
    refine jx_pop c1 hm rfl rfl ?_
    refine jx_load c1 hm rfl rfl rfl rfl ?_
    refine jx_load c1 hm rfl rfl rfl rfl ?_
    refine jx_load c1 hm rfl rfl rfl rfl ?_
    refine jy_ic c1 hm rfl (by decide) ?_
    refine jy_add c1 hm (b1 + 1) rfl (by omega) ?_
    obtain ⟨z159, kz159, lz159, uz159⟩ := hf ((b1 + 1)).toNat
    refine jx_sald c1 hm rfl ⟨by omega, by omega⟩ kz159 ?_
    refine jx_load c1 hm rfl rfl rfl rfl ?_
    refine jx_load c1 hm rfl rfl rfl rfl ?_
    refine jy_ic c1 hm rfl (by decide) ?_
    refine jy_add c1 hm (b1 + 2) rfl (by omega) ?_
    obtain ⟨z160, kz160, lz160, uz160⟩ := hf ((b1 + 2)).toNat
    refine jx_sald c1 hm rfl ⟨by omega, by omega⟩ kz160 ?_
    refine jv_i c3 hm rfl (plp pj_X12_forfeit rfl) rfl rfl ⟨_, _, _, rfl, sh_173⟩ rfl (((ct_X12_forfeit_173 (X + 8000 * b1 + 1) (by omega) M158 hH158 z159 ⟨by omega, by omega⟩ z160 ⟨by omega, by omega⟩).lki (by decide +kernel) rfl).le (by decide)) (fun z161 M162 ⟨⟨hH162, hR162, lz161, uz161⟩, hL162⟩ => ?_)
    rw [show X + 8000 * b1 + 1 + 1 = X + 8000 * b1 + 2 by omega] at hH162
    refine jx_pop c1 hm rfl rfl ?_
    refine jx_goto c1 hm 1445 rfl rfl ?_
    refine jx_iinc c1 hm (v := (b1 + 6)) (L' := [some (.inr (.inr (.inr 0))), some (.inr (.inr (.inl 0))), some (.inr (.inr (.inl 173))), some (.inr (.inr (.inl 198))), some (.inl (b1 + 6)), o2, o3]) rfl rfl (by omega) (by omega) rfl ?_
    refine jx_goto c1 hm 23 rfl rfl ?_
    exact ihW13 (b1 + 6) (by omega) o2 ho2 o3 ho3 M162 (hH162.mono (by omega) (by omega)) k (by omega) (SOK.cg hs1 (fun j h1 h2 => ((hR162 175 j (jin_hi (b := 234) (by decide +kernel) h1)).trans (hR158 175 j rfl)))) (KOK.cg hs2 (fun j h1 h2 => ((hR162 177 j rfl).trans (hR158 177 j rfl)))) (KOK.cg hs3 (fun j h1 h2 => ((hR162 177 j rfl).trans (hR158 177 j rfl)))) (TPQ.cg hs4 ((hR162 0 2 rfl).trans (hR158 0 2 rfl)) ((hR162 173 2 rfl).trans (hR158 173 2 rfl))) (TBQ.cg hs5 (fun j => ((hR162 2 j rfl).trans (hR158 2 j rfl))) (fun j => ((hR162 174 j rfl).trans (hR158 174 j rfl)))) (IMG.cg hs6 (fun j => ((hR162 46 j rfl).trans (hR158 46 j rfl))) (fun j => ((hR162 183 j rfl).trans (hR158 183 j rfl)))) (HNQ.cg hs7 ⟨fun j _ => ((hR162 6 j rfl).trans (hR158 6 j rfl)), fun k _ => ((hL162 7 k (by decide +kernel)).trans (hL158 7 k (by decide +kernel)))⟩ ⟨fun j hj => ((hR162 175 (0 + j) (jin_lo (b := 5) (by decide +kernel) (by omega))).trans (hR158 175 (0 + j) rfl)), fun k _ => ((hL162 180 (0 + k) (by decide +kernel)).trans (hL158 180 (0 + k) (by decide +kernel)))⟩) (IHQ.cg hs8 (fun j => ((hR162 46 j rfl).trans (hR158 46 j rfl))) ⟨fun j _ => ((hR162 138 j rfl).trans (hR158 138 j rfl)), fun k _ => ((hL162 139 k (by decide +kernel)).trans (hL158 139 k (by decide +kernel)))⟩ ⟨fun j _ => ((hR162 156 j rfl).trans (hR158 156 j rfl)), fun k _ => ((hL162 157 k (by decide +kernel)).trans (hL158 157 k (by decide +kernel)))⟩ ⟨fun j hj => ((hR162 177 (0 + j) rfl).trans (hR158 177 (0 + j) rfl)), fun k _ => ((hL162 182 (0 + k) (by decide +kernel)).trans (hL158 182 (0 + k) (by decide +kernel)))⟩ ⟨fun j hj => ((hR162 177 (476 + j) rfl).trans (hR158 177 (476 + j) rfl)), fun k _ => ((hL162 182 (18 + k) (by decide +kernel)).trans (hL158 182 (18 + k) (by decide +kernel)))⟩) (by omega)
   by_cases h163 : z17 = 12
   ·
    refine jx_tswI c1 hm 635 rfl ⟨by omega, by omega⟩ (by rw [h163] <;> rfl) rfl ?_
    refine jx_load c1 hm rfl rfl rfl rfl ?_
    refine jx_load c1 hm rfl rfl rfl rfl ?_
    refine jx_load c1 hm rfl rfl rfl rfl ?_
    refine jy_ic c1 hm rfl (by decide) ?_
    refine jy_add c1 hm (b1 + 1) rfl (by omega) ?_
    obtain ⟨z164, kz164, lz164, uz164⟩ := hf ((b1 + 1)).toNat
    refine jx_sald c1 hm rfl ⟨by omega, by omega⟩ kz164 ?_
    refine jx_load c1 hm rfl rfl rfl rfl ?_
    refine jx_load c1 hm rfl rfl rfl rfl ?_
    refine jy_ic c1 hm rfl (by decide) ?_
    refine jy_add c1 hm (b1 + 2) rfl (by omega) ?_
    obtain ⟨z165, kz165, lz165, uz165⟩ := hf ((b1 + 2)).toNat
    refine jx_sald c1 hm rfl ⟨by omega, by omega⟩ kz165 ?_
    refine jv_i c3 hm rfl (plp pj_X11_buy rfl) rfl rfl ⟨_, _, _, rfl, sh_0⟩ rfl (((ct_X11_buy_0 (X + 8000 * b1) (by omega) M4 hH4 z164 ⟨by omega, by omega⟩ z165 ⟨by omega, by omega⟩).lki (by decide +kernel) rfl).le (by decide)) (fun z166 M167 ⟨⟨hH167, hR167, lz166, uz166⟩, hL167⟩ => ?_)
    refine jx_pop c1 hm rfl rfl ?_
    refine jx_load c1 hm rfl rfl rfl rfl ?_
    refine jx_load c1 hm rfl rfl rfl rfl ?_
    refine jx_load c1 hm rfl rfl rfl rfl ?_
    refine jy_ic c1 hm rfl (by decide) ?_
    refine jy_add c1 hm (b1 + 1) rfl (by omega) ?_
    obtain ⟨z168, kz168, lz168, uz168⟩ := hf ((b1 + 1)).toNat
    refine jx_sald c1 hm rfl ⟨by omega, by omega⟩ kz168 ?_
    refine jx_load c1 hm rfl rfl rfl rfl ?_
    refine jx_load c1 hm rfl rfl rfl rfl ?_
    refine jy_ic c1 hm rfl (by decide) ?_
    refine jy_add c1 hm (b1 + 2) rfl (by omega) ?_
    obtain ⟨z169, kz169, lz169, uz169⟩ := hf ((b1 + 2)).toNat
    refine jx_sald c1 hm rfl ⟨by omega, by omega⟩ kz169 ?_
    refine jv_i c3 hm rfl (plp pj_X12_buy rfl) rfl rfl ⟨_, _, _, rfl, sh_173⟩ rfl (((ct_X12_buy_173 (X + 8000 * b1 + 1) (by omega) M167 hH167 z168 ⟨by omega, by omega⟩ z169 ⟨by omega, by omega⟩).lki (by decide +kernel) rfl).le (by decide)) (fun z170 M171 ⟨⟨hH171, hR171, lz170, uz170⟩, hL171⟩ => ?_)
    rw [show X + 8000 * b1 + 1 + 1 = X + 8000 * b1 + 2 by omega] at hH171
    refine jx_pop c1 hm rfl rfl ?_
    refine jx_goto c1 hm 1445 rfl rfl ?_
    refine jx_iinc c1 hm (v := (b1 + 6)) (L' := [some (.inr (.inr (.inr 0))), some (.inr (.inr (.inl 0))), some (.inr (.inr (.inl 173))), some (.inr (.inr (.inl 198))), some (.inl (b1 + 6)), o2, o3]) rfl rfl (by omega) (by omega) rfl ?_
    refine jx_goto c1 hm 23 rfl rfl ?_
    exact ihW13 (b1 + 6) (by omega) o2 ho2 o3 ho3 M171 (hH171.mono (by omega) (by omega)) k (by omega) (SOK.cg hs1 (fun j h1 h2 => ((hR171 175 j (jin_hi (b := 234) (by decide +kernel) h1)).trans (hR167 175 j rfl)))) (KOK.cg hs2 (fun j h1 h2 => ((hR171 177 j rfl).trans (hR167 177 j rfl)))) (KOK.cg hs3 (fun j h1 h2 => ((hR171 177 j rfl).trans (hR167 177 j rfl)))) (TPQ.cg hs4 ((hR171 0 2 rfl).trans (hR167 0 2 rfl)) ((hR171 173 2 rfl).trans (hR167 173 2 rfl))) (TBQ.cg hs5 (fun j => ((hR171 2 j rfl).trans (hR167 2 j rfl))) (fun j => ((hR171 174 j rfl).trans (hR167 174 j rfl)))) (IMG.cg hs6 (fun j => ((hR171 46 j rfl).trans (hR167 46 j rfl))) (fun j => ((hR171 183 j rfl).trans (hR167 183 j rfl)))) (HNQ.cg hs7 ⟨fun j _ => ((hR171 6 j rfl).trans (hR167 6 j rfl)), fun k _ => ((hL171 7 k (by decide +kernel)).trans (hL167 7 k (by decide +kernel)))⟩ ⟨fun j hj => ((hR171 175 (0 + j) (jin_lo (b := 5) (by decide +kernel) (by omega))).trans (hR167 175 (0 + j) rfl)), fun k _ => ((hL171 180 (0 + k) (by decide +kernel)).trans (hL167 180 (0 + k) (by decide +kernel)))⟩) (IHQ.cg hs8 (fun j => ((hR171 46 j rfl).trans (hR167 46 j rfl))) ⟨fun j _ => ((hR171 138 j rfl).trans (hR167 138 j rfl)), fun k _ => ((hL171 139 k (by decide +kernel)).trans (hL167 139 k (by decide +kernel)))⟩ ⟨fun j _ => ((hR171 156 j rfl).trans (hR167 156 j rfl)), fun k _ => ((hL171 157 k (by decide +kernel)).trans (hL167 157 k (by decide +kernel)))⟩ ⟨fun j hj => ((hR171 177 (0 + j) rfl).trans (hR167 177 (0 + j) rfl)), fun k _ => ((hL171 182 (0 + k) (by decide +kernel)).trans (hL167 182 (0 + k) (by decide +kernel)))⟩ ⟨fun j hj => ((hR171 177 (476 + j) rfl).trans (hR167 177 (476 + j) rfl)), fun k _ => ((hL171 182 (18 + k) (by decide +kernel)).trans (hL167 182 (18 + k) (by decide +kernel)))⟩) (by omega)
   by_cases h172 : z17 = 13
   ·
    refine jx_tswI c1 hm 672 rfl ⟨by omega, by omega⟩ (by rw [h172] <;> rfl) rfl ?_
    refine jx_load c1 hm rfl rfl rfl rfl ?_
    refine jx_load c1 hm rfl rfl rfl rfl ?_
    refine jx_load c1 hm rfl rfl rfl rfl ?_
    refine jy_ic c1 hm rfl (by decide) ?_
    refine jy_add c1 hm (b1 + 1) rfl (by omega) ?_
    obtain ⟨z173, kz173, lz173, uz173⟩ := hf ((b1 + 1)).toNat
    refine jx_sald c1 hm rfl ⟨by omega, by omega⟩ kz173 ?_
    refine jx_load c1 hm rfl rfl rfl rfl ?_
    refine jx_load c1 hm rfl rfl rfl rfl ?_
    refine jy_ic c1 hm rfl (by decide) ?_
    refine jy_add c1 hm (b1 + 2) rfl (by omega) ?_
    obtain ⟨z174, kz174, lz174, uz174⟩ := hf ((b1 + 2)).toNat
    refine jx_sald c1 hm rfl ⟨by omega, by omega⟩ kz174 ?_
    refine jx_load c1 hm rfl rfl rfl rfl ?_
    refine jx_load c1 hm rfl rfl rfl rfl ?_
    refine jy_ic c1 hm rfl (by decide) ?_
    refine jy_add c1 hm (b1 + 3) rfl (by omega) ?_
    obtain ⟨z175, kz175, lz175, uz175⟩ := hf ((b1 + 3)).toNat
    refine jx_sald c1 hm rfl ⟨by omega, by omega⟩ kz175 ?_
    refine jv_i c3 hm rfl (plp pj_X11_lend rfl) rfl rfl ⟨_, _, _, rfl, sh_0⟩ rfl (((ct_X11_lend_0 (X + 8000 * b1) (by omega) M4 hH4 z173 ⟨by omega, by omega⟩ z174 ⟨by omega, by omega⟩ z175 ⟨by omega, by omega⟩).lki (by decide +kernel) rfl).le (by decide)) (fun z176 M177 ⟨⟨hH177, hR177, lz176, uz176⟩, hL177⟩ => ?_)
    refine jx_pop c1 hm rfl rfl ?_
    refine jx_load c1 hm rfl rfl rfl rfl ?_
    refine jx_load c1 hm rfl rfl rfl rfl ?_
    refine jx_load c1 hm rfl rfl rfl rfl ?_
    refine jy_ic c1 hm rfl (by decide) ?_
    refine jy_add c1 hm (b1 + 1) rfl (by omega) ?_
    obtain ⟨z178, kz178, lz178, uz178⟩ := hf ((b1 + 1)).toNat
    refine jx_sald c1 hm rfl ⟨by omega, by omega⟩ kz178 ?_
    refine jx_load c1 hm rfl rfl rfl rfl ?_
    refine jx_load c1 hm rfl rfl rfl rfl ?_
    refine jy_ic c1 hm rfl (by decide) ?_
    refine jy_add c1 hm (b1 + 2) rfl (by omega) ?_
    obtain ⟨z179, kz179, lz179, uz179⟩ := hf ((b1 + 2)).toNat
    refine jx_sald c1 hm rfl ⟨by omega, by omega⟩ kz179 ?_
    refine jx_load c1 hm rfl rfl rfl rfl ?_
    refine jx_load c1 hm rfl rfl rfl rfl ?_
    refine jy_ic c1 hm rfl (by decide) ?_
    refine jy_add c1 hm (b1 + 3) rfl (by omega) ?_
    obtain ⟨z180, kz180, lz180, uz180⟩ := hf ((b1 + 3)).toNat
    refine jx_sald c1 hm rfl ⟨by omega, by omega⟩ kz180 ?_
    refine jv_i c3 hm rfl (plp pj_X12_lend rfl) rfl rfl ⟨_, _, _, rfl, sh_173⟩ rfl (((ct_X12_lend_173 (X + 8000 * b1 + 1) (by omega) M177 hH177 z178 ⟨by omega, by omega⟩ z179 ⟨by omega, by omega⟩ z180 ⟨by omega, by omega⟩).lki (by decide +kernel) rfl).le (by decide)) (fun z181 M182 ⟨⟨hH182, hR182, lz181, uz181⟩, hL182⟩ => ?_)
    rw [show X + 8000 * b1 + 1 + 1 = X + 8000 * b1 + 2 by omega] at hH182
    refine jx_pop c1 hm rfl rfl ?_
    refine jx_goto c1 hm 1445 rfl rfl ?_
    refine jx_iinc c1 hm (v := (b1 + 6)) (L' := [some (.inr (.inr (.inr 0))), some (.inr (.inr (.inl 0))), some (.inr (.inr (.inl 173))), some (.inr (.inr (.inl 198))), some (.inl (b1 + 6)), o2, o3]) rfl rfl (by omega) (by omega) rfl ?_
    refine jx_goto c1 hm 23 rfl rfl ?_
    exact ihW13 (b1 + 6) (by omega) o2 ho2 o3 ho3 M182 (hH182.mono (by omega) (by omega)) k (by omega) (SOK.cg hs1 (fun j h1 h2 => ((hR182 175 j (jin_hi (b := 234) (by decide +kernel) h1)).trans (hR177 175 j rfl)))) (KOK.cg hs2 (fun j h1 h2 => ((hR182 177 j rfl).trans (hR177 177 j rfl)))) (KOK.cg hs3 (fun j h1 h2 => ((hR182 177 j rfl).trans (hR177 177 j rfl)))) (TPQ.cg hs4 ((hR182 0 2 rfl).trans (hR177 0 2 rfl)) ((hR182 173 2 rfl).trans (hR177 173 2 rfl))) (TBQ.cg hs5 (fun j => ((hR182 2 j rfl).trans (hR177 2 j rfl))) (fun j => ((hR182 174 j rfl).trans (hR177 174 j rfl)))) (IMG.cg hs6 (fun j => ((hR182 46 j rfl).trans (hR177 46 j rfl))) (fun j => ((hR182 183 j rfl).trans (hR177 183 j rfl)))) (HNQ.cg hs7 ⟨fun j _ => ((hR182 6 j rfl).trans (hR177 6 j rfl)), fun k _ => ((hL182 7 k (by decide +kernel)).trans (hL177 7 k (by decide +kernel)))⟩ ⟨fun j hj => ((hR182 175 (0 + j) (jin_lo (b := 5) (by decide +kernel) (by omega))).trans (hR177 175 (0 + j) rfl)), fun k _ => ((hL182 180 (0 + k) (by decide +kernel)).trans (hL177 180 (0 + k) (by decide +kernel)))⟩) (IHQ.cg hs8 (fun j => ((hR182 46 j rfl).trans (hR177 46 j rfl))) ⟨fun j _ => ((hR182 138 j rfl).trans (hR177 138 j rfl)), fun k _ => ((hL182 139 k (by decide +kernel)).trans (hL177 139 k (by decide +kernel)))⟩ ⟨fun j _ => ((hR182 156 j rfl).trans (hR177 156 j rfl)), fun k _ => ((hL182 157 k (by decide +kernel)).trans (hL177 157 k (by decide +kernel)))⟩ ⟨fun j hj => ((hR182 177 (0 + j) rfl).trans (hR177 177 (0 + j) rfl)), fun k _ => ((hL182 182 (0 + k) (by decide +kernel)).trans (hL177 182 (0 + k) (by decide +kernel)))⟩ ⟨fun j hj => ((hR182 177 (476 + j) rfl).trans (hR177 177 (476 + j) rfl)), fun k _ => ((hL182 182 (18 + k) (by decide +kernel)).trans (hL177 182 (18 + k) (by decide +kernel)))⟩) (by omega)
   by_cases h183 : z17 = 14
   ·
    refine jx_tswI c1 hm 721 rfl ⟨by omega, by omega⟩ (by rw [h183] <;> rfl) rfl ?_
    refine jx_load c1 hm rfl rfl rfl rfl ?_
    refine jx_load c1 hm rfl rfl rfl rfl ?_
    refine jx_load c1 hm rfl rfl rfl rfl ?_
    refine jy_ic c1 hm rfl (by decide) ?_
    refine jy_add c1 hm (b1 + 1) rfl (by omega) ?_
    obtain ⟨z184, kz184, lz184, uz184⟩ := hf ((b1 + 1)).toNat
    refine jx_sald c1 hm rfl ⟨by omega, by omega⟩ kz184 ?_
    refine jx_load c1 hm rfl rfl rfl rfl ?_
    refine jx_load c1 hm rfl rfl rfl rfl ?_
    refine jy_ic c1 hm rfl (by decide) ?_
    refine jy_add c1 hm (b1 + 2) rfl (by omega) ?_
    obtain ⟨z185, kz185, lz185, uz185⟩ := hf ((b1 + 2)).toNat
    refine jx_sald c1 hm rfl ⟨by omega, by omega⟩ kz185 ?_
    refine jx_load c1 hm rfl rfl rfl rfl ?_
    refine jx_load c1 hm rfl rfl rfl rfl ?_
    refine jy_ic c1 hm rfl (by decide) ?_
    refine jy_add c1 hm (b1 + 3) rfl (by omega) ?_
    obtain ⟨z186, kz186, lz186, uz186⟩ := hf ((b1 + 3)).toNat
    refine jx_sald c1 hm rfl ⟨by omega, by omega⟩ kz186 ?_
    refine jv_i c3 hm rfl (plp pj_X11_repay rfl) rfl rfl ⟨_, _, _, rfl, sh_0⟩ rfl (((ct_X11_repay_0 (X + 8000 * b1) (by omega) M4 hH4 z184 ⟨by omega, by omega⟩ z185 ⟨by omega, by omega⟩ z186 ⟨by omega, by omega⟩).lki (by decide +kernel) rfl).le (by decide)) (fun z187 M188 ⟨⟨hH188, hR188, lz187, uz187⟩, hL188⟩ => ?_)
    refine jx_pop c1 hm rfl rfl ?_
    refine jx_load c1 hm rfl rfl rfl rfl ?_
    refine jx_load c1 hm rfl rfl rfl rfl ?_
    refine jx_load c1 hm rfl rfl rfl rfl ?_
    refine jy_ic c1 hm rfl (by decide) ?_
    refine jy_add c1 hm (b1 + 1) rfl (by omega) ?_
    obtain ⟨z189, kz189, lz189, uz189⟩ := hf ((b1 + 1)).toNat
    refine jx_sald c1 hm rfl ⟨by omega, by omega⟩ kz189 ?_
    refine jx_load c1 hm rfl rfl rfl rfl ?_
    refine jx_load c1 hm rfl rfl rfl rfl ?_
    refine jy_ic c1 hm rfl (by decide) ?_
    refine jy_add c1 hm (b1 + 2) rfl (by omega) ?_
    obtain ⟨z190, kz190, lz190, uz190⟩ := hf ((b1 + 2)).toNat
    refine jx_sald c1 hm rfl ⟨by omega, by omega⟩ kz190 ?_
    refine jx_load c1 hm rfl rfl rfl rfl ?_
    refine jx_load c1 hm rfl rfl rfl rfl ?_
    refine jy_ic c1 hm rfl (by decide) ?_
    refine jy_add c1 hm (b1 + 3) rfl (by omega) ?_
    obtain ⟨z191, kz191, lz191, uz191⟩ := hf ((b1 + 3)).toNat
    refine jx_sald c1 hm rfl ⟨by omega, by omega⟩ kz191 ?_
    refine jv_i c3 hm rfl (plp pj_X12_repay rfl) rfl rfl ⟨_, _, _, rfl, sh_173⟩ rfl (((ct_X12_repay_173 (X + 8000 * b1 + 1) (by omega) M188 hH188 z189 ⟨by omega, by omega⟩ z190 ⟨by omega, by omega⟩ z191 ⟨by omega, by omega⟩).lki (by decide +kernel) rfl).le (by decide)) (fun z192 M193 ⟨⟨hH193, hR193, lz192, uz192⟩, hL193⟩ => ?_)
    rw [show X + 8000 * b1 + 1 + 1 = X + 8000 * b1 + 2 by omega] at hH193
    refine jx_pop c1 hm rfl rfl ?_
    refine jx_goto c1 hm 1445 rfl rfl ?_
    refine jx_iinc c1 hm (v := (b1 + 6)) (L' := [some (.inr (.inr (.inr 0))), some (.inr (.inr (.inl 0))), some (.inr (.inr (.inl 173))), some (.inr (.inr (.inl 198))), some (.inl (b1 + 6)), o2, o3]) rfl rfl (by omega) (by omega) rfl ?_
    refine jx_goto c1 hm 23 rfl rfl ?_
    exact ihW13 (b1 + 6) (by omega) o2 ho2 o3 ho3 M193 (hH193.mono (by omega) (by omega)) k (by omega) (SOK.cg hs1 (fun j h1 h2 => ((hR193 175 j (jin_hi (b := 234) (by decide +kernel) h1)).trans (hR188 175 j rfl)))) (KOK.cg hs2 (fun j h1 h2 => ((hR193 177 j rfl).trans (hR188 177 j rfl)))) (KOK.cg hs3 (fun j h1 h2 => ((hR193 177 j rfl).trans (hR188 177 j rfl)))) (TPQ.cg hs4 ((hR193 0 2 rfl).trans (hR188 0 2 rfl)) ((hR193 173 2 rfl).trans (hR188 173 2 rfl))) (TBQ.cg hs5 (fun j => ((hR193 2 j rfl).trans (hR188 2 j rfl))) (fun j => ((hR193 174 j rfl).trans (hR188 174 j rfl)))) (IMG.cg hs6 (fun j => ((hR193 46 j rfl).trans (hR188 46 j rfl))) (fun j => ((hR193 183 j rfl).trans (hR188 183 j rfl)))) (HNQ.cg hs7 ⟨fun j _ => ((hR193 6 j rfl).trans (hR188 6 j rfl)), fun k _ => ((hL193 7 k (by decide +kernel)).trans (hL188 7 k (by decide +kernel)))⟩ ⟨fun j hj => ((hR193 175 (0 + j) (jin_lo (b := 5) (by decide +kernel) (by omega))).trans (hR188 175 (0 + j) rfl)), fun k _ => ((hL193 180 (0 + k) (by decide +kernel)).trans (hL188 180 (0 + k) (by decide +kernel)))⟩) (IHQ.cg hs8 (fun j => ((hR193 46 j rfl).trans (hR188 46 j rfl))) ⟨fun j _ => ((hR193 138 j rfl).trans (hR188 138 j rfl)), fun k _ => ((hL193 139 k (by decide +kernel)).trans (hL188 139 k (by decide +kernel)))⟩ ⟨fun j _ => ((hR193 156 j rfl).trans (hR188 156 j rfl)), fun k _ => ((hL193 157 k (by decide +kernel)).trans (hL188 157 k (by decide +kernel)))⟩ ⟨fun j hj => ((hR193 177 (0 + j) rfl).trans (hR188 177 (0 + j) rfl)), fun k _ => ((hL193 182 (0 + k) (by decide +kernel)).trans (hL188 182 (0 + k) (by decide +kernel)))⟩ ⟨fun j hj => ((hR193 177 (476 + j) rfl).trans (hR188 177 (476 + j) rfl)), fun k _ => ((hL193 182 (18 + k) (by decide +kernel)).trans (hL188 182 (18 + k) (by decide +kernel)))⟩) (by omega)
   by_cases h194 : z17 = 15
   ·
    refine jx_tswI c1 hm 770 rfl ⟨by omega, by omega⟩ (by rw [h194] <;> rfl) rfl ?_
    refine jx_load c1 hm rfl rfl rfl rfl ?_
    refine jv_i c3 hm rfl (plp pj_X11_strike rfl) rfl rfl ⟨_, _, _, rfl, sh_0⟩ rfl (((ct_X11_strike_0 (X + 8000 * b1) (by omega) M4 hH4 ).lki (by decide +kernel) rfl).le (by decide)) (fun z195 M196 ⟨⟨hH196, hR196, lz195, uz195⟩, hL196⟩ => ?_)
    refine jx_pop c1 hm rfl rfl ?_
    refine jx_load c1 hm rfl rfl rfl rfl ?_
    refine jv_i c3 hm rfl (plp pj_X12_strike rfl) rfl rfl ⟨_, _, _, rfl, sh_173⟩ rfl (((ct_X12_strike_173 (X + 8000 * b1 + 1) (by omega) M196 hH196 ).lki (by decide +kernel) rfl).le (by decide)) (fun z197 M198 ⟨⟨hH198, hR198, lz197, uz197⟩, hL198⟩ => ?_)
    refine jx_pop c1 hm rfl rfl ?_
    refine jx_goto c1 hm 1445 rfl rfl ?_
    refine jx_iinc c1 hm (v := (b1 + 6)) (L' := [some (.inr (.inr (.inr 0))), some (.inr (.inr (.inl 0))), some (.inr (.inr (.inl 173))), some (.inr (.inr (.inl 198))), some (.inl (b1 + 6)), o2, o3]) rfl rfl (by omega) (by omega) rfl ?_
    refine jx_goto c1 hm 23 rfl rfl ?_
    exact ihW13 (b1 + 6) (by omega) o2 ho2 o3 ho3 M198 (hH198.mono (by omega) (by omega)) k (by omega) (SOK.cg hs1 (fun j h1 h2 => ((hR198 175 j (jin_hi (b := 234) (by decide +kernel) h1)).trans (hR196 175 j rfl)))) (KOK.cg hs2 (fun j h1 h2 => ((hR198 177 j rfl).trans (hR196 177 j rfl)))) (KOK.cg hs3 (fun j h1 h2 => ((hR198 177 j rfl).trans (hR196 177 j rfl)))) (TPQ.cg hs4 ((hR198 0 2 rfl).trans (hR196 0 2 rfl)) ((hR198 173 2 rfl).trans (hR196 173 2 rfl))) (TBQ.cg hs5 (fun j => ((hR198 2 j rfl).trans (hR196 2 j rfl))) (fun j => ((hR198 174 j rfl).trans (hR196 174 j rfl)))) (IMG.cg hs6 (fun j => ((hR198 46 j rfl).trans (hR196 46 j rfl))) (fun j => ((hR198 183 j rfl).trans (hR196 183 j rfl)))) (HNQ.cg hs7 ⟨fun j _ => ((hR198 6 j rfl).trans (hR196 6 j rfl)), fun k _ => ((hL198 7 k (by decide +kernel)).trans (hL196 7 k (by decide +kernel)))⟩ ⟨fun j hj => ((hR198 175 (0 + j) (jin_lo (b := 5) (by decide +kernel) (by omega))).trans (hR196 175 (0 + j) rfl)), fun k _ => ((hL198 180 (0 + k) (by decide +kernel)).trans (hL196 180 (0 + k) (by decide +kernel)))⟩) (IHQ.cg hs8 (fun j => ((hR198 46 j rfl).trans (hR196 46 j rfl))) ⟨fun j _ => ((hR198 138 j rfl).trans (hR196 138 j rfl)), fun k _ => ((hL198 139 k (by decide +kernel)).trans (hL196 139 k (by decide +kernel)))⟩ ⟨fun j _ => ((hR198 156 j rfl).trans (hR196 156 j rfl)), fun k _ => ((hL198 157 k (by decide +kernel)).trans (hL196 157 k (by decide +kernel)))⟩ ⟨fun j hj => ((hR198 177 (0 + j) rfl).trans (hR196 177 (0 + j) rfl)), fun k _ => ((hL198 182 (0 + k) (by decide +kernel)).trans (hL196 182 (0 + k) (by decide +kernel)))⟩ ⟨fun j hj => ((hR198 177 (476 + j) rfl).trans (hR196 177 (476 + j) rfl)), fun k _ => ((hL198 182 (18 + k) (by decide +kernel)).trans (hL196 182 (18 + k) (by decide +kernel)))⟩) (by omega)
   by_cases h199 : z17 = 16
   ·
    refine jx_tswI c1 hm 783 rfl ⟨by omega, by omega⟩ (by rw [h199] <;> rfl) rfl ?_
    refine jx_load c1 hm rfl rfl rfl rfl ?_
    refine jx_load c1 hm rfl rfl rfl rfl ?_
    refine jx_load c1 hm rfl rfl rfl rfl ?_
    refine jy_ic c1 hm rfl (by decide) ?_
    refine jy_add c1 hm (b1 + 1) rfl (by omega) ?_
    obtain ⟨z200, kz200, lz200, uz200⟩ := hf ((b1 + 1)).toNat
    refine jx_sald c1 hm rfl ⟨by omega, by omega⟩ kz200 ?_
    refine jv_i c3 hm rfl (plp pj_X11_weeks rfl) rfl rfl ⟨_, _, _, rfl, sh_0⟩ rfl (((ct_X11_weeks_0 (X + 8000 * b1) (by omega) M4 hH4 z200 ⟨by omega, by omega⟩).lki (by decide +kernel) rfl).le (by decide)) (fun z201 M202 ⟨⟨hH202, hR202, lz201, uz201⟩, hL202⟩ => ?_)
    refine jx_pop c1 hm rfl rfl ?_
    refine jx_load c1 hm rfl rfl rfl rfl ?_
    refine jx_load c1 hm rfl rfl rfl rfl ?_
    refine jx_load c1 hm rfl rfl rfl rfl ?_
    refine jy_ic c1 hm rfl (by decide) ?_
    refine jy_add c1 hm (b1 + 1) rfl (by omega) ?_
    obtain ⟨z203, kz203, lz203, uz203⟩ := hf ((b1 + 1)).toNat
    refine jx_sald c1 hm rfl ⟨by omega, by omega⟩ kz203 ?_
    refine jv_i c3 hm rfl (plp pj_X12_weeks rfl) rfl rfl ⟨_, _, _, rfl, sh_173⟩ rfl (((ct_X12_weeks_173 (X + 8000 * b1 + 1) (by omega) M202 hH202 z203 ⟨by omega, by omega⟩).lki (by decide +kernel) rfl).le (by decide)) (fun z204 M205 ⟨⟨hH205, hR205, lz204, uz204⟩, hL205⟩ => ?_)
    refine jx_pop c1 hm rfl rfl ?_
    refine jx_goto c1 hm 1445 rfl rfl ?_
    refine jx_iinc c1 hm (v := (b1 + 6)) (L' := [some (.inr (.inr (.inr 0))), some (.inr (.inr (.inl 0))), some (.inr (.inr (.inl 173))), some (.inr (.inr (.inl 198))), some (.inl (b1 + 6)), o2, o3]) rfl rfl (by omega) (by omega) rfl ?_
    refine jx_goto c1 hm 23 rfl rfl ?_
    exact ihW13 (b1 + 6) (by omega) o2 ho2 o3 ho3 M205 (hH205.mono (by omega) (by omega)) k (by omega) (SOK.cg hs1 (fun j h1 h2 => ((hR205 175 j (jin_hi (b := 234) (by decide +kernel) h1)).trans (hR202 175 j rfl)))) (KOK.cg hs2 (fun j h1 h2 => ((hR205 177 j rfl).trans (hR202 177 j rfl)))) (KOK.cg hs3 (fun j h1 h2 => ((hR205 177 j rfl).trans (hR202 177 j rfl)))) (TPQ.cg hs4 ((hR205 0 2 rfl).trans (hR202 0 2 rfl)) ((hR205 173 2 rfl).trans (hR202 173 2 rfl))) (TBQ.cg hs5 (fun j => ((hR205 2 j rfl).trans (hR202 2 j rfl))) (fun j => ((hR205 174 j rfl).trans (hR202 174 j rfl)))) (IMG.cg hs6 (fun j => ((hR205 46 j rfl).trans (hR202 46 j rfl))) (fun j => ((hR205 183 j rfl).trans (hR202 183 j rfl)))) (HNQ.cg hs7 ⟨fun j _ => ((hR205 6 j rfl).trans (hR202 6 j rfl)), fun k _ => ((hL205 7 k (by decide +kernel)).trans (hL202 7 k (by decide +kernel)))⟩ ⟨fun j hj => ((hR205 175 (0 + j) (jin_lo (b := 5) (by decide +kernel) (by omega))).trans (hR202 175 (0 + j) rfl)), fun k _ => ((hL205 180 (0 + k) (by decide +kernel)).trans (hL202 180 (0 + k) (by decide +kernel)))⟩) (IHQ.cg hs8 (fun j => ((hR205 46 j rfl).trans (hR202 46 j rfl))) ⟨fun j _ => ((hR205 138 j rfl).trans (hR202 138 j rfl)), fun k _ => ((hL205 139 k (by decide +kernel)).trans (hL202 139 k (by decide +kernel)))⟩ ⟨fun j _ => ((hR205 156 j rfl).trans (hR202 156 j rfl)), fun k _ => ((hL205 157 k (by decide +kernel)).trans (hL202 157 k (by decide +kernel)))⟩ ⟨fun j hj => ((hR205 177 (0 + j) rfl).trans (hR202 177 (0 + j) rfl)), fun k _ => ((hL205 182 (0 + k) (by decide +kernel)).trans (hL202 182 (0 + k) (by decide +kernel)))⟩ ⟨fun j hj => ((hR205 177 (476 + j) rfl).trans (hR202 177 (476 + j) rfl)), fun k _ => ((hL205 182 (18 + k) (by decide +kernel)).trans (hL202 182 (18 + k) (by decide +kernel)))⟩) (by omega)
   by_cases h206 : z17 = 17
   ·
    refine jx_tswI c1 hm 808 rfl ⟨by omega, by omega⟩ (by rw [h206] <;> rfl) rfl ?_
    refine jx_load c1 hm rfl rfl rfl rfl ?_
    refine jv_i c3 hm rfl (plp pj_X11_undo rfl) rfl rfl ⟨_, _, _, rfl, sh_0⟩ rfl (((ct_X11_undo_0 (X + 8000 * b1) (by omega) M4 hH4 ).lki (by decide +kernel) rfl).le (by decide)) (fun z207 M208 ⟨⟨hH208, hR208, lz207, uz207⟩, hL208⟩ => ?_)
    refine jx_pop c1 hm rfl rfl ?_
    refine jx_load c1 hm rfl rfl rfl rfl ?_
    refine jv_i c3 hm rfl (plp pj_X12_undo rfl) rfl rfl ⟨_, _, _, rfl, sh_173⟩ rfl (((ct_X12_undo_173 (X + 8000 * b1) (by omega) M208 hH208 ).lki (by decide +kernel) rfl).le (by decide)) (fun z209 M210 ⟨⟨hH210, hR210, lz209, uz209⟩, hL210⟩ => ?_)
    refine jx_pop c1 hm rfl rfl ?_
    refine jx_goto c1 hm 1445 rfl rfl ?_
    refine jx_iinc c1 hm (v := (b1 + 6)) (L' := [some (.inr (.inr (.inr 0))), some (.inr (.inr (.inl 0))), some (.inr (.inr (.inl 173))), some (.inr (.inr (.inl 198))), some (.inl (b1 + 6)), o2, o3]) rfl rfl (by omega) (by omega) rfl ?_
    refine jx_goto c1 hm 23 rfl rfl ?_
    exact ihW13 (b1 + 6) (by omega) o2 ho2 o3 ho3 M210 (hH210.mono (by omega) (by omega)) k (by omega) (SOK.cg hs1 (fun j h1 h2 => ((hR210 175 j (jin_hi (b := 234) (by decide +kernel) h1)).trans (hR208 175 j rfl)))) (KOK.cg hs2 (fun j h1 h2 => ((hR210 177 j rfl).trans (hR208 177 j rfl)))) (KOK.cg hs3 (fun j h1 h2 => ((hR210 177 j rfl).trans (hR208 177 j rfl)))) (TPQ.cg hs4 ((hR210 0 2 rfl).trans (hR208 0 2 rfl)) ((hR210 173 2 rfl).trans (hR208 173 2 rfl))) (TBQ.cg hs5 (fun j => ((hR210 2 j rfl).trans (hR208 2 j rfl))) (fun j => ((hR210 174 j rfl).trans (hR208 174 j rfl)))) (IMG.cg hs6 (fun j => ((hR210 46 j rfl).trans (hR208 46 j rfl))) (fun j => ((hR210 183 j rfl).trans (hR208 183 j rfl)))) (HNQ.cg hs7 ⟨fun j _ => ((hR210 6 j rfl).trans (hR208 6 j rfl)), fun k _ => ((hL210 7 k (by decide +kernel)).trans (hL208 7 k (by decide +kernel)))⟩ ⟨fun j hj => ((hR210 175 (0 + j) (jin_lo (b := 5) (by decide +kernel) (by omega))).trans (hR208 175 (0 + j) rfl)), fun k _ => ((hL210 180 (0 + k) (by decide +kernel)).trans (hL208 180 (0 + k) (by decide +kernel)))⟩) (IHQ.cg hs8 (fun j => ((hR210 46 j rfl).trans (hR208 46 j rfl))) ⟨fun j _ => ((hR210 138 j rfl).trans (hR208 138 j rfl)), fun k _ => ((hL210 139 k (by decide +kernel)).trans (hL208 139 k (by decide +kernel)))⟩ ⟨fun j _ => ((hR210 156 j rfl).trans (hR208 156 j rfl)), fun k _ => ((hL210 157 k (by decide +kernel)).trans (hL208 157 k (by decide +kernel)))⟩ ⟨fun j hj => ((hR210 177 (0 + j) rfl).trans (hR208 177 (0 + j) rfl)), fun k _ => ((hL210 182 (0 + k) (by decide +kernel)).trans (hL208 182 (0 + k) (by decide +kernel)))⟩ ⟨fun j hj => ((hR210 177 (476 + j) rfl).trans (hR208 177 (476 + j) rfl)), fun k _ => ((hL210 182 (18 + k) (by decide +kernel)).trans (hL208 182 (18 + k) (by decide +kernel)))⟩) (by omega)
   by_cases h211 : z17 = 18
   ·
    refine jx_tswI c1 hm 821 rfl ⟨by omega, by omega⟩ (by rw [h211] <;> rfl) rfl ?_
    refine jx_load c1 hm rfl rfl rfl rfl ?_
    refine jv_i c3 hm rfl (plp pj_X11_ring rfl) rfl rfl ⟨_, _, _, rfl, sh_0⟩ rfl (((ct_X11_ring_0 (X + 8000 * b1) (by omega) M4 hH4 ).lki (by decide +kernel) rfl).le (by decide)) (fun z212 M213 ⟨⟨hH213, hR213, lz212, uz212⟩, hL213⟩ => ?_)
    refine jx_pop c1 hm rfl rfl ?_
    refine jx_load c1 hm rfl rfl rfl rfl ?_
    refine jv_i c3 hm rfl (plp pj_X12_ring rfl) rfl rfl ⟨_, _, _, rfl, sh_173⟩ rfl (((ct_X12_ring_173 (X + 8000 * b1) (by omega) M213 hH213 ).lki (by decide +kernel) rfl).le (by decide)) (fun z214 M215 ⟨⟨hH215, hR215, lz214, uz214⟩, hL215⟩ => ?_)
    refine jx_pop c1 hm rfl rfl ?_
    refine jx_goto c1 hm 1445 rfl rfl ?_
    refine jx_iinc c1 hm (v := (b1 + 6)) (L' := [some (.inr (.inr (.inr 0))), some (.inr (.inr (.inl 0))), some (.inr (.inr (.inl 173))), some (.inr (.inr (.inl 198))), some (.inl (b1 + 6)), o2, o3]) rfl rfl (by omega) (by omega) rfl ?_
    refine jx_goto c1 hm 23 rfl rfl ?_
    exact ihW13 (b1 + 6) (by omega) o2 ho2 o3 ho3 M215 (hH215.mono (by omega) (by omega)) k (by omega) (SOK.cg hs1 (fun j h1 h2 => ((hR215 175 j rfl).trans (hR213 175 j rfl)))) (KOK.cg hs2 (fun j h1 h2 => ((hR215 177 j rfl).trans (hR213 177 j rfl)))) (KOK.cg hs3 (fun j h1 h2 => ((hR215 177 j rfl).trans (hR213 177 j rfl)))) (TPQ.cg hs4 ((hR215 0 2 rfl).trans (hR213 0 2 rfl)) ((hR215 173 2 rfl).trans (hR213 173 2 rfl))) (TBQ.cg hs5 (fun j => ((hR215 2 j rfl).trans (hR213 2 j rfl))) (fun j => ((hR215 174 j rfl).trans (hR213 174 j rfl)))) (IMG.cg hs6 (fun j => ((hR215 46 j rfl).trans (hR213 46 j rfl))) (fun j => ((hR215 183 j rfl).trans (hR213 183 j rfl)))) (HNQ.cg hs7 ⟨fun j _ => ((hR215 6 j rfl).trans (hR213 6 j rfl)), fun k _ => ((hL215 7 k (by decide +kernel)).trans (hL213 7 k (by decide +kernel)))⟩ ⟨fun j hj => ((hR215 175 (0 + j) rfl).trans (hR213 175 (0 + j) rfl)), fun k _ => ((hL215 180 (0 + k) (by decide +kernel)).trans (hL213 180 (0 + k) (by decide +kernel)))⟩) (IHQ.cg hs8 (fun j => ((hR215 46 j rfl).trans (hR213 46 j rfl))) ⟨fun j _ => ((hR215 138 j rfl).trans (hR213 138 j rfl)), fun k _ => ((hL215 139 k (by decide +kernel)).trans (hL213 139 k (by decide +kernel)))⟩ ⟨fun j _ => ((hR215 156 j rfl).trans (hR213 156 j rfl)), fun k _ => ((hL215 157 k (by decide +kernel)).trans (hL213 157 k (by decide +kernel)))⟩ ⟨fun j hj => ((hR215 177 (0 + j) rfl).trans (hR213 177 (0 + j) rfl)), fun k _ => ((hL215 182 (0 + k) (by decide +kernel)).trans (hL213 182 (0 + k) (by decide +kernel)))⟩ ⟨fun j hj => ((hR215 177 (476 + j) rfl).trans (hR213 177 (476 + j) rfl)), fun k _ => ((hL215 182 (18 + k) (by decide +kernel)).trans (hL213 182 (18 + k) (by decide +kernel)))⟩) (by omega)
   by_cases h216 : z17 = 19
   ·
    refine jx_tswI c1 hm 834 rfl ⟨by omega, by omega⟩ (by rw [h216] <;> rfl) rfl ?_
    refine jx_load c1 hm rfl rfl rfl rfl ?_
    refine jx_load c1 hm rfl rfl rfl rfl ?_
    refine jx_load c1 hm rfl rfl rfl rfl ?_
    refine jy_ic c1 hm rfl (by decide) ?_
    refine jy_add c1 hm (b1 + 1) rfl (by omega) ?_
    obtain ⟨z217, kz217, lz217, uz217⟩ := hf ((b1 + 1)).toNat
    refine jx_sald c1 hm rfl ⟨by omega, by omega⟩ kz217 ?_
    refine jv_i c3 hm rfl (plp pj_X11_ringAt rfl) rfl rfl ⟨_, _, _, rfl, sh_0⟩ rfl ((ct_X11_ringAt_0 (X + 8000 * b1) (by omega) M4 hH4 z217 ⟨by omega, by omega⟩).le (by decide)) (fun z218 _ ⟨rfl, lz218, uz218⟩ => ?_)
    refine jx_pop c1 hm rfl rfl ?_
    refine jx_load c1 hm rfl rfl rfl rfl ?_
    refine jx_load c1 hm rfl rfl rfl rfl ?_
    refine jx_load c1 hm rfl rfl rfl rfl ?_
    refine jy_ic c1 hm rfl (by decide) ?_
    refine jy_add c1 hm (b1 + 1) rfl (by omega) ?_
    obtain ⟨z219, kz219, lz219, uz219⟩ := hf ((b1 + 1)).toNat
    refine jx_sald c1 hm rfl ⟨by omega, by omega⟩ kz219 ?_
    refine jv_i c3 hm rfl (plp pj_X12_ringAt rfl) rfl rfl ⟨_, _, _, rfl, sh_173⟩ rfl (((ct_X12_ringAt_173 (X + 8000 * b1) (by omega) M4 hH4 z219 ⟨by omega, by omega⟩).lki (by decide +kernel) rfl).le (by decide)) (fun z220 M221 ⟨⟨hH221, hR221, lz220, uz220⟩, hL221⟩ => ?_)
    refine jx_pop c1 hm rfl rfl ?_
    refine jx_goto c1 hm 1445 rfl rfl ?_
    refine jx_iinc c1 hm (v := (b1 + 6)) (L' := [some (.inr (.inr (.inr 0))), some (.inr (.inr (.inl 0))), some (.inr (.inr (.inl 173))), some (.inr (.inr (.inl 198))), some (.inl (b1 + 6)), o2, o3]) rfl rfl (by omega) (by omega) rfl ?_
    refine jx_goto c1 hm 23 rfl rfl ?_
    exact ihW13 (b1 + 6) (by omega) o2 ho2 o3 ho3 M221 (hH221.mono (by omega) (by omega)) k (by omega) (SOK.cg hs1 (fun j h1 h2 => (hR221 175 j rfl))) (KOK.cg hs2 (fun j h1 h2 => (hR221 177 j rfl))) (KOK.cg hs3 (fun j h1 h2 => (hR221 177 j rfl))) (TPQ.cg hs4 (hR221 0 2 rfl) (hR221 173 2 rfl)) (TBQ.cg hs5 (fun j => (hR221 2 j rfl)) (fun j => (hR221 174 j rfl))) (IMG.cg hs6 (fun j => (hR221 46 j rfl)) (fun j => (hR221 183 j rfl))) (HNQ.cg hs7 ⟨fun j _ => (hR221 6 j rfl), fun k _ => (hL221 7 k (by decide +kernel))⟩ ⟨fun j hj => (hR221 175 (0 + j) rfl), fun k _ => (hL221 180 (0 + k) (by decide +kernel))⟩) (IHQ.cg hs8 (fun j => (hR221 46 j rfl)) ⟨fun j _ => (hR221 138 j rfl), fun k _ => (hL221 139 k (by decide +kernel))⟩ ⟨fun j _ => (hR221 156 j rfl), fun k _ => (hL221 157 k (by decide +kernel))⟩ ⟨fun j hj => (hR221 177 (0 + j) rfl), fun k _ => (hL221 182 (0 + k) (by decide +kernel))⟩ ⟨fun j hj => (hR221 177 (476 + j) rfl), fun k _ => (hL221 182 (18 + k) (by decide +kernel))⟩) (by omega)
   by_cases h222 : z17 = 20
   ·
    refine jx_tswI c1 hm 859 rfl ⟨by omega, by omega⟩ (by rw [h222] <;> rfl) rfl ?_
    refine jx_load c1 hm rfl rfl rfl rfl ?_
    refine jx_load c1 hm rfl rfl rfl rfl ?_
    refine jx_load c1 hm rfl rfl rfl rfl ?_
    refine jy_ic c1 hm rfl (by decide) ?_
    refine jy_add c1 hm (b1 + 1) rfl (by omega) ?_
    obtain ⟨z223, kz223, lz223, uz223⟩ := hf ((b1 + 1)).toNat
    refine jx_sald c1 hm rfl ⟨by omega, by omega⟩ kz223 ?_
    refine jx_load c1 hm rfl rfl rfl rfl ?_
    refine jx_load c1 hm rfl rfl rfl rfl ?_
    refine jy_ic c1 hm rfl (by decide) ?_
    refine jy_add c1 hm (b1 + 2) rfl (by omega) ?_
    obtain ⟨z224, kz224, lz224, uz224⟩ := hf ((b1 + 2)).toNat
    refine jx_sald c1 hm rfl ⟨by omega, by omega⟩ kz224 ?_
    refine jv_i c3 hm rfl (plp pj_X11_plan rfl) rfl rfl ⟨_, _, _, rfl, sh_0⟩ rfl (((ct_X11_plan_0 (X + 8000 * b1) (by omega) M4 hH4 z223 ⟨by omega, by omega⟩ z224 ⟨by omega, by omega⟩).lki (by decide +kernel) rfl).le (by decide)) (fun z225 M226 ⟨⟨hH226, hR226, lz225, uz225⟩, hL226⟩ => ?_)
    refine jx_pop c1 hm rfl rfl ?_
    refine jx_load c1 hm rfl rfl rfl rfl ?_
    refine jx_load c1 hm rfl rfl rfl rfl ?_
    refine jx_load c1 hm rfl rfl rfl rfl ?_
    refine jy_ic c1 hm rfl (by decide) ?_
    refine jy_add c1 hm (b1 + 1) rfl (by omega) ?_
    obtain ⟨z227, kz227, lz227, uz227⟩ := hf ((b1 + 1)).toNat
    refine jx_sald c1 hm rfl ⟨by omega, by omega⟩ kz227 ?_
    refine jx_load c1 hm rfl rfl rfl rfl ?_
    refine jx_load c1 hm rfl rfl rfl rfl ?_
    refine jy_ic c1 hm rfl (by decide) ?_
    refine jy_add c1 hm (b1 + 2) rfl (by omega) ?_
    obtain ⟨z228, kz228, lz228, uz228⟩ := hf ((b1 + 2)).toNat
    refine jx_sald c1 hm rfl ⟨by omega, by omega⟩ kz228 ?_
    refine jv_i c3 hm rfl (plp pj_X12_plan rfl) rfl rfl ⟨_, _, _, rfl, sh_173⟩ rfl (((ct_X12_plan_173 (X + 8000 * b1) (by omega) M226 hH226 z227 ⟨by omega, by omega⟩ z228 ⟨by omega, by omega⟩).lki (by decide +kernel) rfl).le (by decide)) (fun z229 M230 ⟨⟨hH230, hR230, lz229, uz229⟩, hL230⟩ => ?_)
    refine jx_pop c1 hm rfl rfl ?_
    refine jx_goto c1 hm 1445 rfl rfl ?_
    refine jx_iinc c1 hm (v := (b1 + 6)) (L' := [some (.inr (.inr (.inr 0))), some (.inr (.inr (.inl 0))), some (.inr (.inr (.inl 173))), some (.inr (.inr (.inl 198))), some (.inl (b1 + 6)), o2, o3]) rfl rfl (by omega) (by omega) rfl ?_
    refine jx_goto c1 hm 23 rfl rfl ?_
    exact ihW13 (b1 + 6) (by omega) o2 ho2 o3 ho3 M230 (hH230.mono (by omega) (by omega)) k (by omega) (SOK.cg hs1 (fun j h1 h2 => ((hR230 175 j rfl).trans (hR226 175 j rfl)))) (KOK.cg hs2 (fun j h1 h2 => ((hR230 177 j rfl).trans (hR226 177 j rfl)))) (KOK.cg hs3 (fun j h1 h2 => ((hR230 177 j rfl).trans (hR226 177 j rfl)))) (TPQ.cg hs4 ((hR230 0 2 rfl).trans (hR226 0 2 rfl)) ((hR230 173 2 rfl).trans (hR226 173 2 rfl))) (TBQ.cg hs5 (fun j => ((hR230 2 j rfl).trans (hR226 2 j rfl))) (fun j => ((hR230 174 j rfl).trans (hR226 174 j rfl)))) (IMG.cg hs6 (fun j => ((hR230 46 j rfl).trans (hR226 46 j rfl))) (fun j => ((hR230 183 j rfl).trans (hR226 183 j rfl)))) (HNQ.cg hs7 ⟨fun j _ => ((hR230 6 j rfl).trans (hR226 6 j rfl)), fun k _ => ((hL230 7 k (by decide +kernel)).trans (hL226 7 k (by decide +kernel)))⟩ ⟨fun j hj => ((hR230 175 (0 + j) rfl).trans (hR226 175 (0 + j) rfl)), fun k _ => ((hL230 180 (0 + k) (by decide +kernel)).trans (hL226 180 (0 + k) (by decide +kernel)))⟩) (IHQ.cg hs8 (fun j => ((hR230 46 j rfl).trans (hR226 46 j rfl))) ⟨fun j _ => ((hR230 138 j rfl).trans (hR226 138 j rfl)), fun k _ => ((hL230 139 k (by decide +kernel)).trans (hL226 139 k (by decide +kernel)))⟩ ⟨fun j _ => ((hR230 156 j rfl).trans (hR226 156 j rfl)), fun k _ => ((hL230 157 k (by decide +kernel)).trans (hL226 157 k (by decide +kernel)))⟩ ⟨fun j hj => ((hR230 177 (0 + j) rfl).trans (hR226 177 (0 + j) rfl)), fun k _ => ((hL230 182 (0 + k) (by decide +kernel)).trans (hL226 182 (0 + k) (by decide +kernel)))⟩ ⟨fun j hj => ((hR230 177 (476 + j) rfl).trans (hR226 177 (476 + j) rfl)), fun k _ => ((hL230 182 (18 + k) (by decide +kernel)).trans (hL226 182 (18 + k) (by decide +kernel)))⟩) (by omega)
   by_cases h231 : z17 = 21
   ·
    refine jx_tswI c1 hm 896 rfl ⟨by omega, by omega⟩ (by rw [h231] <;> rfl) rfl ?_
    refine jx_load c1 hm rfl rfl rfl rfl ?_
    refine jx_load c1 hm rfl rfl rfl rfl ?_
    refine jx_load c1 hm rfl rfl rfl rfl ?_
    refine jy_ic c1 hm rfl (by decide) ?_
    refine jy_add c1 hm (b1 + 1) rfl (by omega) ?_
    obtain ⟨z232, kz232, lz232, uz232⟩ := hf ((b1 + 1)).toNat
    refine jx_sald c1 hm rfl ⟨by omega, by omega⟩ kz232 ?_
    refine jv_i c3 hm rfl (plp pj_X11_planned rfl) rfl rfl ⟨_, _, _, rfl, sh_0⟩ rfl ((ct_X11_planned_0 (X + 8000 * b1) (by omega) M4 hH4 z232 ⟨by omega, by omega⟩).le (by decide)) (fun z233 _ ⟨rfl, lz233, uz233⟩ => ?_)
    refine jx_pop c1 hm rfl rfl ?_
    refine jx_load c1 hm rfl rfl rfl rfl ?_
    refine jx_load c1 hm rfl rfl rfl rfl ?_
    refine jx_load c1 hm rfl rfl rfl rfl ?_
    refine jy_ic c1 hm rfl (by decide) ?_
    refine jy_add c1 hm (b1 + 1) rfl (by omega) ?_
    obtain ⟨z234, kz234, lz234, uz234⟩ := hf ((b1 + 1)).toNat
    refine jx_sald c1 hm rfl ⟨by omega, by omega⟩ kz234 ?_
    refine jv_i c3 hm rfl (plp pj_X12_planned rfl) rfl rfl ⟨_, _, _, rfl, sh_173⟩ rfl (((ct_X12_planned_173 (X + 8000 * b1) (by omega) M4 hH4 z234 ⟨by omega, by omega⟩).lki (by decide +kernel) rfl).le (by decide)) (fun z235 M236 ⟨⟨hH236, hR236, lz235, uz235⟩, hL236⟩ => ?_)
    refine jx_pop c1 hm rfl rfl ?_
    refine jx_goto c1 hm 1445 rfl rfl ?_
    refine jx_iinc c1 hm (v := (b1 + 6)) (L' := [some (.inr (.inr (.inr 0))), some (.inr (.inr (.inl 0))), some (.inr (.inr (.inl 173))), some (.inr (.inr (.inl 198))), some (.inl (b1 + 6)), o2, o3]) rfl rfl (by omega) (by omega) rfl ?_
    refine jx_goto c1 hm 23 rfl rfl ?_
    exact ihW13 (b1 + 6) (by omega) o2 ho2 o3 ho3 M236 (hH236.mono (by omega) (by omega)) k (by omega) (SOK.cg hs1 (fun j h1 h2 => (hR236 175 j rfl))) (KOK.cg hs2 (fun j h1 h2 => (hR236 177 j rfl))) (KOK.cg hs3 (fun j h1 h2 => (hR236 177 j rfl))) (TPQ.cg hs4 (hR236 0 2 rfl) (hR236 173 2 rfl)) (TBQ.cg hs5 (fun j => (hR236 2 j rfl)) (fun j => (hR236 174 j rfl))) (IMG.cg hs6 (fun j => (hR236 46 j rfl)) (fun j => (hR236 183 j rfl))) (HNQ.cg hs7 ⟨fun j _ => (hR236 6 j rfl), fun k _ => (hL236 7 k (by decide +kernel))⟩ ⟨fun j hj => (hR236 175 (0 + j) rfl), fun k _ => (hL236 180 (0 + k) (by decide +kernel))⟩) (IHQ.cg hs8 (fun j => (hR236 46 j rfl)) ⟨fun j _ => (hR236 138 j rfl), fun k _ => (hL236 139 k (by decide +kernel))⟩ ⟨fun j _ => (hR236 156 j rfl), fun k _ => (hL236 157 k (by decide +kernel))⟩ ⟨fun j hj => (hR236 177 (0 + j) rfl), fun k _ => (hL236 182 (0 + k) (by decide +kernel))⟩ ⟨fun j hj => (hR236 177 (476 + j) rfl), fun k _ => (hL236 182 (18 + k) (by decide +kernel))⟩) (by omega)
   by_cases h237 : z17 = 22
   ·
    refine jx_tswI c1 hm 921 rfl ⟨by omega, by omega⟩ (by rw [h237] <;> rfl) rfl ?_
    refine jx_load c1 hm rfl rfl rfl rfl ?_
    refine jx_load c1 hm rfl rfl rfl rfl ?_
    refine jx_load c1 hm rfl rfl rfl rfl ?_
    refine jy_ic c1 hm rfl (by decide) ?_
    refine jy_add c1 hm (b1 + 1) rfl (by omega) ?_
    obtain ⟨z238, kz238, lz238, uz238⟩ := hf ((b1 + 1)).toNat
    refine jx_sald c1 hm rfl ⟨by omega, by omega⟩ kz238 ?_
    refine jx_load c1 hm rfl rfl rfl rfl ?_
    refine jx_load c1 hm rfl rfl rfl rfl ?_
    refine jy_ic c1 hm rfl (by decide) ?_
    refine jy_add c1 hm (b1 + 2) rfl (by omega) ?_
    obtain ⟨z239, kz239, lz239, uz239⟩ := hf ((b1 + 2)).toNat
    refine jx_sald c1 hm rfl ⟨by omega, by omega⟩ kz239 ?_
    refine jv_i c3 hm rfl (plp pj_X11_lasts rfl) rfl rfl ⟨_, _, _, rfl, sh_0⟩ rfl ((ct_X11_lasts_0 (X + 8000 * b1) (by omega) M4 hH4 z238 ⟨by omega, by omega⟩ z239 ⟨by omega, by omega⟩).le (by decide)) (fun z240 _ ⟨rfl, lz240, uz240⟩ => ?_)
    refine jx_pop c1 hm rfl rfl ?_
    refine jx_load c1 hm rfl rfl rfl rfl ?_
    refine jx_load c1 hm rfl rfl rfl rfl ?_
    refine jx_load c1 hm rfl rfl rfl rfl ?_
    refine jy_ic c1 hm rfl (by decide) ?_
    refine jy_add c1 hm (b1 + 1) rfl (by omega) ?_
    obtain ⟨z241, kz241, lz241, uz241⟩ := hf ((b1 + 1)).toNat
    refine jx_sald c1 hm rfl ⟨by omega, by omega⟩ kz241 ?_
    refine jx_load c1 hm rfl rfl rfl rfl ?_
    refine jx_load c1 hm rfl rfl rfl rfl ?_
    refine jy_ic c1 hm rfl (by decide) ?_
    refine jy_add c1 hm (b1 + 2) rfl (by omega) ?_
    obtain ⟨z242, kz242, lz242, uz242⟩ := hf ((b1 + 2)).toNat
    refine jx_sald c1 hm rfl ⟨by omega, by omega⟩ kz242 ?_
    refine jv_i c3 hm rfl (plp pj_X12_lasts rfl) rfl rfl ⟨_, _, _, rfl, sh_173⟩ rfl (((ct_X12_lasts_173 (X + 8000 * b1) (by omega) M4 hH4 z241 ⟨by omega, by omega⟩ z242 ⟨by omega, by omega⟩).lki (by decide +kernel) rfl).le (by decide)) (fun z243 M244 ⟨⟨hH244, hR244, lz243, uz243⟩, hL244⟩ => ?_)
    refine jx_pop c1 hm rfl rfl ?_
    refine jx_goto c1 hm 1445 rfl rfl ?_
    refine jx_iinc c1 hm (v := (b1 + 6)) (L' := [some (.inr (.inr (.inr 0))), some (.inr (.inr (.inl 0))), some (.inr (.inr (.inl 173))), some (.inr (.inr (.inl 198))), some (.inl (b1 + 6)), o2, o3]) rfl rfl (by omega) (by omega) rfl ?_
    refine jx_goto c1 hm 23 rfl rfl ?_
    exact ihW13 (b1 + 6) (by omega) o2 ho2 o3 ho3 M244 (hH244.mono (by omega) (by omega)) k (by omega) (SOK.cg hs1 (fun j h1 h2 => (hR244 175 j rfl))) (KOK.cg hs2 (fun j h1 h2 => (hR244 177 j rfl))) (KOK.cg hs3 (fun j h1 h2 => (hR244 177 j rfl))) (TPQ.cg hs4 (hR244 0 2 rfl) (hR244 173 2 rfl)) (TBQ.cg hs5 (fun j => (hR244 2 j rfl)) (fun j => (hR244 174 j rfl))) (IMG.cg hs6 (fun j => (hR244 46 j rfl)) (fun j => (hR244 183 j rfl))) (HNQ.cg hs7 ⟨fun j _ => (hR244 6 j rfl), fun k _ => (hL244 7 k (by decide +kernel))⟩ ⟨fun j hj => (hR244 175 (0 + j) rfl), fun k _ => (hL244 180 (0 + k) (by decide +kernel))⟩) (IHQ.cg hs8 (fun j => (hR244 46 j rfl)) ⟨fun j _ => (hR244 138 j rfl), fun k _ => (hL244 139 k (by decide +kernel))⟩ ⟨fun j _ => (hR244 156 j rfl), fun k _ => (hL244 157 k (by decide +kernel))⟩ ⟨fun j hj => (hR244 177 (0 + j) rfl), fun k _ => (hL244 182 (0 + k) (by decide +kernel))⟩ ⟨fun j hj => (hR244 177 (476 + j) rfl), fun k _ => (hL244 182 (18 + k) (by decide +kernel))⟩) (by omega)
   by_cases h245 : z17 = 23
   ·
    refine jx_tswI c1 hm 958 rfl ⟨by omega, by omega⟩ (by rw [h245] <;> rfl) rfl ?_
    refine jx_load c1 hm rfl rfl rfl rfl ?_
    refine jx_load c1 hm rfl rfl rfl rfl ?_
    refine jx_load c1 hm rfl rfl rfl rfl ?_
    refine jy_ic c1 hm rfl (by decide) ?_
    refine jy_add c1 hm (b1 + 1) rfl (by omega) ?_
    obtain ⟨z246, kz246, lz246, uz246⟩ := hf ((b1 + 1)).toNat
    refine jx_sald c1 hm rfl ⟨by omega, by omega⟩ kz246 ?_
    refine jx_load c1 hm rfl rfl rfl rfl ?_
    refine jx_load c1 hm rfl rfl rfl rfl ?_
    refine jy_ic c1 hm rfl (by decide) ?_
    refine jy_add c1 hm (b1 + 2) rfl (by omega) ?_
    obtain ⟨z247, kz247, lz247, uz247⟩ := hf ((b1 + 2)).toNat
    refine jx_sald c1 hm rfl ⟨by omega, by omega⟩ kz247 ?_
    refine jv_i c3 hm rfl (plp pj_X11_worth rfl) rfl rfl ⟨_, _, _, rfl, sh_0⟩ rfl ((ct_X11_worth_0 (X + 8000 * b1) (by omega) M4 hH4 z246 ⟨by omega, by omega⟩ z247 ⟨by omega, by omega⟩).le (by decide)) (fun z248 _ ⟨rfl, lz248, uz248⟩ => ?_)
    refine jx_pop c1 hm rfl rfl ?_
    refine jx_load c1 hm rfl rfl rfl rfl ?_
    refine jx_load c1 hm rfl rfl rfl rfl ?_
    refine jx_load c1 hm rfl rfl rfl rfl ?_
    refine jy_ic c1 hm rfl (by decide) ?_
    refine jy_add c1 hm (b1 + 1) rfl (by omega) ?_
    obtain ⟨z249, kz249, lz249, uz249⟩ := hf ((b1 + 1)).toNat
    refine jx_sald c1 hm rfl ⟨by omega, by omega⟩ kz249 ?_
    refine jx_load c1 hm rfl rfl rfl rfl ?_
    refine jx_load c1 hm rfl rfl rfl rfl ?_
    refine jy_ic c1 hm rfl (by decide) ?_
    refine jy_add c1 hm (b1 + 2) rfl (by omega) ?_
    obtain ⟨z250, kz250, lz250, uz250⟩ := hf ((b1 + 2)).toNat
    refine jx_sald c1 hm rfl ⟨by omega, by omega⟩ kz250 ?_
    refine jv_i c3 hm rfl (plp pj_X12_worth rfl) rfl rfl ⟨_, _, _, rfl, sh_173⟩ rfl (((ct_X12_worth_173 (X + 8000 * b1) (by omega) M4 hH4 z249 ⟨by omega, by omega⟩ z250 ⟨by omega, by omega⟩).lki (by decide +kernel) rfl).le (by decide)) (fun z251 M252 ⟨⟨hH252, hR252, lz251, uz251⟩, hL252⟩ => ?_)
    refine jx_pop c1 hm rfl rfl ?_
    refine jx_goto c1 hm 1445 rfl rfl ?_
    refine jx_iinc c1 hm (v := (b1 + 6)) (L' := [some (.inr (.inr (.inr 0))), some (.inr (.inr (.inl 0))), some (.inr (.inr (.inl 173))), some (.inr (.inr (.inl 198))), some (.inl (b1 + 6)), o2, o3]) rfl rfl (by omega) (by omega) rfl ?_
    refine jx_goto c1 hm 23 rfl rfl ?_
    exact ihW13 (b1 + 6) (by omega) o2 ho2 o3 ho3 M252 (hH252.mono (by omega) (by omega)) k (by omega) (SOK.cg hs1 (fun j h1 h2 => (hR252 175 j rfl))) (KOK.cg hs2 (fun j h1 h2 => (hR252 177 j rfl))) (KOK.cg hs3 (fun j h1 h2 => (hR252 177 j rfl))) (TPQ.cg hs4 (hR252 0 2 rfl) (hR252 173 2 rfl)) (TBQ.cg hs5 (fun j => (hR252 2 j rfl)) (fun j => (hR252 174 j rfl))) (IMG.cg hs6 (fun j => (hR252 46 j rfl)) (fun j => (hR252 183 j rfl))) (HNQ.cg hs7 ⟨fun j _ => (hR252 6 j rfl), fun k _ => (hL252 7 k (by decide +kernel))⟩ ⟨fun j hj => (hR252 175 (0 + j) rfl), fun k _ => (hL252 180 (0 + k) (by decide +kernel))⟩) (IHQ.cg hs8 (fun j => (hR252 46 j rfl)) ⟨fun j _ => (hR252 138 j rfl), fun k _ => (hL252 139 k (by decide +kernel))⟩ ⟨fun j _ => (hR252 156 j rfl), fun k _ => (hL252 157 k (by decide +kernel))⟩ ⟨fun j hj => (hR252 177 (0 + j) rfl), fun k _ => (hL252 182 (0 + k) (by decide +kernel))⟩ ⟨fun j hj => (hR252 177 (476 + j) rfl), fun k _ => (hL252 182 (18 + k) (by decide +kernel))⟩) (by omega)
   by_cases h253 : z17 = 24
   ·
    refine jx_tswI c1 hm 995 rfl ⟨by omega, by omega⟩ (by rw [h253] <;> rfl) rfl ?_
    refine jx_load c1 hm rfl rfl rfl rfl ?_
    refine jv_i c3 hm rfl (plp pj_X11_even rfl) rfl rfl ⟨_, _, _, rfl, sh_0⟩ rfl (((ct_X11_even_0 (X + 8000 * b1) (by omega) M4 hH4 ).lki (by decide +kernel) rfl).le (by decide)) (fun z254 M255 ⟨⟨hH255, hR255, lz254, uz254⟩, hL255⟩ => ?_)
    refine jx_pop c1 hm rfl rfl ?_
    refine jx_load c1 hm rfl rfl rfl rfl ?_
    refine jv_i c3 hm rfl (plp pj_X12_even rfl) rfl rfl ⟨_, _, _, rfl, sh_173⟩ rfl (((ct_X12_even_173 (X + 8000 * b1) (by omega) M255 hH255 ).lki (by decide +kernel) rfl).le (by decide)) (fun z256 M257 ⟨⟨hH257, hR257, lz256, uz256⟩, hL257⟩ => ?_)
    refine jx_pop c1 hm rfl rfl ?_
    refine jx_goto c1 hm 1445 rfl rfl ?_
    refine jx_iinc c1 hm (v := (b1 + 6)) (L' := [some (.inr (.inr (.inr 0))), some (.inr (.inr (.inl 0))), some (.inr (.inr (.inl 173))), some (.inr (.inr (.inl 198))), some (.inl (b1 + 6)), o2, o3]) rfl rfl (by omega) (by omega) rfl ?_
    refine jx_goto c1 hm 23 rfl rfl ?_
    exact ihW13 (b1 + 6) (by omega) o2 ho2 o3 ho3 M257 (hH257.mono (by omega) (by omega)) k (by omega) (SOK.cg hs1 (fun j h1 h2 => ((hR257 175 j rfl).trans (hR255 175 j rfl)))) (KOK.cg hs2 (fun j h1 h2 => ((hR257 177 j rfl).trans (hR255 177 j rfl)))) (KOK.cg hs3 (fun j h1 h2 => ((hR257 177 j rfl).trans (hR255 177 j rfl)))) (TPQ.cg hs4 ((hR257 0 2 rfl).trans (hR255 0 2 rfl)) ((hR257 173 2 rfl).trans (hR255 173 2 rfl))) (TBQ.cg hs5 (fun j => ((hR257 2 j rfl).trans (hR255 2 j rfl))) (fun j => ((hR257 174 j rfl).trans (hR255 174 j rfl)))) (IMG.cg hs6 (fun j => ((hR257 46 j rfl).trans (hR255 46 j rfl))) (fun j => ((hR257 183 j rfl).trans (hR255 183 j rfl)))) (HNQ.cg hs7 ⟨fun j _ => ((hR257 6 j rfl).trans (hR255 6 j rfl)), fun k _ => ((hL257 7 k (by decide +kernel)).trans (hL255 7 k (by decide +kernel)))⟩ ⟨fun j hj => ((hR257 175 (0 + j) rfl).trans (hR255 175 (0 + j) rfl)), fun k _ => ((hL257 180 (0 + k) (by decide +kernel)).trans (hL255 180 (0 + k) (by decide +kernel)))⟩) (IHQ.cg hs8 (fun j => ((hR257 46 j rfl).trans (hR255 46 j rfl))) ⟨fun j _ => ((hR257 138 j rfl).trans (hR255 138 j rfl)), fun k _ => ((hL257 139 k (by decide +kernel)).trans (hL255 139 k (by decide +kernel)))⟩ ⟨fun j _ => ((hR257 156 j rfl).trans (hR255 156 j rfl)), fun k _ => ((hL257 157 k (by decide +kernel)).trans (hL255 157 k (by decide +kernel)))⟩ ⟨fun j hj => ((hR257 177 (0 + j) rfl).trans (hR255 177 (0 + j) rfl)), fun k _ => ((hL257 182 (0 + k) (by decide +kernel)).trans (hL255 182 (0 + k) (by decide +kernel)))⟩ ⟨fun j hj => ((hR257 177 (476 + j) rfl).trans (hR255 177 (476 + j) rfl)), fun k _ => ((hL257 182 (18 + k) (by decide +kernel)).trans (hL255 182 (18 + k) (by decide +kernel)))⟩) (by omega)
   by_cases h258 : z17 = 25
   ·
    refine jx_tswI c1 hm 1008 rfl ⟨by omega, by omega⟩ (by rw [h258] <;> rfl) rfl ?_
    refine jx_load c1 hm rfl rfl rfl rfl ?_
    refine jv_i c3 hm rfl (plp pj_X11_fits rfl) rfl rfl ⟨_, _, _, rfl, sh_0⟩ rfl (((ct_X11_fits_0t (X + 8000 * b1) (by omega) M4 hH4 ).lki (by decide +kernel) rfl).le (by decide)) (fun z259 M261 ⟨⟨hH261, hR261, lz259, uz259, p260⟩, hL261⟩ => ?_)
    obtain ⟨z262, k263, lz262, uz262⟩ := hH261.ld (c := 0) (i := 2) (A := 0) (B := 940) (bs_18_1 _ _ (by omega) (by omega))
    refine jx_pop c1 hm rfl rfl ?_
    refine jx_load c1 hm rfl rfl rfl rfl ?_
    refine jv_i c3 hm rfl (plp pj_X12_fits rfl) rfl rfl ⟨_, _, _, rfl, sh_173⟩ rfl (((ct_X12_fits_173t (X + 8000 * b1) (by omega) M261 hH261 ).lki (by decide +kernel) rfl).le (by decide)) (fun z264 M266 ⟨⟨hH266, hR266, lz264, uz264, p265⟩, hL266⟩ => ?_)
    obtain ⟨z267, k268, lz267, uz267⟩ := hH266.ld (c := 173) (i := 2) (A := 0) (B := 940) (bs_28_1 _ _ (by omega) (by omega))
    refine jx_pop c1 hm rfl rfl ?_
    refine jx_goto c1 hm 1445 rfl rfl ?_
    refine jx_iinc c1 hm (v := (b1 + 6)) (L' := [some (.inr (.inr (.inr 0))), some (.inr (.inr (.inl 0))), some (.inr (.inr (.inl 173))), some (.inr (.inr (.inl 198))), some (.inl (b1 + 6)), o2, o3]) rfl rfl (by omega) (by omega) rfl ?_
    refine jx_goto c1 hm 23 rfl rfl ?_
    exact ihW13 (b1 + 6) (by omega) o2 ho2 o3 ho3 M266 (hH266.mono (by omega) (by omega)) k (by omega) (SOK.cg hs1 (fun j h1 h2 => ((hR266 175 j rfl).trans (hR261 175 j rfl)))) (KOK.cg hs2 (fun j h1 h2 => ((hR266 177 j rfl).trans (hR261 177 j rfl)))) (KOK.cg hs3 (fun j h1 h2 => ((hR266 177 j rfl).trans (hR261 177 j rfl)))) (TPQ.of (by have y9 := hs4.e; have y90_0 := hR266 0 2 rfl; have y91_173 := hR261 173 2 rfl; omega)) (TBQ.cg hs5 (fun j => ((hR266 2 j rfl).trans (hR261 2 j rfl))) (fun j => ((hR266 174 j rfl).trans (hR261 174 j rfl)))) (IMG.cg hs6 (fun j => ((hR266 46 j rfl).trans (hR261 46 j rfl))) (fun j => ((hR266 183 j rfl).trans (hR261 183 j rfl)))) (HNQ.cg hs7 ⟨fun j _ => ((hR266 6 j rfl).trans (hR261 6 j rfl)), fun k _ => ((hL266 7 k (by decide +kernel)).trans (hL261 7 k (by decide +kernel)))⟩ ⟨fun j hj => ((hR266 175 (0 + j) rfl).trans (hR261 175 (0 + j) rfl)), fun k _ => ((hL266 180 (0 + k) (by decide +kernel)).trans (hL261 180 (0 + k) (by decide +kernel)))⟩) (IHQ.cg hs8 (fun j => ((hR266 46 j rfl).trans (hR261 46 j rfl))) ⟨fun j _ => ((hR266 138 j rfl).trans (hR261 138 j rfl)), fun k _ => ((hL266 139 k (by decide +kernel)).trans (hL261 139 k (by decide +kernel)))⟩ ⟨fun j _ => ((hR266 156 j rfl).trans (hR261 156 j rfl)), fun k _ => ((hL266 157 k (by decide +kernel)).trans (hL261 157 k (by decide +kernel)))⟩ ⟨fun j hj => ((hR266 177 (0 + j) rfl).trans (hR261 177 (0 + j) rfl)), fun k _ => ((hL266 182 (0 + k) (by decide +kernel)).trans (hL261 182 (0 + k) (by decide +kernel)))⟩ ⟨fun j hj => ((hR266 177 (476 + j) rfl).trans (hR261 177 (476 + j) rfl)), fun k _ => ((hL266 182 (18 + k) (by decide +kernel)).trans (hL261 182 (18 + k) (by decide +kernel)))⟩) (by omega)
   by_cases h269 : z17 = 26
   ·
    refine jx_tswI c1 hm 1021 rfl ⟨by omega, by omega⟩ (by rw [h269] <;> rfl) rfl ?_
    refine jx_load c1 hm rfl rfl rfl rfl ?_
    refine jv_i c3 hm rfl (plp pj_X11_tells rfl) rfl rfl ⟨_, _, _, rfl, sh_0⟩ rfl ((ct_X11_tells_0 (X + 8000 * b1) (by omega) M4 hH4 ).le (by decide)) (fun z270 _ ⟨rfl, lz270, uz270⟩ => ?_)
    refine jx_pop c1 hm rfl rfl ?_
    refine jx_load c1 hm rfl rfl rfl rfl ?_
    refine jv_i c3 hm rfl (plp pj_X12_tells rfl) rfl rfl ⟨_, _, _, rfl, sh_173⟩ rfl (((ct_X12_tells_173 (X + 8000 * b1) (by omega) M4 hH4 ).lki (by decide +kernel) rfl).le (by decide)) (fun z271 M272 ⟨⟨hH272, hR272, lz271, uz271⟩, hL272⟩ => ?_)
    refine jx_pop c1 hm rfl rfl ?_
    refine jx_goto c1 hm 1445 rfl rfl ?_
    refine jx_iinc c1 hm (v := (b1 + 6)) (L' := [some (.inr (.inr (.inr 0))), some (.inr (.inr (.inl 0))), some (.inr (.inr (.inl 173))), some (.inr (.inr (.inl 198))), some (.inl (b1 + 6)), o2, o3]) rfl rfl (by omega) (by omega) rfl ?_
    refine jx_goto c1 hm 23 rfl rfl ?_
    exact ihW13 (b1 + 6) (by omega) o2 ho2 o3 ho3 M272 (hH272.mono (by omega) (by omega)) k (by omega) (SOK.cg hs1 (fun j h1 h2 => (hR272 175 j rfl))) (KOK.cg hs2 (fun j h1 h2 => (hR272 177 j rfl))) (KOK.cg hs3 (fun j h1 h2 => (hR272 177 j rfl))) (TPQ.cg hs4 (hR272 0 2 rfl) (hR272 173 2 rfl)) (TBQ.cg hs5 (fun j => (hR272 2 j rfl)) (fun j => (hR272 174 j rfl))) (IMG.cg hs6 (fun j => (hR272 46 j rfl)) (fun j => (hR272 183 j rfl))) (HNQ.cg hs7 ⟨fun j _ => (hR272 6 j rfl), fun k _ => (hL272 7 k (by decide +kernel))⟩ ⟨fun j hj => (hR272 175 (0 + j) rfl), fun k _ => (hL272 180 (0 + k) (by decide +kernel))⟩) (IHQ.cg hs8 (fun j => (hR272 46 j rfl)) ⟨fun j _ => (hR272 138 j rfl), fun k _ => (hL272 139 k (by decide +kernel))⟩ ⟨fun j _ => (hR272 156 j rfl), fun k _ => (hL272 157 k (by decide +kernel))⟩ ⟨fun j hj => (hR272 177 (0 + j) rfl), fun k _ => (hL272 182 (0 + k) (by decide +kernel))⟩ ⟨fun j hj => (hR272 177 (476 + j) rfl), fun k _ => (hL272 182 (18 + k) (by decide +kernel))⟩) (by omega)
   by_cases h273 : z17 = 27
   ·
    refine jx_tswI c1 hm 1034 rfl ⟨by omega, by omega⟩ (by rw [h273] <;> rfl) rfl ?_
    refine jx_load c1 hm rfl rfl rfl rfl ?_
    refine jx_load c1 hm rfl rfl rfl rfl ?_
    refine jx_load c1 hm rfl rfl rfl rfl ?_
    refine jy_ic c1 hm rfl (by decide) ?_
    refine jy_add c1 hm (b1 + 1) rfl (by omega) ?_
    obtain ⟨z274, kz274, lz274, uz274⟩ := hf ((b1 + 1)).toNat
    refine jx_sald c1 hm rfl ⟨by omega, by omega⟩ kz274 ?_
    refine jx_load c1 hm rfl rfl rfl rfl ?_
    refine jx_load c1 hm rfl rfl rfl rfl ?_
    refine jy_ic c1 hm rfl (by decide) ?_
    refine jy_add c1 hm (b1 + 2) rfl (by omega) ?_
    obtain ⟨z275, kz275, lz275, uz275⟩ := hf ((b1 + 2)).toNat
    refine jx_sald c1 hm rfl ⟨by omega, by omega⟩ kz275 ?_
    refine jx_load c1 hm rfl rfl rfl rfl ?_
    refine jx_load c1 hm rfl rfl rfl rfl ?_
    refine jy_ic c1 hm rfl (by decide) ?_
    refine jy_add c1 hm (b1 + 3) rfl (by omega) ?_
    obtain ⟨z276, kz276, lz276, uz276⟩ := hf ((b1 + 3)).toNat
    refine jx_sald c1 hm rfl ⟨by omega, by omega⟩ kz276 ?_
    refine jv_i c3 hm rfl (plp pj_X11_share rfl) rfl rfl ⟨_, _, _, rfl, sh_0⟩ rfl ((ct_X11_share_0 (X + 8000 * b1) (by omega) M4 hH4 z274 ⟨by omega, by omega⟩ z275 ⟨by omega, by omega⟩ z276 ⟨by omega, by omega⟩).le (by decide)) (fun z277 _ ⟨rfl, lz277, uz277⟩ => ?_)
    refine jx_pop c1 hm rfl rfl ?_
    refine jx_load c1 hm rfl rfl rfl rfl ?_
    refine jx_load c1 hm rfl rfl rfl rfl ?_
    refine jx_load c1 hm rfl rfl rfl rfl ?_
    refine jy_ic c1 hm rfl (by decide) ?_
    refine jy_add c1 hm (b1 + 1) rfl (by omega) ?_
    obtain ⟨z278, kz278, lz278, uz278⟩ := hf ((b1 + 1)).toNat
    refine jx_sald c1 hm rfl ⟨by omega, by omega⟩ kz278 ?_
    refine jx_load c1 hm rfl rfl rfl rfl ?_
    refine jx_load c1 hm rfl rfl rfl rfl ?_
    refine jy_ic c1 hm rfl (by decide) ?_
    refine jy_add c1 hm (b1 + 2) rfl (by omega) ?_
    obtain ⟨z279, kz279, lz279, uz279⟩ := hf ((b1 + 2)).toNat
    refine jx_sald c1 hm rfl ⟨by omega, by omega⟩ kz279 ?_
    refine jx_load c1 hm rfl rfl rfl rfl ?_
    refine jx_load c1 hm rfl rfl rfl rfl ?_
    refine jy_ic c1 hm rfl (by decide) ?_
    refine jy_add c1 hm (b1 + 3) rfl (by omega) ?_
    obtain ⟨z280, kz280, lz280, uz280⟩ := hf ((b1 + 3)).toNat
    refine jx_sald c1 hm rfl ⟨by omega, by omega⟩ kz280 ?_
    refine jv_i c3 hm rfl (plp pj_X12_share rfl) rfl rfl ⟨_, _, _, rfl, sh_173⟩ rfl (((ct_X12_share_173 (X + 8000 * b1) (by omega) M4 hH4 z278 ⟨by omega, by omega⟩ z279 ⟨by omega, by omega⟩ z280 ⟨by omega, by omega⟩).lki (by decide +kernel) rfl).le (by decide)) (fun z281 M282 ⟨⟨hH282, hR282, lz281, uz281⟩, hL282⟩ => ?_)
    refine jx_pop c1 hm rfl rfl ?_
    refine jx_goto c1 hm 1445 rfl rfl ?_
    refine jx_iinc c1 hm (v := (b1 + 6)) (L' := [some (.inr (.inr (.inr 0))), some (.inr (.inr (.inl 0))), some (.inr (.inr (.inl 173))), some (.inr (.inr (.inl 198))), some (.inl (b1 + 6)), o2, o3]) rfl rfl (by omega) (by omega) rfl ?_
    refine jx_goto c1 hm 23 rfl rfl ?_
    exact ihW13 (b1 + 6) (by omega) o2 ho2 o3 ho3 M282 (hH282.mono (by omega) (by omega)) k (by omega) (SOK.cg hs1 (fun j h1 h2 => (hR282 175 j rfl))) (KOK.cg hs2 (fun j h1 h2 => (hR282 177 j rfl))) (KOK.cg hs3 (fun j h1 h2 => (hR282 177 j rfl))) (TPQ.cg hs4 (hR282 0 2 rfl) (hR282 173 2 rfl)) (TBQ.cg hs5 (fun j => (hR282 2 j rfl)) (fun j => (hR282 174 j rfl))) (IMG.cg hs6 (fun j => (hR282 46 j rfl)) (fun j => (hR282 183 j rfl))) (HNQ.cg hs7 ⟨fun j _ => (hR282 6 j rfl), fun k _ => (hL282 7 k (by decide +kernel))⟩ ⟨fun j hj => (hR282 175 (0 + j) rfl), fun k _ => (hL282 180 (0 + k) (by decide +kernel))⟩) (IHQ.cg hs8 (fun j => (hR282 46 j rfl)) ⟨fun j _ => (hR282 138 j rfl), fun k _ => (hL282 139 k (by decide +kernel))⟩ ⟨fun j _ => (hR282 156 j rfl), fun k _ => (hL282 157 k (by decide +kernel))⟩ ⟨fun j hj => (hR282 177 (0 + j) rfl), fun k _ => (hL282 182 (0 + k) (by decide +kernel))⟩ ⟨fun j hj => (hR282 177 (476 + j) rfl), fun k _ => (hL282 182 (18 + k) (by decide +kernel))⟩) (by omega)
   by_cases h283 : z17 = 28
   ·
    refine jx_tswI c1 hm 1083 rfl ⟨by omega, by omega⟩ (by rw [h283] <;> rfl) rfl ?_
    refine jx_load c1 hm rfl rfl rfl rfl ?_
    refine jx_load c1 hm rfl rfl rfl rfl ?_
    refine jx_load c1 hm rfl rfl rfl rfl ?_
    refine jy_ic c1 hm rfl (by decide) ?_
    refine jy_add c1 hm (b1 + 1) rfl (by omega) ?_
    obtain ⟨z284, kz284, lz284, uz284⟩ := hf ((b1 + 1)).toNat
    refine jx_sald c1 hm rfl ⟨by omega, by omega⟩ kz284 ?_
    refine jv_i c3 hm rfl (plp pj_X11_tax rfl) rfl rfl ⟨_, _, _, rfl, sh_0⟩ rfl (((ct_X11_tax_0 (X + 8000 * b1) (by omega) M4 hH4 z284 ⟨by omega, by omega⟩).lki (by decide +kernel) rfl).le (by decide)) (fun z285 M286 ⟨⟨hH286, hR286, lz285, uz285⟩, hL286⟩ => ?_)
    refine jx_pop c1 hm rfl rfl ?_
    refine jx_load c1 hm rfl rfl rfl rfl ?_
    refine jx_load c1 hm rfl rfl rfl rfl ?_
    refine jx_load c1 hm rfl rfl rfl rfl ?_
    refine jy_ic c1 hm rfl (by decide) ?_
    refine jy_add c1 hm (b1 + 1) rfl (by omega) ?_
    obtain ⟨z287, kz287, lz287, uz287⟩ := hf ((b1 + 1)).toNat
    refine jx_sald c1 hm rfl ⟨by omega, by omega⟩ kz287 ?_
    refine jv_i c3 hm rfl (plp pj_X12_tax rfl) rfl rfl ⟨_, _, _, rfl, sh_173⟩ rfl (((ct_X12_tax_173 (X + 8000 * b1) (by omega) M286 hH286 z287 ⟨by omega, by omega⟩).lki (by decide +kernel) rfl).le (by decide)) (fun z288 M289 ⟨⟨hH289, hR289, lz288, uz288⟩, hL289⟩ => ?_)
    refine jx_pop c1 hm rfl rfl ?_
    refine jx_goto c1 hm 1445 rfl rfl ?_
    refine jx_iinc c1 hm (v := (b1 + 6)) (L' := [some (.inr (.inr (.inr 0))), some (.inr (.inr (.inl 0))), some (.inr (.inr (.inl 173))), some (.inr (.inr (.inl 198))), some (.inl (b1 + 6)), o2, o3]) rfl rfl (by omega) (by omega) rfl ?_
    refine jx_goto c1 hm 23 rfl rfl ?_
    exact ihW13 (b1 + 6) (by omega) o2 ho2 o3 ho3 M289 (hH289.mono (by omega) (by omega)) k (by omega) (SOK.cg hs1 (fun j h1 h2 => ((hR289 175 j rfl).trans (hR286 175 j rfl)))) (KOK.cg hs2 (fun j h1 h2 => ((hR289 177 j rfl).trans (hR286 177 j rfl)))) (KOK.cg hs3 (fun j h1 h2 => ((hR289 177 j rfl).trans (hR286 177 j rfl)))) (TPQ.cg hs4 ((hR289 0 2 rfl).trans (hR286 0 2 rfl)) ((hR289 173 2 rfl).trans (hR286 173 2 rfl))) (TBQ.cg hs5 (fun j => ((hR289 2 j rfl).trans (hR286 2 j rfl))) (fun j => ((hR289 174 j rfl).trans (hR286 174 j rfl)))) (IMG.cg hs6 (fun j => ((hR289 46 j rfl).trans (hR286 46 j rfl))) (fun j => ((hR289 183 j rfl).trans (hR286 183 j rfl)))) (HNQ.cg hs7 ⟨fun j _ => ((hR289 6 j rfl).trans (hR286 6 j rfl)), fun k _ => ((hL289 7 k (by decide +kernel)).trans (hL286 7 k (by decide +kernel)))⟩ ⟨fun j hj => ((hR289 175 (0 + j) rfl).trans (hR286 175 (0 + j) rfl)), fun k _ => ((hL289 180 (0 + k) (by decide +kernel)).trans (hL286 180 (0 + k) (by decide +kernel)))⟩) (IHQ.cg hs8 (fun j => ((hR289 46 j rfl).trans (hR286 46 j rfl))) ⟨fun j _ => ((hR289 138 j rfl).trans (hR286 138 j rfl)), fun k _ => ((hL289 139 k (by decide +kernel)).trans (hL286 139 k (by decide +kernel)))⟩ ⟨fun j _ => ((hR289 156 j rfl).trans (hR286 156 j rfl)), fun k _ => ((hL289 157 k (by decide +kernel)).trans (hL286 157 k (by decide +kernel)))⟩ ⟨fun j hj => ((hR289 177 (0 + j) rfl).trans (hR286 177 (0 + j) rfl)), fun k _ => ((hL289 182 (0 + k) (by decide +kernel)).trans (hL286 182 (0 + k) (by decide +kernel)))⟩ ⟨fun j hj => ((hR289 177 (476 + j) rfl).trans (hR286 177 (476 + j) rfl)), fun k _ => ((hL289 182 (18 + k) (by decide +kernel)).trans (hL286 182 (18 + k) (by decide +kernel)))⟩) (by omega)
   by_cases h290 : z17 = 29
   ·
    refine jx_tswI c1 hm 1108 rfl ⟨by omega, by omega⟩ (by rw [h290] <;> rfl) rfl ?_
    refine jx_load c1 hm rfl rfl rfl rfl ?_
    refine jx_load c1 hm rfl rfl rfl rfl ?_
    refine jx_load c1 hm rfl rfl rfl rfl ?_
    refine jy_ic c1 hm rfl (by decide) ?_
    refine jy_add c1 hm (b1 + 1) rfl (by omega) ?_
    obtain ⟨z291, kz291, lz291, uz291⟩ := hf ((b1 + 1)).toNat
    refine jx_sald c1 hm rfl ⟨by omega, by omega⟩ kz291 ?_
    refine jv_i c3 hm rfl (plp pj_X11_taxOf rfl) rfl rfl ⟨_, _, _, rfl, sh_0⟩ rfl ((ct_X11_taxOf_0 (X + 8000 * b1) (by omega) M4 hH4 z291 ⟨by omega, by omega⟩).le (by decide)) (fun z292 _ ⟨rfl, lz292, uz292⟩ => ?_)
    refine jx_pop c1 hm rfl rfl ?_
    refine jx_load c1 hm rfl rfl rfl rfl ?_
    refine jx_load c1 hm rfl rfl rfl rfl ?_
    refine jx_load c1 hm rfl rfl rfl rfl ?_
    refine jy_ic c1 hm rfl (by decide) ?_
    refine jy_add c1 hm (b1 + 1) rfl (by omega) ?_
    obtain ⟨z293, kz293, lz293, uz293⟩ := hf ((b1 + 1)).toNat
    refine jx_sald c1 hm rfl ⟨by omega, by omega⟩ kz293 ?_
    refine jv_i c3 hm rfl (plp pj_X12_taxOf rfl) rfl rfl ⟨_, _, _, rfl, sh_173⟩ rfl (((ct_X12_taxOf_173 (X + 8000 * b1) (by omega) M4 hH4 z293 ⟨by omega, by omega⟩).lki (by decide +kernel) rfl).le (by decide)) (fun z294 M295 ⟨⟨hH295, hR295, lz294, uz294⟩, hL295⟩ => ?_)
    refine jx_pop c1 hm rfl rfl ?_
    refine jx_goto c1 hm 1445 rfl rfl ?_
    refine jx_iinc c1 hm (v := (b1 + 6)) (L' := [some (.inr (.inr (.inr 0))), some (.inr (.inr (.inl 0))), some (.inr (.inr (.inl 173))), some (.inr (.inr (.inl 198))), some (.inl (b1 + 6)), o2, o3]) rfl rfl (by omega) (by omega) rfl ?_
    refine jx_goto c1 hm 23 rfl rfl ?_
    exact ihW13 (b1 + 6) (by omega) o2 ho2 o3 ho3 M295 (hH295.mono (by omega) (by omega)) k (by omega) (SOK.cg hs1 (fun j h1 h2 => (hR295 175 j rfl))) (KOK.cg hs2 (fun j h1 h2 => (hR295 177 j rfl))) (KOK.cg hs3 (fun j h1 h2 => (hR295 177 j rfl))) (TPQ.cg hs4 (hR295 0 2 rfl) (hR295 173 2 rfl)) (TBQ.cg hs5 (fun j => (hR295 2 j rfl)) (fun j => (hR295 174 j rfl))) (IMG.cg hs6 (fun j => (hR295 46 j rfl)) (fun j => (hR295 183 j rfl))) (HNQ.cg hs7 ⟨fun j _ => (hR295 6 j rfl), fun k _ => (hL295 7 k (by decide +kernel))⟩ ⟨fun j hj => (hR295 175 (0 + j) rfl), fun k _ => (hL295 180 (0 + k) (by decide +kernel))⟩) (IHQ.cg hs8 (fun j => (hR295 46 j rfl)) ⟨fun j _ => (hR295 138 j rfl), fun k _ => (hL295 139 k (by decide +kernel))⟩ ⟨fun j _ => (hR295 156 j rfl), fun k _ => (hL295 157 k (by decide +kernel))⟩ ⟨fun j hj => (hR295 177 (0 + j) rfl), fun k _ => (hL295 182 (0 + k) (by decide +kernel))⟩ ⟨fun j hj => (hR295 177 (476 + j) rfl), fun k _ => (hL295 182 (18 + k) (by decide +kernel))⟩) (by omega)
   by_cases h296 : z17 = 30
   ·
    refine jx_tswI c1 hm 1133 rfl ⟨by omega, by omega⟩ (by rw [h296] <;> rfl) rfl ?_
    refine jx_load c1 hm rfl rfl rfl rfl ?_
    refine jv_i c3 hm rfl (plp pj_X11_proudest rfl) rfl rfl ⟨_, _, _, rfl, sh_0⟩ rfl ((ct_X11_proudest_0 (X + 8000 * b1) (by omega) M4 hH4 ).le (by decide)) (fun z297 _ ⟨rfl, lz297, uz297⟩ => ?_)
    refine jx_pop c1 hm rfl rfl ?_
    refine jx_load c1 hm rfl rfl rfl rfl ?_
    refine jv_i c3 hm rfl (plp pj_X12_proudest rfl) rfl rfl ⟨_, _, _, rfl, sh_173⟩ rfl (((ct_X12_proudest_173 (X + 8000 * b1) (by omega) M4 hH4 ).lki (by decide +kernel) rfl).le (by decide)) (fun z298 M299 ⟨⟨hH299, hR299, lz298, uz298⟩, hL299⟩ => ?_)
    refine jx_pop c1 hm rfl rfl ?_
    refine jx_goto c1 hm 1445 rfl rfl ?_
    refine jx_iinc c1 hm (v := (b1 + 6)) (L' := [some (.inr (.inr (.inr 0))), some (.inr (.inr (.inl 0))), some (.inr (.inr (.inl 173))), some (.inr (.inr (.inl 198))), some (.inl (b1 + 6)), o2, o3]) rfl rfl (by omega) (by omega) rfl ?_
    refine jx_goto c1 hm 23 rfl rfl ?_
    exact ihW13 (b1 + 6) (by omega) o2 ho2 o3 ho3 M299 (hH299.mono (by omega) (by omega)) k (by omega) (SOK.cg hs1 (fun j h1 h2 => (hR299 175 j rfl))) (KOK.cg hs2 (fun j h1 h2 => (hR299 177 j rfl))) (KOK.cg hs3 (fun j h1 h2 => (hR299 177 j rfl))) (TPQ.cg hs4 (hR299 0 2 rfl) (hR299 173 2 rfl)) (TBQ.cg hs5 (fun j => (hR299 2 j rfl)) (fun j => (hR299 174 j rfl))) (IMG.cg hs6 (fun j => (hR299 46 j rfl)) (fun j => (hR299 183 j rfl))) (HNQ.cg hs7 ⟨fun j _ => (hR299 6 j rfl), fun k _ => (hL299 7 k (by decide +kernel))⟩ ⟨fun j hj => (hR299 175 (0 + j) rfl), fun k _ => (hL299 180 (0 + k) (by decide +kernel))⟩) (IHQ.cg hs8 (fun j => (hR299 46 j rfl)) ⟨fun j _ => (hR299 138 j rfl), fun k _ => (hL299 139 k (by decide +kernel))⟩ ⟨fun j _ => (hR299 156 j rfl), fun k _ => (hL299 157 k (by decide +kernel))⟩ ⟨fun j hj => (hR299 177 (0 + j) rfl), fun k _ => (hL299 182 (0 + k) (by decide +kernel))⟩ ⟨fun j hj => (hR299 177 (476 + j) rfl), fun k _ => (hL299 182 (18 + k) (by decide +kernel))⟩) (by omega)
   by_cases h300 : z17 = 31
   ·
    refine jx_tswI c1 hm 1146 rfl ⟨by omega, by omega⟩ (by rw [h300] <;> rfl) rfl ?_
    refine jx_load c1 hm rfl rfl rfl rfl ?_
    refine jx_load c1 hm rfl rfl rfl rfl ?_
    refine jx_load c1 hm rfl rfl rfl rfl ?_
    refine jy_ic c1 hm rfl (by decide) ?_
    refine jy_add c1 hm (b1 + 1) rfl (by omega) ?_
    obtain ⟨z301, kz301, lz301, uz301⟩ := hf ((b1 + 1)).toNat
    refine jx_sald c1 hm rfl ⟨by omega, by omega⟩ kz301 ?_
    refine jv_i c3 hm rfl (plp pj_X11_list rfl) rfl rfl ⟨_, _, _, rfl, sh_0⟩ rfl (((ct_X11_list_0 (X + 8000 * b1) (by omega) M4 hH4 z301 ⟨by omega, by omega⟩).lki (by decide +kernel) rfl).le (by decide)) (fun z302 M303 ⟨⟨hH303, hR303, lz302, uz302⟩, hL303⟩ => ?_)
    refine jx_pop c1 hm rfl rfl ?_
    refine jx_load c1 hm rfl rfl rfl rfl ?_
    refine jx_load c1 hm rfl rfl rfl rfl ?_
    refine jx_load c1 hm rfl rfl rfl rfl ?_
    refine jy_ic c1 hm rfl (by decide) ?_
    refine jy_add c1 hm (b1 + 1) rfl (by omega) ?_
    obtain ⟨z304, kz304, lz304, uz304⟩ := hf ((b1 + 1)).toNat
    refine jx_sald c1 hm rfl ⟨by omega, by omega⟩ kz304 ?_
    refine jv_i c3 hm rfl (plp pj_X12_list rfl) rfl rfl ⟨_, _, _, rfl, sh_173⟩ rfl (((ct_X12_list_173 (X + 8000 * b1) (by omega) M303 hH303 z304 ⟨by omega, by omega⟩).lki (by decide +kernel) rfl).le (by decide)) (fun z305 M306 ⟨⟨hH306, hR306, lz305, uz305⟩, hL306⟩ => ?_)
    refine jx_pop c1 hm rfl rfl ?_
    refine jx_goto c1 hm 1445 rfl rfl ?_
    refine jx_iinc c1 hm (v := (b1 + 6)) (L' := [some (.inr (.inr (.inr 0))), some (.inr (.inr (.inl 0))), some (.inr (.inr (.inl 173))), some (.inr (.inr (.inl 198))), some (.inl (b1 + 6)), o2, o3]) rfl rfl (by omega) (by omega) rfl ?_
    refine jx_goto c1 hm 23 rfl rfl ?_
    exact ihW13 (b1 + 6) (by omega) o2 ho2 o3 ho3 M306 (hH306.mono (by omega) (by omega)) k (by omega) (SOK.cg hs1 (fun j h1 h2 => ((hR306 175 j rfl).trans (hR303 175 j rfl)))) (KOK.cg hs2 (fun j h1 h2 => ((hR306 177 j rfl).trans (hR303 177 j rfl)))) (KOK.cg hs3 (fun j h1 h2 => ((hR306 177 j rfl).trans (hR303 177 j rfl)))) (TPQ.cg hs4 ((hR306 0 2 rfl).trans (hR303 0 2 rfl)) ((hR306 173 2 rfl).trans (hR303 173 2 rfl))) (TBQ.cg hs5 (fun j => ((hR306 2 j rfl).trans (hR303 2 j rfl))) (fun j => ((hR306 174 j rfl).trans (hR303 174 j rfl)))) (IMG.cg hs6 (fun j => ((hR306 46 j rfl).trans (hR303 46 j rfl))) (fun j => ((hR306 183 j rfl).trans (hR303 183 j rfl)))) (HNQ.cg hs7 ⟨fun j _ => ((hR306 6 j rfl).trans (hR303 6 j rfl)), fun k _ => ((hL306 7 k (by decide +kernel)).trans (hL303 7 k (by decide +kernel)))⟩ ⟨fun j hj => ((hR306 175 (0 + j) rfl).trans (hR303 175 (0 + j) rfl)), fun k _ => ((hL306 180 (0 + k) (by decide +kernel)).trans (hL303 180 (0 + k) (by decide +kernel)))⟩) (IHQ.cg hs8 (fun j => ((hR306 46 j rfl).trans (hR303 46 j rfl))) ⟨fun j _ => ((hR306 138 j rfl).trans (hR303 138 j rfl)), fun k _ => ((hL306 139 k (by decide +kernel)).trans (hL303 139 k (by decide +kernel)))⟩ ⟨fun j _ => ((hR306 156 j rfl).trans (hR303 156 j rfl)), fun k _ => ((hL306 157 k (by decide +kernel)).trans (hL303 157 k (by decide +kernel)))⟩ ⟨fun j hj => ((hR306 177 (0 + j) rfl).trans (hR303 177 (0 + j) rfl)), fun k _ => ((hL306 182 (0 + k) (by decide +kernel)).trans (hL303 182 (0 + k) (by decide +kernel)))⟩ ⟨fun j hj => ((hR306 177 (476 + j) rfl).trans (hR303 177 (476 + j) rfl)), fun k _ => ((hL306 182 (18 + k) (by decide +kernel)).trans (hL303 182 (18 + k) (by decide +kernel)))⟩) (by omega)
   by_cases h307 : z17 = 32
   ·
    refine jx_tswI c1 hm 1171 rfl ⟨by omega, by omega⟩ (by rw [h307] <;> rfl) rfl ?_
    refine jx_load c1 hm rfl rfl rfl rfl ?_
    refine jx_load c1 hm rfl rfl rfl rfl ?_
    refine jx_load c1 hm rfl rfl rfl rfl ?_
    refine jy_ic c1 hm rfl (by decide) ?_
    refine jy_add c1 hm (b1 + 1) rfl (by omega) ?_
    obtain ⟨z308, kz308, lz308, uz308⟩ := hf ((b1 + 1)).toNat
    refine jx_sald c1 hm rfl ⟨by omega, by omega⟩ kz308 ?_
    refine jv_i c3 hm rfl (plp pj_X11_byteAt rfl) rfl rfl ⟨_, _, _, rfl, sh_0⟩ rfl ((ct_X11_byteAt_0 (X + 8000 * b1) (by omega) M4 hH4 z308 ⟨by omega, by omega⟩).le (by decide)) (fun z309 _ ⟨rfl, lz309, uz309⟩ => ?_)
    refine jx_pop c1 hm rfl rfl ?_
    refine jx_load c1 hm rfl rfl rfl rfl ?_
    refine jx_load c1 hm rfl rfl rfl rfl ?_
    refine jx_load c1 hm rfl rfl rfl rfl ?_
    refine jy_ic c1 hm rfl (by decide) ?_
    refine jy_add c1 hm (b1 + 1) rfl (by omega) ?_
    obtain ⟨z310, kz310, lz310, uz310⟩ := hf ((b1 + 1)).toNat
    refine jx_sald c1 hm rfl ⟨by omega, by omega⟩ kz310 ?_
    refine jv_i c3 hm rfl (plp pj_X12_byteAt rfl) rfl rfl ⟨_, _, _, rfl, sh_173⟩ rfl (((ct_X12_byteAt_173 (X + 8000 * b1) (by omega) M4 hH4 z310 ⟨by omega, by omega⟩).lki (by decide +kernel) rfl).le (by decide)) (fun z311 M312 ⟨⟨hH312, hR312, lz311, uz311⟩, hL312⟩ => ?_)
    refine jx_pop c1 hm rfl rfl ?_
    refine jx_goto c1 hm 1445 rfl rfl ?_
    refine jx_iinc c1 hm (v := (b1 + 6)) (L' := [some (.inr (.inr (.inr 0))), some (.inr (.inr (.inl 0))), some (.inr (.inr (.inl 173))), some (.inr (.inr (.inl 198))), some (.inl (b1 + 6)), o2, o3]) rfl rfl (by omega) (by omega) rfl ?_
    refine jx_goto c1 hm 23 rfl rfl ?_
    exact ihW13 (b1 + 6) (by omega) o2 ho2 o3 ho3 M312 (hH312.mono (by omega) (by omega)) k (by omega) (SOK.cg hs1 (fun j h1 h2 => (hR312 175 j rfl))) (KOK.cg hs2 (fun j h1 h2 => (hR312 177 j rfl))) (KOK.cg hs3 (fun j h1 h2 => (hR312 177 j rfl))) (TPQ.cg hs4 (hR312 0 2 rfl) (hR312 173 2 rfl)) (TBQ.cg hs5 (fun j => (hR312 2 j rfl)) (fun j => (hR312 174 j rfl))) (IMG.cg hs6 (fun j => (hR312 46 j rfl)) (fun j => (hR312 183 j rfl))) (HNQ.cg hs7 ⟨fun j _ => (hR312 6 j rfl), fun k _ => (hL312 7 k (by decide +kernel))⟩ ⟨fun j hj => (hR312 175 (0 + j) rfl), fun k _ => (hL312 180 (0 + k) (by decide +kernel))⟩) (IHQ.cg hs8 (fun j => (hR312 46 j rfl)) ⟨fun j _ => (hR312 138 j rfl), fun k _ => (hL312 139 k (by decide +kernel))⟩ ⟨fun j _ => (hR312 156 j rfl), fun k _ => (hL312 157 k (by decide +kernel))⟩ ⟨fun j hj => (hR312 177 (0 + j) rfl), fun k _ => (hL312 182 (0 + k) (by decide +kernel))⟩ ⟨fun j hj => (hR312 177 (476 + j) rfl), fun k _ => (hL312 182 (18 + k) (by decide +kernel))⟩) (by omega)
   by_cases h313 : z17 = 33
   ·
    refine jx_tswI c1 hm 1196 rfl ⟨by omega, by omega⟩ (by rw [h313] <;> rfl) rfl ?_
    refine jx_load c1 hm rfl rfl rfl rfl ?_
    refine jx_load c1 hm rfl rfl rfl rfl ?_
    refine jx_load c1 hm rfl rfl rfl rfl ?_
    refine jy_ic c1 hm rfl (by decide) ?_
    refine jy_add c1 hm (b1 + 1) rfl (by omega) ?_
    obtain ⟨z314, kz314, lz314, uz314⟩ := hf ((b1 + 1)).toNat
    refine jx_sald c1 hm rfl ⟨by omega, by omega⟩ kz314 ?_
    refine jx_load c1 hm rfl rfl rfl rfl ?_
    refine jx_load c1 hm rfl rfl rfl rfl ?_
    refine jy_ic c1 hm rfl (by decide) ?_
    refine jy_add c1 hm (b1 + 2) rfl (by omega) ?_
    obtain ⟨z315, kz315, lz315, uz315⟩ := hf ((b1 + 2)).toNat
    refine jx_sald c1 hm rfl ⟨by omega, by omega⟩ kz315 ?_
    refine jv_i c3 hm rfl (plp pj_X11_drawn rfl) rfl rfl ⟨_, _, _, rfl, sh_0⟩ rfl (((ct_X11_drawn_0 (X + 8000 * b1) (by omega) M4 hH4 z314 ⟨by omega, by omega⟩ z315 ⟨by omega, by omega⟩).lki (by decide +kernel) rfl).le (by decide)) (fun z316 M317 ⟨⟨hH317, hR317, lz316, uz316⟩, hL317⟩ => ?_)
    refine jx_pop c1 hm rfl rfl ?_
    refine jx_load c1 hm rfl rfl rfl rfl ?_
    refine jx_load c1 hm rfl rfl rfl rfl ?_
    refine jx_load c1 hm rfl rfl rfl rfl ?_
    refine jy_ic c1 hm rfl (by decide) ?_
    refine jy_add c1 hm (b1 + 1) rfl (by omega) ?_
    obtain ⟨z318, kz318, lz318, uz318⟩ := hf ((b1 + 1)).toNat
    refine jx_sald c1 hm rfl ⟨by omega, by omega⟩ kz318 ?_
    refine jx_load c1 hm rfl rfl rfl rfl ?_
    refine jx_load c1 hm rfl rfl rfl rfl ?_
    refine jy_ic c1 hm rfl (by decide) ?_
    refine jy_add c1 hm (b1 + 2) rfl (by omega) ?_
    obtain ⟨z319, kz319, lz319, uz319⟩ := hf ((b1 + 2)).toNat
    refine jx_sald c1 hm rfl ⟨by omega, by omega⟩ kz319 ?_
    refine jv_i c3 hm rfl (plp pj_X12_drawn rfl) rfl rfl ⟨_, _, _, rfl, sh_173⟩ rfl (((ct_X12_drawn_173 (X + 8000 * b1 + 360) (by omega) M317 hH317 z318 ⟨by omega, by omega⟩ z319 ⟨by omega, by omega⟩).lki (by decide +kernel) rfl).le (by decide)) (fun z320 M321 ⟨⟨hH321, hR321, lz320, uz320⟩, hL321⟩ => ?_)
    rw [show X + 8000 * b1 + 360 + 1080 = X + 8000 * b1 + 1440 by omega] at hH321
    refine jx_pop c1 hm rfl rfl ?_
    refine jx_goto c1 hm 1445 rfl rfl ?_
    refine jx_iinc c1 hm (v := (b1 + 6)) (L' := [some (.inr (.inr (.inr 0))), some (.inr (.inr (.inl 0))), some (.inr (.inr (.inl 173))), some (.inr (.inr (.inl 198))), some (.inl (b1 + 6)), o2, o3]) rfl rfl (by omega) (by omega) rfl ?_
    refine jx_goto c1 hm 23 rfl rfl ?_
    exact ihW13 (b1 + 6) (by omega) o2 ho2 o3 ho3 M321 (hH321.mono (by omega) (by omega)) k (by omega) (SOK.cg hs1 (fun j h1 h2 => ((hR321 175 j (jin_hi (b := 234) (by decide +kernel) h1)).trans (hR317 175 j rfl)))) (KOK.cg hs2 (fun j h1 h2 => ((hR321 177 j rfl).trans (hR317 177 j rfl)))) (KOK.cg hs3 (fun j h1 h2 => ((hR321 177 j rfl).trans (hR317 177 j rfl)))) (TPQ.cg hs4 ((hR321 0 2 rfl).trans (hR317 0 2 rfl)) ((hR321 173 2 rfl).trans (hR317 173 2 rfl))) (TBQ.cg hs5 (fun j => ((hR321 2 j rfl).trans (hR317 2 j rfl))) (fun j => ((hR321 174 j rfl).trans (hR317 174 j rfl)))) (IMG.cg hs6 (fun j => ((hR321 46 j rfl).trans (hR317 46 j rfl))) (fun j => ((hR321 183 j rfl).trans (hR317 183 j rfl)))) (HNQ.cg hs7 ⟨fun j _ => ((hR321 6 j rfl).trans (hR317 6 j rfl)), fun k _ => ((hL321 7 k (by decide +kernel)).trans (hL317 7 k (by decide +kernel)))⟩ ⟨fun j hj => ((hR321 175 (0 + j) (jin_lo (b := 5) (by decide +kernel) (by omega))).trans (hR317 175 (0 + j) rfl)), fun k _ => ((hL321 180 (0 + k) (by decide +kernel)).trans (hL317 180 (0 + k) (by decide +kernel)))⟩) (IHQ.cg hs8 (fun j => ((hR321 46 j rfl).trans (hR317 46 j rfl))) ⟨fun j _ => ((hR321 138 j rfl).trans (hR317 138 j rfl)), fun k _ => ((hL321 139 k (by decide +kernel)).trans (hL317 139 k (by decide +kernel)))⟩ ⟨fun j _ => ((hR321 156 j rfl).trans (hR317 156 j rfl)), fun k _ => ((hL321 157 k (by decide +kernel)).trans (hL317 157 k (by decide +kernel)))⟩ ⟨fun j hj => ((hR321 177 (0 + j) rfl).trans (hR317 177 (0 + j) rfl)), fun k _ => ((hL321 182 (0 + k) (by decide +kernel)).trans (hL317 182 (0 + k) (by decide +kernel)))⟩ ⟨fun j hj => ((hR321 177 (476 + j) rfl).trans (hR317 177 (476 + j) rfl)), fun k _ => ((hL321 182 (18 + k) (by decide +kernel)).trans (hL317 182 (18 + k) (by decide +kernel)))⟩) (by omega)
   by_cases h322 : z17 = 34
   ·
    refine jx_tswI c1 hm 1233 rfl ⟨by omega, by omega⟩ (by rw [h322] <;> rfl) rfl ?_
    refine jx_load c1 hm rfl rfl rfl rfl ?_
    refine jx_load c1 hm rfl rfl rfl rfl ?_
    refine jx_load c1 hm rfl rfl rfl rfl ?_
    refine jy_ic c1 hm rfl (by decide) ?_
    refine jy_add c1 hm (b1 + 1) rfl (by omega) ?_
    obtain ⟨z323, kz323, lz323, uz323⟩ := hf ((b1 + 1)).toNat
    refine jx_sald c1 hm rfl ⟨by omega, by omega⟩ kz323 ?_
    refine jx_load c1 hm rfl rfl rfl rfl ?_
    refine jx_load c1 hm rfl rfl rfl rfl ?_
    refine jy_ic c1 hm rfl (by decide) ?_
    refine jy_add c1 hm (b1 + 2) rfl (by omega) ?_
    obtain ⟨z324, kz324, lz324, uz324⟩ := hf ((b1 + 2)).toNat
    refine jx_sald c1 hm rfl ⟨by omega, by omega⟩ kz324 ?_
    refine jx_load c1 hm rfl rfl rfl rfl ?_
    refine jx_load c1 hm rfl rfl rfl rfl ?_
    refine jy_ic c1 hm rfl (by decide) ?_
    refine jy_add c1 hm (b1 + 3) rfl (by omega) ?_
    obtain ⟨z325, kz325, lz325, uz325⟩ := hf ((b1 + 3)).toNat
    refine jx_sald c1 hm rfl ⟨by omega, by omega⟩ kz325 ?_
    refine jv_i c3 hm rfl (plp pj_X11_odds rfl) rfl rfl ⟨_, _, _, rfl, sh_0⟩ rfl (((ct_X11_odds_0 (X + 8000 * b1) (by omega) M4 hH4 z323 ⟨by omega, by omega⟩ z324 ⟨by omega, by omega⟩ z325 ⟨by omega, by omega⟩).lki (by decide +kernel) rfl).le (by decide)) (fun z326 M327 ⟨⟨hH327, hR327, lz326, uz326⟩, hL327⟩ => ?_)
    refine jx_pop c1 hm rfl rfl ?_
    refine jx_load c1 hm rfl rfl rfl rfl ?_
    refine jx_load c1 hm rfl rfl rfl rfl ?_
    refine jx_load c1 hm rfl rfl rfl rfl ?_
    refine jy_ic c1 hm rfl (by decide) ?_
    refine jy_add c1 hm (b1 + 1) rfl (by omega) ?_
    obtain ⟨z328, kz328, lz328, uz328⟩ := hf ((b1 + 1)).toNat
    refine jx_sald c1 hm rfl ⟨by omega, by omega⟩ kz328 ?_
    refine jx_load c1 hm rfl rfl rfl rfl ?_
    refine jx_load c1 hm rfl rfl rfl rfl ?_
    refine jy_ic c1 hm rfl (by decide) ?_
    refine jy_add c1 hm (b1 + 2) rfl (by omega) ?_
    obtain ⟨z329, kz329, lz329, uz329⟩ := hf ((b1 + 2)).toNat
    refine jx_sald c1 hm rfl ⟨by omega, by omega⟩ kz329 ?_
    refine jx_load c1 hm rfl rfl rfl rfl ?_
    refine jx_load c1 hm rfl rfl rfl rfl ?_
    refine jy_ic c1 hm rfl (by decide) ?_
    refine jy_add c1 hm (b1 + 3) rfl (by omega) ?_
    obtain ⟨z330, kz330, lz330, uz330⟩ := hf ((b1 + 3)).toNat
    refine jx_sald c1 hm rfl ⟨by omega, by omega⟩ kz330 ?_
    refine jv_i c3 hm rfl (plp pj_X12_odds rfl) rfl rfl ⟨_, _, _, rfl, sh_173⟩ rfl (((ct_X12_odds_173 (X + 8000 * b1 + 10800) (by omega) M327 hH327 z328 ⟨by omega, by omega⟩ z329 ⟨by omega, by omega⟩ z330 ⟨by omega, by omega⟩).lki (by decide +kernel) rfl).le (by decide)) (fun z331 M332 ⟨⟨hH332, hR332, lz331, uz331⟩, hL332⟩ => ?_)
    rw [show X + 8000 * b1 + 10800 + 32400 = X + 8000 * b1 + 43200 by omega] at hH332
    refine jx_pop c1 hm rfl rfl ?_
    refine jx_goto c1 hm 1445 rfl rfl ?_
    refine jx_iinc c1 hm (v := (b1 + 6)) (L' := [some (.inr (.inr (.inr 0))), some (.inr (.inr (.inl 0))), some (.inr (.inr (.inl 173))), some (.inr (.inr (.inl 198))), some (.inl (b1 + 6)), o2, o3]) rfl rfl (by omega) (by omega) rfl ?_
    refine jx_goto c1 hm 23 rfl rfl ?_
    exact ihW13 (b1 + 6) (by omega) o2 ho2 o3 ho3 M332 (hH332.mono (by omega) (by omega)) k (by omega) (SOK.cg hs1 (fun j h1 h2 => ((hR332 175 j (jin_hi (b := 234) (by decide +kernel) h1)).trans (hR327 175 j rfl)))) (KOK.cg hs2 (fun j h1 h2 => ((hR332 177 j rfl).trans (hR327 177 j rfl)))) (KOK.cg hs3 (fun j h1 h2 => ((hR332 177 j rfl).trans (hR327 177 j rfl)))) (TPQ.cg hs4 ((hR332 0 2 rfl).trans (hR327 0 2 rfl)) ((hR332 173 2 rfl).trans (hR327 173 2 rfl))) (TBQ.cg hs5 (fun j => ((hR332 2 j rfl).trans (hR327 2 j rfl))) (fun j => ((hR332 174 j rfl).trans (hR327 174 j rfl)))) (IMG.cg hs6 (fun j => ((hR332 46 j rfl).trans (hR327 46 j rfl))) (fun j => ((hR332 183 j rfl).trans (hR327 183 j rfl)))) (HNQ.cg hs7 ⟨fun j _ => ((hR332 6 j rfl).trans (hR327 6 j rfl)), fun k _ => ((hL332 7 k (by decide +kernel)).trans (hL327 7 k (by decide +kernel)))⟩ ⟨fun j hj => ((hR332 175 (0 + j) (jin_lo (b := 5) (by decide +kernel) (by omega))).trans (hR327 175 (0 + j) rfl)), fun k _ => ((hL332 180 (0 + k) (by decide +kernel)).trans (hL327 180 (0 + k) (by decide +kernel)))⟩) (IHQ.cg hs8 (fun j => ((hR332 46 j rfl).trans (hR327 46 j rfl))) ⟨fun j _ => ((hR332 138 j rfl).trans (hR327 138 j rfl)), fun k _ => ((hL332 139 k (by decide +kernel)).trans (hL327 139 k (by decide +kernel)))⟩ ⟨fun j _ => ((hR332 156 j rfl).trans (hR327 156 j rfl)), fun k _ => ((hL332 157 k (by decide +kernel)).trans (hL327 157 k (by decide +kernel)))⟩ ⟨fun j hj => ((hR332 177 (0 + j) rfl).trans (hR327 177 (0 + j) rfl)), fun k _ => ((hL332 182 (0 + k) (by decide +kernel)).trans (hL327 182 (0 + k) (by decide +kernel)))⟩ ⟨fun j hj => ((hR332 177 (476 + j) rfl).trans (hR327 177 (476 + j) rfl)), fun k _ => ((hL332 182 (18 + k) (by decide +kernel)).trans (hL327 182 (18 + k) (by decide +kernel)))⟩) (by omega)
   by_cases h333 : z17 = 35
   ·
    refine jx_tswI c1 hm 1282 rfl ⟨by omega, by omega⟩ (by rw [h333] <;> rfl) rfl ?_
    refine jx_load c1 hm rfl rfl rfl rfl ?_
    refine jx_load c1 hm rfl rfl rfl rfl ?_
    refine jx_load c1 hm rfl rfl rfl rfl ?_
    refine jy_ic c1 hm rfl (by decide) ?_
    refine jy_add c1 hm (b1 + 1) rfl (by omega) ?_
    obtain ⟨z334, kz334, lz334, uz334⟩ := hf ((b1 + 1)).toNat
    refine jx_sald c1 hm rfl ⟨by omega, by omega⟩ kz334 ?_
    obtain ⟨z335, k336, lz335, uz335⟩ := hH4.ld (c := 0) (i := 2) (A := 0) (B := 940) (bs_18_1 _ _ (by omega) (by omega))
    refine jv_i c3 hm rfl (plp pj_X11_book rfl) rfl rfl ⟨_, _, _, rfl, sh_0⟩ rfl (((ct_X11_book_0t (X + 8000 * b1) (by omega) M4 hH4 z334 ⟨by omega, by omega⟩).lki (by decide +kernel) rfl).le (by decide)) (fun z337 M340 ⟨⟨hH340, hR340, lz337, uz337, p338, p339⟩, hL340⟩ => ?_)
    obtain ⟨z341, k342, lz341, uz341⟩ := hH340.ld (c := 0) (i := 2) (A := 0) (B := 940) (bs_18_1 _ _ (by omega) (by omega))
    refine jx_pop c1 hm rfl rfl ?_
    refine jx_load c1 hm rfl rfl rfl rfl ?_
    refine jx_load c1 hm rfl rfl rfl rfl ?_
    refine jx_load c1 hm rfl rfl rfl rfl ?_
    refine jy_ic c1 hm rfl (by decide) ?_
    refine jy_add c1 hm (b1 + 1) rfl (by omega) ?_
    obtain ⟨z343, kz343, lz343, uz343⟩ := hf ((b1 + 1)).toNat
    refine jx_sald c1 hm rfl ⟨by omega, by omega⟩ kz343 ?_
    obtain ⟨z344, k345, lz344, uz344⟩ := hH340.ld (c := 173) (i := 2) (A := 0) (B := 940) (bs_28_1 _ _ (by omega) (by omega))
    refine jv_i c3 hm rfl (plp pj_X12_book rfl) rfl rfl ⟨_, _, _, rfl, sh_173⟩ rfl (((ct_X12_book_173t (X + 8000 * b1 + 40) (by omega) M340 hH340 z343 ⟨by omega, by omega⟩).lki (by decide +kernel) rfl).le (by decide)) (fun z346 M349 ⟨⟨hH349, hR349, lz346, uz346, p347, p348⟩, hL349⟩ => ?_)
    rw [show X + 8000 * b1 + 40 + 92 = X + 8000 * b1 + 132 by omega] at hH349
    obtain ⟨z350, k351, lz350, uz350⟩ := hH349.ld (c := 173) (i := 2) (A := 0) (B := 940) (bs_28_1 _ _ (by omega) (by omega))
    refine jx_pop c1 hm rfl rfl ?_
    refine jx_goto c1 hm 1445 rfl rfl ?_
    refine jx_iinc c1 hm (v := (b1 + 6)) (L' := [some (.inr (.inr (.inr 0))), some (.inr (.inr (.inl 0))), some (.inr (.inr (.inl 173))), some (.inr (.inr (.inl 198))), some (.inl (b1 + 6)), o2, o3]) rfl rfl (by omega) (by omega) rfl ?_
    refine jx_goto c1 hm 23 rfl rfl ?_
    exact ihW13 (b1 + 6) (by omega) o2 ho2 o3 ho3 M349 (hH349.mono (by omega) (by omega)) k (by omega) (SOK.cg hs1 (fun j h1 h2 => ((hR349 175 j (jin_hi (b := 234) (by decide +kernel) h1)).trans (hR340 175 j rfl)))) (KOK.cg hs2 (fun j h1 h2 => ((hR349 177 j rfl).trans (hR340 177 j rfl)))) (KOK.cg hs3 (fun j h1 h2 => ((hR349 177 j rfl).trans (hR340 177 j rfl)))) (TPQ.of (by have y9 := hs4.e; have y90_0 := hR349 0 2 rfl; have y91_173 := hR340 173 2 rfl; omega)) (TBQ.cg hs5 (fun j => ((hR349 2 j rfl).trans (hR340 2 j rfl))) (fun j => ((hR349 174 j rfl).trans (hR340 174 j rfl)))) (IMG.cg hs6 (fun j => ((hR349 46 j rfl).trans (hR340 46 j rfl))) (fun j => ((hR349 183 j rfl).trans (hR340 183 j rfl)))) (HNQ.cg hs7 ⟨fun j _ => ((hR349 6 j rfl).trans (hR340 6 j rfl)), fun k _ => ((hL349 7 k (by decide +kernel)).trans (hL340 7 k (by decide +kernel)))⟩ ⟨fun j hj => ((hR349 175 (0 + j) (jin_lo (b := 5) (by decide +kernel) (by omega))).trans (hR340 175 (0 + j) rfl)), fun k _ => ((hL349 180 (0 + k) (by decide +kernel)).trans (hL340 180 (0 + k) (by decide +kernel)))⟩) (IHQ.cg hs8 (fun j => ((hR349 46 j rfl).trans (hR340 46 j rfl))) ⟨fun j _ => ((hR349 138 j rfl).trans (hR340 138 j rfl)), fun k _ => ((hL349 139 k (by decide +kernel)).trans (hL340 139 k (by decide +kernel)))⟩ ⟨fun j _ => ((hR349 156 j rfl).trans (hR340 156 j rfl)), fun k _ => ((hL349 157 k (by decide +kernel)).trans (hL340 157 k (by decide +kernel)))⟩ ⟨fun j hj => ((hR349 177 (0 + j) rfl).trans (hR340 177 (0 + j) rfl)), fun k _ => ((hL349 182 (0 + k) (by decide +kernel)).trans (hL340 182 (0 + k) (by decide +kernel)))⟩ ⟨fun j hj => ((hR349 177 (476 + j) rfl).trans (hR340 177 (476 + j) rfl)), fun k _ => ((hL349 182 (18 + k) (by decide +kernel)).trans (hL340 182 (18 + k) (by decide +kernel)))⟩) (by omega)
   by_cases h352 : z17 = 36
   ·
    refine jx_tswI c1 hm 1307 rfl ⟨by omega, by omega⟩ (by rw [h352] <;> rfl) rfl ?_
    refine jx_load c1 hm rfl rfl rfl rfl ?_
    refine jx_load c1 hm rfl rfl rfl rfl ?_
    refine jx_load c1 hm rfl rfl rfl rfl ?_
    refine jy_ic c1 hm rfl (by decide) ?_
    refine jy_add c1 hm (b1 + 1) rfl (by omega) ?_
    obtain ⟨z353, kz353, lz353, uz353⟩ := hf ((b1 + 1)).toNat
    refine jx_sald c1 hm rfl ⟨by omega, by omega⟩ kz353 ?_
    refine jv_i c3 hm rfl (plp pj_X11_told rfl) rfl rfl ⟨_, _, _, rfl, sh_0⟩ rfl ((ct_X11_told_0 (X + 8000 * b1) (by omega) M4 hH4 z353 ⟨by omega, by omega⟩).le (by decide)) (fun z354 _ ⟨rfl, lz354, uz354⟩ => ?_)
    refine jx_pop c1 hm rfl rfl ?_
    refine jx_load c1 hm rfl rfl rfl rfl ?_
    refine jx_load c1 hm rfl rfl rfl rfl ?_
    refine jx_load c1 hm rfl rfl rfl rfl ?_
    refine jy_ic c1 hm rfl (by decide) ?_
    refine jy_add c1 hm (b1 + 1) rfl (by omega) ?_
    obtain ⟨z355, kz355, lz355, uz355⟩ := hf ((b1 + 1)).toNat
    refine jx_sald c1 hm rfl ⟨by omega, by omega⟩ kz355 ?_
    refine jv_i c3 hm rfl (plp pj_X12_told rfl) rfl rfl ⟨_, _, _, rfl, sh_173⟩ rfl (((ct_X12_told_173 (X + 8000 * b1) (by omega) M4 hH4 z355 ⟨by omega, by omega⟩).lki (by decide +kernel) rfl).le (by decide)) (fun z356 M357 ⟨⟨hH357, hR357, lz356, uz356⟩, hL357⟩ => ?_)
    refine jx_pop c1 hm rfl rfl ?_
    refine jx_goto c1 hm 1445 rfl rfl ?_
    refine jx_iinc c1 hm (v := (b1 + 6)) (L' := [some (.inr (.inr (.inr 0))), some (.inr (.inr (.inl 0))), some (.inr (.inr (.inl 173))), some (.inr (.inr (.inl 198))), some (.inl (b1 + 6)), o2, o3]) rfl rfl (by omega) (by omega) rfl ?_
    refine jx_goto c1 hm 23 rfl rfl ?_
    exact ihW13 (b1 + 6) (by omega) o2 ho2 o3 ho3 M357 (hH357.mono (by omega) (by omega)) k (by omega) (SOK.cg hs1 (fun j h1 h2 => (hR357 175 j rfl))) (KOK.cg hs2 (fun j h1 h2 => (hR357 177 j rfl))) (KOK.cg hs3 (fun j h1 h2 => (hR357 177 j rfl))) (TPQ.cg hs4 (hR357 0 2 rfl) (hR357 173 2 rfl)) (TBQ.cg hs5 (fun j => (hR357 2 j rfl)) (fun j => (hR357 174 j rfl))) (IMG.cg hs6 (fun j => (hR357 46 j rfl)) (fun j => (hR357 183 j rfl))) (HNQ.cg hs7 ⟨fun j _ => (hR357 6 j rfl), fun k _ => (hL357 7 k (by decide +kernel))⟩ ⟨fun j hj => (hR357 175 (0 + j) rfl), fun k _ => (hL357 180 (0 + k) (by decide +kernel))⟩) (IHQ.cg hs8 (fun j => (hR357 46 j rfl)) ⟨fun j _ => (hR357 138 j rfl), fun k _ => (hL357 139 k (by decide +kernel))⟩ ⟨fun j _ => (hR357 156 j rfl), fun k _ => (hL357 157 k (by decide +kernel))⟩ ⟨fun j hj => (hR357 177 (0 + j) rfl), fun k _ => (hL357 182 (0 + k) (by decide +kernel))⟩ ⟨fun j hj => (hR357 177 (476 + j) rfl), fun k _ => (hL357 182 (18 + k) (by decide +kernel))⟩) (by omega)
   by_cases h358 : z17 = 37
   ·
    refine jx_tswI c1 hm 1332 rfl ⟨by omega, by omega⟩ (by rw [h358] <;> rfl) rfl ?_
    refine jx_load c1 hm rfl rfl rfl rfl ?_
    obtain ⟨z359, k360, lz359, uz359⟩ := hH4.ld (c := 0) (i := 2) (A := 0) (B := 940) (bs_18_1 _ _ (by omega) (by omega))
    refine jv_i c3 hm rfl (plp pj_X11_sentence rfl) rfl rfl ⟨_, _, _, rfl, sh_0⟩ rfl (((ct_X11_sentence_0q (X + 8000 * b1) (by omega) M4 hH4 ).lki (by decide +kernel) rfl).le (by decide)) (fun z361 M364 ⟨⟨hH364, hR364, lz361, uz361, p362, p363⟩, hL364⟩ => ?_)
    obtain ⟨z365, k366, lz365, uz365⟩ := hH364.ld (c := 0) (i := 3) (A := (-2147483648)) (B := 2147483647) (bs_18_2 _ _ (by omega) (by omega))
    obtain ⟨z367, k368, lz367, uz367⟩ := hH364.ld (c := 0) (i := 2) (A := 0) (B := 940) (bs_18_1 _ _ (by omega) (by omega))
    refine jx_load c1 hm rfl rfl rfl rfl ?_
    obtain ⟨z369, k370, lz369, uz369⟩ := hH364.ld (c := 173) (i := 2) (A := 0) (B := 940) (bs_28_1 _ _ (by omega) (by omega))
    refine jv_i c3 hm rfl (plp pj_X12_sentence rfl) rfl rfl ⟨_, _, _, rfl, sh_173⟩ rfl (((ct_X12_sentence_173q (X + 8000 * b1) (by omega) M364 hH364 (SOK.cg hs1 (fun j h1 h2 => (hR364 175 j rfl)))).lki (by decide +kernel) rfl).le (by decide)) (fun z371 M376 ⟨⟨hH376, hR376, lz371, uz371, p372, p373, p374, p375⟩, hL376⟩ => ?_)
    obtain ⟨z377, k378, lz377, uz377⟩ := hH376.ld (c := 173) (i := 10) (A := (-2147483648)) (B := 2147483647) (bs_28_5 _ _ (by omega) (by omega))
    obtain ⟨z379, k380, lz379, uz379⟩ := hH376.ld (c := 173) (i := 2) (A := 0) (B := 940) (bs_28_1 _ _ (by omega) (by omega))
    have hq9 : z361 = z371 := (sen_eq hs7 hs5 hs4 p362 (fun j => hR364 174 j rfl) (hR364 173 2 rfl) ⟨fun j hj => (hR364 175 (0 + j) rfl), fun k _ => (hL364 180 (0 + k) (by decide +kernel))⟩ p373).1
    refine jc_eq c1 hm 1445 rfl rfl (fun h381 => ?_) (fun h381 => ?_)
    ·
     refine jx_iinc c1 hm (v := (b1 + 6)) (L' := [some (.inr (.inr (.inr 0))), some (.inr (.inr (.inl 0))), some (.inr (.inr (.inl 173))), some (.inr (.inr (.inl 198))), some (.inl (b1 + 6)), o2, o3]) rfl rfl (by omega) (by omega) rfl ?_
     refine jx_goto c1 hm 23 rfl rfl ?_
     exact ihW13 (b1 + 6) (by omega) o2 ho2 o3 ho3 M376 (hH376.mono (by omega) (by omega)) k (by omega) p372 (KOK.cg hs2 (fun j h1 h2 => ((hR376 177 j rfl).trans (hR364 177 j rfl)))) (KOK.cg hs3 (fun j h1 h2 => ((hR376 177 j rfl).trans (hR364 177 j rfl)))) (TPQ.of (by have y9 := hs4.e; have y90_0 := hR376 0 2 rfl; have y91_173 := hR364 173 2 rfl; omega)) (TBQ.cg hs5 (fun j => ((hR376 2 j rfl).trans (hR364 2 j rfl))) (fun j => ((hR376 174 j rfl).trans (hR364 174 j rfl)))) (IMG.cg hs6 (fun j => ((hR376 46 j rfl).trans (hR364 46 j rfl))) (fun j => ((hR376 183 j rfl).trans (hR364 183 j rfl)))) (HNQ.cg hs7 ⟨fun j _ => ((hR376 6 j rfl).trans (hR364 6 j rfl)), fun k _ => ((hL376 7 k (by decide +kernel)).trans (hL364 7 k (by decide +kernel)))⟩ ⟨fun j hj => ((hR376 175 (0 + j) (jin_lo (b := 5) (by decide +kernel) (by omega))).trans (hR364 175 (0 + j) rfl)), fun k _ => ((hL376 180 (0 + k) (by decide +kernel)).trans (hL364 180 (0 + k) (by decide +kernel)))⟩) (IHQ.cg hs8 (fun j => ((hR376 46 j rfl).trans (hR364 46 j rfl))) ⟨fun j _ => ((hR376 138 j rfl).trans (hR364 138 j rfl)), fun k _ => ((hL376 139 k (by decide +kernel)).trans (hL364 139 k (by decide +kernel)))⟩ ⟨fun j _ => ((hR376 156 j rfl).trans (hR364 156 j rfl)), fun k _ => ((hL376 157 k (by decide +kernel)).trans (hL364 157 k (by decide +kernel)))⟩ ⟨fun j hj => ((hR376 177 (0 + j) rfl).trans (hR364 177 (0 + j) rfl)), fun k _ => ((hL376 182 (0 + k) (by decide +kernel)).trans (hL364 182 (0 + k) (by decide +kernel)))⟩ ⟨fun j hj => ((hR376 177 (476 + j) rfl).trans (hR364 177 (476 + j) rfl)), fun k _ => ((hL376 182 (18 + k) (by decide +kernel)).trans (hL364 182 (18 + k) (by decide +kernel)))⟩) (by omega)
    refine jy_ic c1 hm rfl (by decide) ?_
    exfalso; omega
   by_cases h382 : z17 = 38
   ·
    refine jx_tswI c1 hm 1345 rfl ⟨by omega, by omega⟩ (by rw [h382] <;> rfl) rfl ?_
    refine jx_load c1 hm rfl rfl rfl rfl ?_
    refine jx_load c1 hm rfl rfl rfl rfl ?_
    refine jx_load c1 hm rfl rfl rfl rfl ?_
    refine jy_ic c1 hm rfl (by decide) ?_
    refine jy_add c1 hm (b1 + 1) rfl (by omega) ?_
    obtain ⟨z383, kz383, lz383, uz383⟩ := hf ((b1 + 1)).toNat
    refine jx_sald c1 hm rfl ⟨by omega, by omega⟩ kz383 ?_
    refine jv_i c3 hm rfl (plp pj_X11_said rfl) rfl rfl ⟨_, _, _, rfl, sh_0⟩ rfl (((ct_X11_said_0 (X + 8000 * b1) (by omega) M4 hH4 z383 ⟨by omega, by omega⟩).lki (by decide +kernel) rfl).le (by decide)) (fun z384 M385 ⟨⟨hH385, hR385, lz384, uz384⟩, hL385⟩ => ?_)
    refine jx_pop c1 hm rfl rfl ?_
    refine jx_load c1 hm rfl rfl rfl rfl ?_
    refine jx_load c1 hm rfl rfl rfl rfl ?_
    refine jx_load c1 hm rfl rfl rfl rfl ?_
    refine jy_ic c1 hm rfl (by decide) ?_
    refine jy_add c1 hm (b1 + 1) rfl (by omega) ?_
    obtain ⟨z386, kz386, lz386, uz386⟩ := hf ((b1 + 1)).toNat
    refine jx_sald c1 hm rfl ⟨by omega, by omega⟩ kz386 ?_
    refine jv_i c3 hm rfl (plp pj_X12_said rfl) rfl rfl ⟨_, _, _, rfl, sh_173⟩ rfl (((ct_X12_said_173 (X + 8000 * b1) (by omega) M385 hH385 z386 ⟨by omega, by omega⟩ (SOK.cg hs1 (fun j h1 h2 => (hR385 175 j rfl)))).lki (by decide +kernel) rfl).le (by decide)) (fun z387 M388 ⟨⟨hH388, hR388, lz387, uz387⟩, hL388⟩ => ?_)
    refine jx_pop c1 hm rfl rfl ?_
    refine jx_goto c1 hm 1445 rfl rfl ?_
    refine jx_iinc c1 hm (v := (b1 + 6)) (L' := [some (.inr (.inr (.inr 0))), some (.inr (.inr (.inl 0))), some (.inr (.inr (.inl 173))), some (.inr (.inr (.inl 198))), some (.inl (b1 + 6)), o2, o3]) rfl rfl (by omega) (by omega) rfl ?_
    refine jx_goto c1 hm 23 rfl rfl ?_
    exact ihW13 (b1 + 6) (by omega) o2 ho2 o3 ho3 M388 (hH388.mono (by omega) (by omega)) k (by omega) (SOK.cg hs1 (fun j h1 h2 => ((hR388 175 j rfl).trans (hR385 175 j rfl)))) (KOK.cg hs2 (fun j h1 h2 => ((hR388 177 j rfl).trans (hR385 177 j rfl)))) (KOK.cg hs3 (fun j h1 h2 => ((hR388 177 j rfl).trans (hR385 177 j rfl)))) (TPQ.cg hs4 ((hR388 0 2 rfl).trans (hR385 0 2 rfl)) ((hR388 173 2 rfl).trans (hR385 173 2 rfl))) (TBQ.cg hs5 (fun j => ((hR388 2 j rfl).trans (hR385 2 j rfl))) (fun j => ((hR388 174 j rfl).trans (hR385 174 j rfl)))) (IMG.cg hs6 (fun j => ((hR388 46 j rfl).trans (hR385 46 j rfl))) (fun j => ((hR388 183 j rfl).trans (hR385 183 j rfl)))) (HNQ.cg hs7 ⟨fun j _ => ((hR388 6 j rfl).trans (hR385 6 j rfl)), fun k _ => ((hL388 7 k (by decide +kernel)).trans (hL385 7 k (by decide +kernel)))⟩ ⟨fun j hj => ((hR388 175 (0 + j) rfl).trans (hR385 175 (0 + j) rfl)), fun k _ => ((hL388 180 (0 + k) (by decide +kernel)).trans (hL385 180 (0 + k) (by decide +kernel)))⟩) (IHQ.cg hs8 (fun j => ((hR388 46 j rfl).trans (hR385 46 j rfl))) ⟨fun j _ => ((hR388 138 j rfl).trans (hR385 138 j rfl)), fun k _ => ((hL388 139 k (by decide +kernel)).trans (hL385 139 k (by decide +kernel)))⟩ ⟨fun j _ => ((hR388 156 j rfl).trans (hR385 156 j rfl)), fun k _ => ((hL388 157 k (by decide +kernel)).trans (hL385 157 k (by decide +kernel)))⟩ ⟨fun j hj => ((hR388 177 (0 + j) rfl).trans (hR385 177 (0 + j) rfl)), fun k _ => ((hL388 182 (0 + k) (by decide +kernel)).trans (hL385 182 (0 + k) (by decide +kernel)))⟩ ⟨fun j hj => ((hR388 177 (476 + j) rfl).trans (hR385 177 (476 + j) rfl)), fun k _ => ((hL388 182 (18 + k) (by decide +kernel)).trans (hL385 182 (18 + k) (by decide +kernel)))⟩) (by omega)
   by_cases h389 : z17 = 39
   ·
    refine jx_tswI c1 hm 1370 rfl ⟨by omega, by omega⟩ (by rw [h389] <;> rfl) rfl ?_
    refine jx_load c1 hm rfl rfl rfl rfl ?_
    refine jx_load c1 hm rfl rfl rfl rfl ?_
    refine jx_load c1 hm rfl rfl rfl rfl ?_
    refine jy_ic c1 hm rfl (by decide) ?_
    refine jy_add c1 hm (b1 + 1) rfl (by omega) ?_
    obtain ⟨z390, kz390, lz390, uz390⟩ := hf ((b1 + 1)).toNat
    refine jx_sald c1 hm rfl ⟨by omega, by omega⟩ kz390 ?_
    refine jv_i c3 hm rfl (plp pj_X11_image rfl) rfl rfl ⟨_, _, _, rfl, sh_0⟩ rfl ((ct_X11_image_0n (X + 8000 * b1) (by omega) M4 hH4 z390 ⟨by omega, by omega⟩).le (by decide)) (fun z391 M397 ⟨hH397, hR397, lz391, uz391, p392, p393, p394, p395, p396⟩ => ?_)
    refine jx_pop c1 hm rfl rfl ?_
    refine jx_load c1 hm rfl rfl rfl rfl ?_
    refine jx_load c1 hm rfl rfl rfl rfl ?_
    refine jx_load c1 hm rfl rfl rfl rfl ?_
    refine jy_ic c1 hm rfl (by decide) ?_
    refine jy_add c1 hm (b1 + 1) rfl (by omega) ?_
    obtain ⟨z398, kz398, lz398, uz398⟩ := hf ((b1 + 1)).toNat
    refine jx_sald c1 hm rfl ⟨by omega, by omega⟩ kz398 ?_
    refine jv_i c3 hm rfl (plp pj_X12_image rfl) rfl rfl ⟨_, _, _, rfl, sh_173⟩ rfl ((ct_X12_image_173n (X + 8000 * b1) (by omega) M397 hH397 z398 ⟨by omega, by omega⟩ (SOK.cg hs1 (fun j h1 h2 => (hR397 175 j rfl))) (KOK.cg hs2 (fun j h1 h2 => (hR397 177 j rfl))) (KOK.cg hs3 (fun j h1 h2 => (hR397 177 j rfl)))).le (by decide)) (fun z399 M407 ⟨hH407, hR407, lz399, uz399, p400, p401, p402, p403, p404, p405, p406⟩ => ?_)
    refine jx_pop c1 hm rfl rfl ?_
    refine jx_goto c1 hm 1445 rfl rfl ?_
    refine jx_iinc c1 hm (v := (b1 + 6)) (L' := [some (.inr (.inr (.inr 0))), some (.inr (.inr (.inl 0))), some (.inr (.inr (.inl 173))), some (.inr (.inr (.inl 198))), some (.inl (b1 + 6)), o2, o3]) rfl rfl (by omega) (by omega) rfl ?_
    refine jx_goto c1 hm 23 rfl rfl ?_
    exact ihW13 (b1 + 6) (by omega) o2 ho2 o3 ho3 M407 (hH407.mono (by omega) (by omega)) k (by omega) (SOK.cg hs1 (fun j h1 h2 => ((hR407 175 j rfl).trans (hR397 175 j rfl)))) p400 p401 (TPQ.cg hs4 ((hR407 0 2 rfl).trans (hR397 0 2 rfl)) ((hR407 173 2 rfl).trans (hR397 173 2 rfl))) (TBQ.cg hs5 (fun j => ((hR407 2 j rfl).trans (hR397 2 j rfl))) (fun j => ((hR407 174 j rfl).trans (hR397 174 j rfl)))) (IMG.im hs6 (kz390.symm.trans kz398) p392 (fun j => hR397 183 j rfl) p402 (fun j => hR407 46 j rfl)) (HNQ.cg hs7 ⟨fun j _ => ((hR407 6 j rfl).trans (hR397 6 j rfl)), fun k _ => ((p406 7 k (by decide +kernel) rfl).trans (p396 7 k (by decide +kernel) rfl))⟩ ⟨fun j hj => ((hR407 175 (0 + j) rfl).trans (hR397 175 (0 + j) rfl)), fun k _ => ((p406 180 (0 + k) (by decide +kernel) rfl).trans (p396 180 (0 + k) (by decide +kernel) rfl))⟩) (IHQ.im hs8 hs7 (kz390.symm.trans kz398) p392 p393 p394 p395 ⟨fun j hj => (hR397 175 (0 + j) rfl), fun k _ => (p396 180 (0 + k) (by decide +kernel) rfl)⟩ ⟨fun j hj => (hR397 177 (0 + j) rfl), fun k _ => (p396 182 (0 + k) (by decide +kernel) rfl)⟩ ⟨fun j hj => (hR397 177 (476 + j) rfl), fun k _ => (p396 182 (18 + k) (by decide +kernel) rfl)⟩ p403 p404 p405 (fun j => hR407 46 j rfl) ⟨fun j _ => (hR407 138 j rfl), fun k _ => (p406 139 k (by decide +kernel) rfl)⟩ ⟨fun j _ => (hR407 156 j rfl), fun k _ => (p406 157 k (by decide +kernel) rfl)⟩) (by omega)
   by_cases h408 : z17 = 40
   ·
    refine jx_tswI c1 hm 1395 rfl ⟨by omega, by omega⟩ (by rw [h408] <;> rfl) rfl ?_
    refine jx_load c1 hm rfl rfl rfl rfl ?_
    refine jx_load c1 hm rfl rfl rfl rfl ?_
    refine jx_load c1 hm rfl rfl rfl rfl ?_
    refine jy_ic c1 hm rfl (by decide) ?_
    refine jy_add c1 hm (b1 + 1) rfl (by omega) ?_
    obtain ⟨z409, kz409, lz409, uz409⟩ := hf ((b1 + 1)).toNat
    refine jx_sald c1 hm rfl ⟨by omega, by omega⟩ kz409 ?_
    refine jv_i c3 hm rfl (plp pj_X11_restore rfl) rfl rfl ⟨_, _, _, rfl, sh_0⟩ rfl ((ct_X11_restore_0n (X + 8000 * b1) (by omega) M4 hH4 z409 ⟨by omega, by omega⟩).le (by decide)) (fun z410 M414 ⟨hH414, hR414, lz410, uz410, p411, p412, p413⟩ => ?_)
    refine jx_pop c1 hm rfl rfl ?_
    refine jx_load c1 hm rfl rfl rfl rfl ?_
    refine jx_load c1 hm rfl rfl rfl rfl ?_
    refine jx_load c1 hm rfl rfl rfl rfl ?_
    refine jy_ic c1 hm rfl (by decide) ?_
    refine jy_add c1 hm (b1 + 1) rfl (by omega) ?_
    obtain ⟨z415, kz415, lz415, uz415⟩ := hf ((b1 + 1)).toNat
    refine jx_sald c1 hm rfl ⟨by omega, by omega⟩ kz415 ?_
    refine jv_i c3 hm rfl (plp pj_X12_restore rfl) rfl rfl ⟨_, _, _, rfl, sh_173⟩ rfl ((ct_X12_restore_173n (X + 8000 * b1) (by omega) M414 hH414 z415 ⟨by omega, by omega⟩ (SOK.cg hs1 (fun j h1 h2 => (hR414 175 j rfl))) (KOK.cg hs2 (fun j h1 h2 => (hR414 177 j rfl))) (KOK.cg hs3 (fun j h1 h2 => (hR414 177 j rfl)))).le (by decide)) (fun z416 M421 ⟨hH421, hR421, lz416, uz416, p417, p418, p419, p420⟩ => ?_)
    refine jx_pop c1 hm rfl rfl ?_
    refine jx_goto c1 hm 1445 rfl rfl ?_
    refine jx_iinc c1 hm (v := (b1 + 6)) (L' := [some (.inr (.inr (.inr 0))), some (.inr (.inr (.inl 0))), some (.inr (.inr (.inl 173))), some (.inr (.inr (.inl 198))), some (.inl (b1 + 6)), o2, o3]) rfl rfl (by omega) (by omega) rfl ?_
    refine jx_goto c1 hm 23 rfl rfl ?_
    exact ihW13 (b1 + 6) (by omega) o2 ho2 o3 ho3 M421 (hH421.mono (by omega) (by omega)) k (by omega) p417 (KOK.cg hs2 (fun j h1 h2 => ((hR421 177 j rfl).trans (hR414 177 j rfl)))) (KOK.cg hs3 (fun j h1 h2 => ((hR421 177 j rfl).trans (hR414 177 j rfl)))) (TPQ.cg hs4 ((hR421 0 2 rfl).trans (hR414 0 2 rfl)) ((hR421 173 2 rfl).trans (hR414 173 2 rfl))) (TBQ.cg hs5 (fun j => ((hR421 2 j rfl).trans (hR414 2 j rfl))) (fun j => ((hR421 174 j rfl).trans (hR414 174 j rfl)))) (IMG.cg hs6 (fun j => ((hR421 46 j rfl).trans (hR414 46 j rfl))) (fun j => ((hR421 183 j rfl).trans (hR414 183 j rfl)))) (HNQ.re hs7 hs6 hs8 (kz409.symm.trans kz415) ⟨by omega, by omega⟩ p411 p412 (fun j => hR414 183 j rfl) ⟨fun j hj => (hR414 175 (0 + j) rfl), fun k _ => (p413 180 (0 + k) (by decide +kernel) rfl)⟩ ⟨fun j hj => (hR414 177 (0 + j) rfl), fun k _ => (p413 182 (0 + k) (by decide +kernel) rfl)⟩ ⟨fun j hj => (hR414 177 (476 + j) rfl), fun k _ => (p413 182 (18 + k) (by decide +kernel) rfl)⟩ p418 p419 ⟨fun j _ => (hR421 6 j rfl), fun k _ => (p420 7 k (by decide +kernel) rfl)⟩) (IHQ.cg hs8 (fun j => ((hR421 46 j rfl).trans (hR414 46 j rfl))) ⟨fun j _ => ((hR421 138 j rfl).trans (hR414 138 j rfl)), fun k _ => ((p420 139 k (by decide +kernel) rfl).trans (p413 139 k (by decide +kernel) rfl))⟩ ⟨fun j _ => ((hR421 156 j rfl).trans (hR414 156 j rfl)), fun k _ => ((p420 157 k (by decide +kernel) rfl).trans (p413 157 k (by decide +kernel) rfl))⟩ ⟨fun j hj => ((hR421 177 (0 + j) rfl).trans (hR414 177 (0 + j) rfl)), fun k _ => ((p420 182 (0 + k) (by decide +kernel) rfl).trans (p413 182 (0 + k) (by decide +kernel) rfl))⟩ ⟨fun j hj => ((hR421 177 (476 + j) rfl).trans (hR414 177 (476 + j) rfl)), fun k _ => ((p420 182 (18 + k) (by decide +kernel) rfl).trans (p413 182 (18 + k) (by decide +kernel) rfl))⟩) (by omega)
   by_cases h422 : z17 = 41
   ·
    refine jx_tswI c1 hm 1420 rfl ⟨by omega, by omega⟩ (by rw [h422] <;> rfl) rfl ?_
    refine jx_load c1 hm rfl rfl rfl rfl ?_
    refine jx_load c1 hm rfl rfl rfl rfl ?_
    refine jx_load c1 hm rfl rfl rfl rfl ?_
    refine jy_ic c1 hm rfl (by decide) ?_
    refine jy_add c1 hm (b1 + 1) rfl (by omega) ?_
    obtain ⟨z423, kz423, lz423, uz423⟩ := hf ((b1 + 1)).toNat
    refine jx_sald c1 hm rfl ⟨by omega, by omega⟩ kz423 ?_
    refine jv_i c3 hm rfl (plp pj_X11_count rfl) rfl rfl ⟨_, _, _, rfl, sh_0⟩ rfl ((ct_X11_count_0 (X + 8000 * b1) (by omega) M4 hH4 z423 ⟨by omega, by omega⟩).le (by decide)) (fun z424 _ ⟨rfl, lz424, uz424⟩ => ?_)
    refine jx_pop c1 hm rfl rfl ?_
    refine jx_load c1 hm rfl rfl rfl rfl ?_
    refine jx_load c1 hm rfl rfl rfl rfl ?_
    refine jx_load c1 hm rfl rfl rfl rfl ?_
    refine jy_ic c1 hm rfl (by decide) ?_
    refine jy_add c1 hm (b1 + 1) rfl (by omega) ?_
    obtain ⟨z425, kz425, lz425, uz425⟩ := hf ((b1 + 1)).toNat
    refine jx_sald c1 hm rfl ⟨by omega, by omega⟩ kz425 ?_
    refine jv_i c3 hm rfl (plp pj_X12_count rfl) rfl rfl ⟨_, _, _, rfl, sh_173⟩ rfl (((ct_X12_count_173 (X + 8000 * b1) (by omega) M4 hH4 z425 ⟨by omega, by omega⟩).lki (by decide +kernel) rfl).le (by decide)) (fun z426 M427 ⟨⟨hH427, hR427, lz426, uz426⟩, hL427⟩ => ?_)
    refine jx_pop c1 hm rfl rfl ?_
    refine jx_goto c1 hm 1445 rfl rfl ?_
    refine jx_iinc c1 hm (v := (b1 + 6)) (L' := [some (.inr (.inr (.inr 0))), some (.inr (.inr (.inl 0))), some (.inr (.inr (.inl 173))), some (.inr (.inr (.inl 198))), some (.inl (b1 + 6)), o2, o3]) rfl rfl (by omega) (by omega) rfl ?_
    refine jx_goto c1 hm 23 rfl rfl ?_
    exact ihW13 (b1 + 6) (by omega) o2 ho2 o3 ho3 M427 (hH427.mono (by omega) (by omega)) k (by omega) (SOK.cg hs1 (fun j h1 h2 => (hR427 175 j rfl))) (KOK.cg hs2 (fun j h1 h2 => (hR427 177 j rfl))) (KOK.cg hs3 (fun j h1 h2 => (hR427 177 j rfl))) (TPQ.cg hs4 (hR427 0 2 rfl) (hR427 173 2 rfl)) (TBQ.cg hs5 (fun j => (hR427 2 j rfl)) (fun j => (hR427 174 j rfl))) (IMG.cg hs6 (fun j => (hR427 46 j rfl)) (fun j => (hR427 183 j rfl))) (HNQ.cg hs7 ⟨fun j _ => (hR427 6 j rfl), fun k _ => (hL427 7 k (by decide +kernel))⟩ ⟨fun j hj => (hR427 175 (0 + j) rfl), fun k _ => (hL427 180 (0 + k) (by decide +kernel))⟩) (IHQ.cg hs8 (fun j => (hR427 46 j rfl)) ⟨fun j _ => (hR427 138 j rfl), fun k _ => (hL427 139 k (by decide +kernel))⟩ ⟨fun j _ => (hR427 156 j rfl), fun k _ => (hL427 157 k (by decide +kernel))⟩ ⟨fun j hj => (hR427 177 (0 + j) rfl), fun k _ => (hL427 182 (0 + k) (by decide +kernel))⟩ ⟨fun j hj => (hR427 177 (476 + j) rfl), fun k _ => (hL427 182 (18 + k) (by decide +kernel))⟩) (by omega)
   refine jx_tswO c1 hm 1445 rfl (by omega) rfl ?_
   refine jx_iinc c1 hm (v := (b1 + 6)) (L' := [some (.inr (.inr (.inr 0))), some (.inr (.inr (.inl 0))), some (.inr (.inr (.inl 173))), some (.inr (.inr (.inl 198))), some (.inl (b1 + 6)), o2, o3]) rfl rfl (by omega) (by omega) rfl ?_
   refine jx_goto c1 hm 23 rfl rfl ?_
   exact ihW13 (b1 + 6) (by omega) o2 ho2 o3 ho3 M4 (hH4.mono (by omega) (by omega)) k (by omega) (SOK.cg hs1 (fun j h1 h2 => rfl)) (KOK.cg hs2 (fun j h1 h2 => rfl)) (KOK.cg hs3 (fun j h1 h2 => rfl)) (TPQ.cg hs4 rfl rfl) (TBQ.cg hs5 (fun j => rfl) (fun j => rfl)) (IMG.cg hs6 (fun j => rfl) (fun j => rfl)) (HNQ.cg hs7 ⟨fun j _ => rfl, fun k _ => rfl⟩ ⟨fun j hj => rfl, fun k _ => rfl⟩) (IHQ.cg hs8 (fun j => rfl) ⟨fun j _ => rfl, fun k _ => rfl⟩ ⟨fun j _ => rfl, fun k _ => rfl⟩ ⟨fun j hj => rfl, fun k _ => rfl⟩ ⟨fun j hj => rfl, fun k _ => rfl⟩) (by omega)
 exact W13 (3072 + 1 : Int).toNat 0 (by omega) none (Or.inl rfl) none (Or.inl rfl) M0 (hH0.mono (by omega) (by omega)) 0 (by omega) hs1 hs2 hs3 hs4 hs5 hs6 hs7 hs8 (by omega)
