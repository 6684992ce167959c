/-! The law's loop. -/
theorem law_loop (n : Nat) (nn : Int) (hnn : (n : Int) = nn) (hn : 0 ≤ nn ∧ nn ≤ 3072) (f : Nat → Int) (hf : ∀ j, ∃ z, f j = z ∧ -2147483648 ≤ z ∧ z ≤ 2147483647) (F : Nat → JP) (c1f : ∀ k, k ≤ 512 → jstC shp PL (some (n, f)) 1000 (F k)) (c2f : ∀ k, k ≤ 512 → jreC PL 1000 (fun r _ => r = some (.inl 1)) (F k)) (c3f : ∀ k, k ≤ 512 → jcaC shp PL (JOk shp PJ 94) 1000 (F k))
 (cm : ∀ k : Nat, k < 512 → ∀ (X : Int) (L : JL) (a b : Int) (M : JM), 0 ≤ X → X ≤ 100000000 → HI X M → -2147483648 ≤ a → a ≤ 2147483647 → -2147483648 ≤ b → b ≤ 2147483647 → (∀ (v : Int) (M' : JM), 0 ≤ v → v ≤ 1 → HI X M' → (∀ c i, M'.1 c i = M.1 c i) → F (k + 1) 365 L [.inl v] M') → F k 362 L [.inr (.inr (.inl 198)), .inl b, .inl a, .inr (.inr (.inl 0))] M)
 (X : Int) (hX : 0 ≤ X ∧ X ≤ 0) (M0 : JM) (hH0 : HI X M0) (hs1 : SOK M0) (hs2 : KOK M0 0) (hs3 : KOK M0 1) (hs4 : TPQ M0) (hs5 : TBQ M0) (hs6 : IMG M0) (hs7 : CNQ M0) (hs8 : IMQ M0) : F 0 23 [some (.inr (.inr (.inr 0))), some (.inr (.inr (.inl 0))), some (.inr (.inr (.inl 173))), some (.inr (.inr (.inl 198))), some (.inl 0), none, none] [] M0 := by
 have hm := pl_law
 have W13 : ∀ (n14 : Nat) (b1 : Int) (hb1 : 0 ≤ b1 ∧ b1 ≤ 3072) (o2 : Option JV) (ho2 : o2 = none ∨ (∃ z, o2 = some (.inl z)) ∨ ∃ r, o2 = some (.inr (.inr r))) (o3 : Option JV) (ho3 : o3 = none ∨ (∃ z, o3 = some (.inl z)) ∨ ∃ r, o3 = some (.inr (.inr r))) (M4 : JM) (hH4 : HI (X + 8000 * b1) M4) (k : Nat) (hk : 6 * (k : Int) ≤ b1) (hs1 : SOK M4) (hs2 : KOK M4 0) (hs3 : KOK M4 1) (hs4 : TPQ M4) (hs5 : TBQ M4) (hs6 : IMG M4) (hs7 : CNQ M4) (hs8 : IMQ M4), (-b1 + 3072) < (n14 : Int) → F k 23 [some (.inr (.inr (.inr 0))), some (.inr (.inr (.inl 0))), some (.inr (.inr (.inl 173))), some (.inr (.inr (.inl 198))), some (.inl b1), o2, o3] [] M4 := by
  intro n14
  induction n14 with
  | zero => intros; omega
  | succ n14 ihW13 =>
   intro b1 hb1 o2 ho2 o3 ho3 M4 hH4 k hk hs1 hs2 hs3 hs4 hs5 hs6 hs7 hs8 hrW13
   have c1 := c1f k (by omega)
   have c2 := c2f k (by omega)
   have c3 := c3f k (by omega)
   refine jx_load c1 hm rfl rfl rfl rfl ?_
   refine jx_load c1 hm rfl rfl rfl rfl ?_
   refine jx_slen c1 hm rfl hnn ?_
   refine jy_bp c1 hm rfl (by decide) ?_
   refine jy_sub c1 hm (nn - 6) rfl (by omega) ?_
   refine jc_gt c1 hm 1451 rfl rfl (fun h15 => ?_) (fun h15 => ?_)
   ·
    refine jy_ic c1 hm rfl (by decide) ?_
    exact jx_retz c2 hm rfl rfl ⟨by omega, by omega⟩ rfl
   refine jx_load c1 hm rfl rfl rfl rfl ?_
   refine jx_load c1 hm rfl rfl rfl rfl ?_
   obtain ⟨z16, kz16, lz16, uz16⟩ := hf (b1).toNat
   refine jx_sald c1 hm rfl ⟨by omega, by omega⟩ kz16 ?_
   refine jy_bp c1 hm rfl (by decide) ?_
   refine jy_anr c1 hm rfl ⟨by omega, by omega⟩ (fun z17 lz17 uz17 => ?_)
   by_cases h18 : z17 = 0
   ·
    refine jx_tswI c1 hm 224 rfl ⟨by omega, by omega⟩ (by rw [h18] <;> rfl) rfl ?_
    refine jx_load c1 hm rfl rfl rfl rfl ?_
    refine jx_load c1 hm rfl rfl rfl rfl ?_
    refine jx_load c1 hm rfl rfl rfl rfl ?_
    refine jy_ic c1 hm rfl (by decide) ?_
    refine jy_add c1 hm (b1 + 1) rfl (by omega) ?_
    obtain ⟨z19, kz19, lz19, uz19⟩ := hf ((b1 + 1)).toNat
    refine jx_sald c1 hm rfl ⟨by omega, by omega⟩ kz19 ?_
    refine jx_load c1 hm rfl rfl rfl rfl ?_
    refine jx_load c1 hm rfl rfl rfl rfl ?_
    refine jy_ic c1 hm rfl (by decide) ?_
    refine jy_add c1 hm (b1 + 2) rfl (by omega) ?_
    obtain ⟨z20, kz20, lz20, uz20⟩ := hf ((b1 + 2)).toNat
    refine jx_sald c1 hm rfl ⟨by omega, by omega⟩ kz20 ?_
    refine jx_load c1 hm rfl rfl rfl rfl ?_
    refine jx_load c1 hm rfl rfl rfl rfl ?_
    refine jy_ic c1 hm rfl (by decide) ?_
    refine jy_add c1 hm (b1 + 3) rfl (by omega) ?_
    obtain ⟨z21, kz21, lz21, uz21⟩ := hf ((b1 + 3)).toNat
    refine jx_sald c1 hm rfl ⟨by omega, by omega⟩ kz21 ?_
    refine jx_load c1 hm rfl rfl rfl rfl ?_
    refine jx_load c1 hm rfl rfl rfl rfl ?_
    refine jy_ic c1 hm rfl (by decide) ?_
    refine jy_add c1 hm (b1 + 4) rfl (by omega) ?_
    obtain ⟨z22, kz22, lz22, uz22⟩ := hf ((b1 + 4)).toNat
    refine jx_sald c1 hm rfl ⟨by omega, by omega⟩ kz22 ?_
    refine jx_load c1 hm rfl rfl rfl rfl ?_
    refine jx_load c1 hm rfl rfl rfl rfl ?_
    refine jy_ic c1 hm rfl (by decide) ?_
    refine jy_add c1 hm (b1 + 5) rfl (by omega) ?_
    obtain ⟨z23, kz23, lz23, uz23⟩ := hf ((b1 + 5)).toNat
    refine jx_sald c1 hm rfl ⟨by omega, by omega⟩ kz23 ?_
    obtain ⟨z24, k25, lz24, uz24⟩ := hH4.ld (c := 0) (i := 2) (A := 0) (B := 940) (bs_18_1 _ _ (by omega) (by omega))
    refine jv_i c3 hm rfl (plp pj_X11_feed rfl) rfl rfl ⟨_, _, _, rfl, sh_0⟩ rfl ((ct_X11_feed_0t (X + 8000 * b1) (by omega) M4 hH4 z19 ⟨by omega, by omega⟩ z20 ⟨by omega, by omega⟩ z21 ⟨by omega, by omega⟩ z22 ⟨by omega, by omega⟩ z23 ⟨by omega, by omega⟩).le (by decide)) (fun z26 M31 ⟨hH31, hR31, lz26, uz26, p27, p28, p29, p30⟩ => ?_)
    obtain ⟨z32, k33, lz32, uz32⟩ := hH31.ld (c := 0) (i := 2) (A := 0) (B := 940) (bs_18_1 _ _ (by omega) (by omega))
    refine jx_pop c1 hm rfl rfl ?_
    refine jx_load c1 hm rfl rfl rfl rfl ?_
    refine jx_load c1 hm rfl rfl rfl rfl ?_
    refine jx_load c1 hm rfl rfl rfl rfl ?_
    refine jy_ic c1 hm rfl (by decide) ?_
    refine jy_add c1 hm (b1 + 1) rfl (by omega) ?_
    obtain ⟨z34, kz34, lz34, uz34⟩ := hf ((b1 + 1)).toNat
    refine jx_sald c1 hm rfl ⟨by omega, by omega⟩ kz34 ?_
    refine jx_load c1 hm rfl rfl rfl rfl ?_
    refine jx_load c1 hm rfl rfl rfl rfl ?_
    refine jy_ic c1 hm rfl (by decide) ?_
    refine jy_add c1 hm (b1 + 2) rfl (by omega) ?_
    obtain ⟨z35, kz35, lz35, uz35⟩ := hf ((b1 + 2)).toNat
    refine jx_sald c1 hm rfl ⟨by omega, by omega⟩ kz35 ?_
    refine jx_load c1 hm rfl rfl rfl rfl ?_
    refine jx_load c1 hm rfl rfl rfl rfl ?_
    refine jy_ic c1 hm rfl (by decide) ?_
    refine jy_add c1 hm (b1 + 3) rfl (by omega) ?_
    obtain ⟨z36, kz36, lz36, uz36⟩ := hf ((b1 + 3)).toNat
    refine jx_sald c1 hm rfl ⟨by omega, by omega⟩ kz36 ?_
    refine jx_load c1 hm rfl rfl rfl rfl ?_
    refine jx_load c1 hm rfl rfl rfl rfl ?_
    refine jy_ic c1 hm rfl (by decide) ?_
    refine jy_add c1 hm (b1 + 4) rfl (by omega) ?_
    obtain ⟨z37, kz37, lz37, uz37⟩ := hf ((b1 + 4)).toNat
    refine jx_sald c1 hm rfl ⟨by omega, by omega⟩ kz37 ?_
    refine jx_load c1 hm rfl rfl rfl rfl ?_
    refine jx_load c1 hm rfl rfl rfl rfl ?_
    refine jy_ic c1 hm rfl (by decide) ?_
    refine jy_add c1 hm (b1 + 5) rfl (by omega) ?_
    obtain ⟨z38, kz38, lz38, uz38⟩ := hf ((b1 + 5)).toNat
    refine jx_sald c1 hm rfl ⟨by omega, by omega⟩ kz38 ?_
    obtain ⟨z39, k40, lz39, uz39⟩ := hH31.ld (c := 173) (i := 2) (A := 0) (B := 940) (bs_28_1 _ _ (by omega) (by omega))
    refine jv_i c3 hm rfl (plp pj_X12_feed rfl) rfl rfl ⟨_, _, _, rfl, sh_173⟩ rfl ((ct_X12_feed_173t (X + 8000 * b1) (by omega) M31 hH31 z34 ⟨by omega, by omega⟩ z35 ⟨by omega, by omega⟩ z36 ⟨by omega, by omega⟩ z37 ⟨by omega, by omega⟩ z38 ⟨by omega, by omega⟩).le (by decide)) (fun z41 M46 ⟨hH46, hR46, lz41, uz41, p42, p43, p44, p45⟩ => ?_)
    obtain ⟨z47, k48, lz47, uz47⟩ := hH46.ld (c := 173) (i := 2) (A := 0) (B := 940) (bs_28_1 _ _ (by omega) (by omega))
    refine jx_pop c1 hm rfl rfl ?_
    refine jx_goto c1 hm 1445 rfl rfl ?_
    refine jx_iinc c1 hm (v := (b1 + 6)) (L' := [some (.inr (.inr (.inr 0))), some (.inr (.inr (.inl 0))), some (.inr (.inr (.inl 173))), some (.inr (.inr (.inl 198))), some (.inl (b1 + 6)), o2, o3]) rfl rfl (by omega) (by omega) rfl ?_
    refine jx_goto c1 hm 23 rfl rfl ?_
    exact ihW13 (b1 + 6) (by omega) o2 ho2 o3 ho3 M46 (hH46.mono (by omega) (by omega)) k (by omega) (SOK.cg hs1 (fun j h1 h2 => ((hR46 175 j rfl).trans (hR31 175 j rfl)))) (KOK.cg hs2 (fun j h1 h2 => ((hR46 177 j rfl).trans (hR31 177 j rfl)))) (KOK.cg hs3 (fun j h1 h2 => ((hR46 177 j rfl).trans (hR31 177 j rfl)))) (TPQ.of (by have y9 := hs4.e; have y90_0 := hR46 0 2 rfl; have y91_173 := hR31 173 2 rfl; omega)) (TBQ.feed hs5 hs4 (kz19.symm.trans kz34) (kz20.symm.trans kz35) (kz21.symm.trans kz36) (kz22.symm.trans kz37) (kz23.symm.trans kz38) p29 p30 (fun j => hR31 174 j rfl) (hR31 173 2 rfl) p44 p45 (fun j => hR46 2 j rfl) (hR46 0 2 rfl)) (IMG.cg hs6 (fun j => ((hR46 46 j rfl).trans (hR31 46 j rfl))) (fun j => ((hR46 183 j rfl).trans (hR31 183 j rfl)))) (CNQ.cg hs7 (dq_cg (d := 5) (fun j => ((hR46 6 j rfl).trans (hR31 6 j rfl))) ((hR46 5 6 rfl).trans (hR31 5 6 rfl)) ((hR46 5 7 rfl).trans (hR31 5 7 rfl))) (nq_cp (c := 175) (c' := 175) (o := 0) (o' := 0) (fun j hj => ((hR46 175 _ rfl).trans (hR31 175 _ rfl))))) (IMQ.cg hs8 (fun j => ((hR46 46 j rfl).trans (hR31 46 j rfl))) (dq_cg (d := 137) (fun j => ((hR46 138 j rfl).trans (hR31 138 j rfl))) ((hR46 137 6 rfl).trans (hR31 137 6 rfl)) ((hR46 137 7 rfl).trans (hR31 137 7 rfl))) (dq_cg (d := 155) (fun j => ((hR46 156 j rfl).trans (hR31 156 j rfl))) ((hR46 155 6 rfl).trans (hR31 155 6 rfl)) ((hR46 155 7 rfl).trans (hR31 155 7 rfl))) (nq_cp (c := 177) (c' := 177) (o := 0) (o' := 0) (fun j hj => ((hR46 177 _ rfl).trans (hR31 177 _ rfl)))) (nq_cp (c := 177) (c' := 177) (o := 476) (o' := 476) (fun j hj => ((hR46 177 _ rfl).trans (hR31 177 _ rfl))))) (by omega)
   by_cases h49 : z17 = 1
   ·
    refine jx_tswI c1 hm 297 rfl ⟨by omega, by omega⟩ (by rw [h49] <;> rfl) rfl ?_
    refine jx_load c1 hm rfl rfl rfl rfl ?_
    refine jx_load c1 hm rfl rfl rfl rfl ?_
    refine jx_load c1 hm rfl rfl rfl rfl ?_
    refine jy_ic c1 hm rfl (by decide) ?_
    refine jy_add c1 hm (b1 + 1) rfl (by omega) ?_
    obtain ⟨z50, kz50, lz50, uz50⟩ := hf ((b1 + 1)).toNat
    refine jx_sald c1 hm rfl ⟨by omega, by omega⟩ kz50 ?_
    obtain ⟨z51, k52, lz51, uz51⟩ := hH4.ld (c := 0) (i := 2) (A := 0) (B := 940) (bs_18_1 _ _ (by omega) (by omega))
    refine jv_i c3 hm rfl (plp pj_X11_end rfl) rfl rfl ⟨_, _, _, rfl, sh_0⟩ rfl ((ct_X11_end_0t (X + 8000 * b1) (by omega) M4 hH4 z50 ⟨by omega, by omega⟩).le (by decide)) (fun z53 M56 ⟨hH56, hR56, lz53, uz53, p54, p55⟩ => ?_)
    obtain ⟨z57, k58, lz57, uz57⟩ := hH56.ld (c := 0) (i := 2) (A := 0) (B := 940) (bs_18_1 _ _ (by omega) (by omega))
    refine jx_pop c1 hm rfl rfl ?_
    refine jx_load c1 hm rfl rfl rfl rfl ?_
    refine jx_load c1 hm rfl rfl rfl rfl ?_
    refine jx_load c1 hm rfl rfl rfl rfl ?_
    refine jy_ic c1 hm rfl (by decide) ?_
    refine jy_add c1 hm (b1 + 1) rfl (by omega) ?_
    obtain ⟨z59, kz59, lz59, uz59⟩ := hf ((b1 + 1)).toNat
    refine jx_sald c1 hm rfl ⟨by omega, by omega⟩ kz59 ?_
    obtain ⟨z60, k61, lz60, uz60⟩ := hH56.ld (c := 173) (i := 2) (A := 0) (B := 940) (bs_28_1 _ _ (by omega) (by omega))
    refine jv_i c3 hm rfl (plp pj_X12_end rfl) rfl rfl ⟨_, _, _, rfl, sh_173⟩ rfl ((ct_X12_end_173t (X + 8000 * b1) (by omega) M56 hH56 z59 ⟨by omega, by omega⟩).le (by decide)) (fun z62 M65 ⟨hH65, hR65, lz62, uz62, p63, p64⟩ => ?_)
    obtain ⟨z66, k67, lz66, uz66⟩ := hH65.ld (c := 173) (i := 2) (A := 0) (B := 940) (bs_28_1 _ _ (by omega) (by omega))
    refine jx_pop c1 hm rfl rfl ?_
    refine jx_goto c1 hm 1445 rfl rfl ?_
    refine jx_iinc c1 hm (v := (b1 + 6)) (L' := [some (.inr (.inr (.inr 0))), some (.inr (.inr (.inl 0))), some (.inr (.inr (.inl 173))), some (.inr (.inr (.inl 198))), some (.inl (b1 + 6)), o2, o3]) rfl rfl (by omega) (by omega) rfl ?_
    refine jx_goto c1 hm 23 rfl rfl ?_
    exact ihW13 (b1 + 6) (by omega) o2 ho2 o3 ho3 M65 (hH65.mono (by omega) (by omega)) k (by omega) (SOK.cg hs1 (fun j h1 h2 => ((hR65 175 j rfl).trans (hR56 175 j rfl)))) (KOK.cg hs2 (fun j h1 h2 => ((hR65 177 j rfl).trans (hR56 177 j rfl)))) (KOK.cg hs3 (fun j h1 h2 => ((hR65 177 j rfl).trans (hR56 177 j rfl)))) (TPQ.of (by have y9 := hs4.e; have y90_0 := hR65 0 2 rfl; have y91_173 := hR56 173 2 rfl; omega)) (TBQ.cg hs5 (fun j => ((hR65 2 j rfl).trans (hR56 2 j rfl))) (fun j => ((hR65 174 j rfl).trans (hR56 174 j rfl)))) (IMG.cg hs6 (fun j => ((hR65 46 j rfl).trans (hR56 46 j rfl))) (fun j => ((hR65 183 j rfl).trans (hR56 183 j rfl)))) (CNQ.cg hs7 (dq_cg (d := 5) (fun j => ((hR65 6 j rfl).trans (hR56 6 j rfl))) ((hR65 5 6 rfl).trans (hR56 5 6 rfl)) ((hR65 5 7 rfl).trans (hR56 5 7 rfl))) (nq_cp (c := 175) (c' := 175) (o := 0) (o' := 0) (fun j hj => ((hR65 175 _ rfl).trans (hR56 175 _ rfl))))) (IMQ.cg hs8 (fun j => ((hR65 46 j rfl).trans (hR56 46 j rfl))) (dq_cg (d := 137) (fun j => ((hR65 138 j rfl).trans (hR56 138 j rfl))) ((hR65 137 6 rfl).trans (hR56 137 6 rfl)) ((hR65 137 7 rfl).trans (hR56 137 7 rfl))) (dq_cg (d := 155) (fun j => ((hR65 156 j rfl).trans (hR56 156 j rfl))) ((hR65 155 6 rfl).trans (hR56 155 6 rfl)) ((hR65 155 7 rfl).trans (hR56 155 7 rfl))) (nq_cp (c := 177) (c' := 177) (o := 0) (o' := 0) (fun j hj => ((hR65 177 _ rfl).trans (hR56 177 _ rfl)))) (nq_cp (c := 177) (c' := 177) (o := 476) (o' := 476) (fun j hj => ((hR65 177 _ rfl).trans (hR56 177 _ rfl))))) (by omega)
   by_cases h68 : z17 = 2
   ·
    refine jx_tswI c1 hm 322 rfl ⟨by omega, by omega⟩ (by rw [h68] <;> rfl) rfl ?_
    refine jx_load c1 hm rfl rfl rfl rfl ?_
    obtain ⟨z69, k70, lz69, uz69⟩ := hH4.ld (c := 0) (i := 2) (A := 0) (B := 940) (bs_18_1 _ _ (by omega) (by omega))
    refine jv_i c3 hm rfl (plp pj_X11_duchy rfl) rfl rfl ⟨_, _, _, rfl, sh_0⟩ rfl ((ct_X11_duchy_0w (X + 8000 * b1) (by omega) M4 hH4 ).le (by decide)) (fun z71 M76 ⟨hH76, hR76, lz71, uz71, p72, p73, p74, p75⟩ => ?_)
    obtain ⟨z77, k78, lz77, uz77⟩ := hH76.ld (c := 0) (i := 2) (A := 0) (B := 940) (bs_18_1 _ _ (by omega) (by omega))
    refine jx_pop c1 hm rfl rfl ?_
    refine jx_load c1 hm rfl rfl rfl rfl ?_
    obtain ⟨z79, k80, lz79, uz79⟩ := hH76.ld (c := 173) (i := 2) (A := 0) (B := 940) (bs_28_1 _ _ (by omega) (by omega))
    refine jv_i c3 hm rfl (plp pj_X12_duchy rfl) rfl rfl ⟨_, _, _, rfl, sh_173⟩ rfl ((ct_X12_duchy_173w (X + 8000 * b1) (by omega) M76 hH76 (SOK.cg hs1 (fun j h1 h2 => (hR76 175 j rfl)))).le (by decide)) (fun z81 M88 ⟨hH88, hR88, lz81, uz81, p82, p83, p84, p85, p86, p87⟩ => ?_)
    obtain ⟨z89, k90, lz89, uz89⟩ := hH88.ld (c := 175) (i := 234) (A := (-2147483648)) (B := 2147483647) (bs_11_11 _ _ (by omega) (by omega))
    obtain ⟨z91, k92, lz91, uz91⟩ := hH88.ld (c := 173) (i := 2) (A := 0) (B := 940) (bs_28_1 _ _ (by omega) (by omega))
    refine jx_pop c1 hm rfl rfl ?_
    refine jx_goto c1 hm 1445 rfl rfl ?_
    refine jx_iinc c1 hm (v := (b1 + 6)) (L' := [some (.inr (.inr (.inr 0))), some (.inr (.inr (.inl 0))), some (.inr (.inr (.inl 173))), some (.inr (.inr (.inl 198))), some (.inl (b1 + 6)), o2, o3]) rfl rfl (by omega) (by omega) rfl ?_
    refine jx_goto c1 hm 23 rfl rfl ?_
    exact ihW13 (b1 + 6) (by omega) o2 ho2 o3 ho3 M88 (hH88.mono (by omega) (by omega)) k (by omega) p82 (KOK.cg hs2 (fun j h1 h2 => ((hR88 177 j rfl).trans (hR76 177 j rfl)))) (KOK.cg hs3 (fun j h1 h2 => ((hR88 177 j rfl).trans (hR76 177 j rfl)))) (TPQ.of (by have y9 := hs4.e; have y90_0 := hR88 0 2 rfl; have y91_173 := hR76 173 2 rfl; omega)) (TBQ.cg hs5 (fun j => ((hR88 2 j rfl).trans (hR76 2 j rfl))) (fun j => ((hR88 174 j rfl).trans (hR76 174 j rfl)))) (IMG.cg hs6 (fun j => ((hR88 46 j rfl).trans (hR76 46 j rfl))) (fun j => ((hR88 183 j rfl).trans (hR76 183 j rfl)))) (CNQ.du hs7 hs5 hs4 p72 p74 p75 (fun j => hR76 174 j rfl) (hR76 173 2 rfl) (nq_cp (c := 175) (c' := 175) (o := 0) (o' := 0) (fun j hj => (hR76 175 _ rfl))) p84 p86 p87 (dq_cg (d := 5) (fun j => (hR88 6 j rfl)) (hR88 5 6 rfl) (hR88 5 7 rfl))) (IMQ.cg hs8 (fun j => ((hR88 46 j rfl).trans (hR76 46 j rfl))) (dq_cg (d := 137) (fun j => ((hR88 138 j rfl).trans (hR76 138 j rfl))) ((hR88 137 6 rfl).trans (hR76 137 6 rfl)) ((hR88 137 7 rfl).trans (hR76 137 7 rfl))) (dq_cg (d := 155) (fun j => ((hR88 156 j rfl).trans (hR76 156 j rfl))) ((hR88 155 6 rfl).trans (hR76 155 6 rfl)) ((hR88 155 7 rfl).trans (hR76 155 7 rfl))) (nq_cp (c := 177) (c' := 177) (o := 0) (o' := 0) (fun j hj => ((hR88 177 _ rfl).trans (hR76 177 _ rfl)))) (nq_cp (c := 177) (c' := 177) (o := 476) (o' := 476) (fun j hj => ((hR88 177 _ rfl).trans (hR76 177 _ rfl))))) (by omega)
   by_cases h93 : z17 = 3
   ·
    refine jx_tswI c1 hm 335 rfl ⟨by omega, by omega⟩ (by rw [h93] <;> rfl) rfl ?_
    refine jx_load c1 hm rfl rfl rfl rfl ?_
    refine jv_i c3 hm rfl (plp pj_X11_fault rfl) rfl rfl ⟨_, _, _, rfl, sh_0⟩ rfl ((ct_X11_fault_0 (X + 8000 * b1) (by omega) M4 hH4 ).le (by decide)) (fun z94 _ ⟨rfl, lz94, uz94⟩ => ?_)
    refine jx_pop c1 hm rfl rfl ?_
    refine jx_load c1 hm rfl rfl rfl rfl ?_
    refine jv_i c3 hm rfl (plp pj_X12_fault rfl) rfl rfl ⟨_, _, _, rfl, sh_173⟩ rfl ((ct_X12_fault_173 (X + 8000 * b1) (by omega) M4 hH4 ).le (by decide)) (fun z95 M96 ⟨hH96, hR96, lz95, uz95⟩ => ?_)
    refine jx_pop c1 hm rfl rfl ?_
    refine jx_goto c1 hm 1445 rfl rfl ?_
    refine jx_iinc c1 hm (v := (b1 + 6)) (L' := [some (.inr (.inr (.inr 0))), some (.inr (.inr (.inl 0))), some (.inr (.inr (.inl 173))), some (.inr (.inr (.inl 198))), some (.inl (b1 + 6)), o2, o3]) rfl rfl (by omega) (by omega) rfl ?_
    refine jx_goto c1 hm 23 rfl rfl ?_
    exact ihW13 (b1 + 6) (by omega) o2 ho2 o3 ho3 M96 (hH96.mono (by omega) (by omega)) k (by omega) (SOK.cg hs1 (fun j h1 h2 => (hR96 175 j rfl))) (KOK.cg hs2 (fun j h1 h2 => (hR96 177 j rfl))) (KOK.cg hs3 (fun j h1 h2 => (hR96 177 j rfl))) (TPQ.cg hs4 (hR96 0 2 rfl) (hR96 173 2 rfl)) (TBQ.cg hs5 (fun j => (hR96 2 j rfl)) (fun j => (hR96 174 j rfl))) (IMG.cg hs6 (fun j => (hR96 46 j rfl)) (fun j => (hR96 183 j rfl))) (CNQ.cg hs7 (dq_cg (d := 5) (fun j => (hR96 6 j rfl)) (hR96 5 6 rfl) (hR96 5 7 rfl)) (nq_cp (c := 175) (c' := 175) (o := 0) (o' := 0) (fun j hj => (hR96 175 _ rfl)))) (IMQ.cg hs8 (fun j => (hR96 46 j rfl)) (dq_cg (d := 137) (fun j => (hR96 138 j rfl)) (hR96 137 6 rfl) (hR96 137 7 rfl)) (dq_cg (d := 155) (fun j => (hR96 156 j rfl)) (hR96 155 6 rfl) (hR96 155 7 rfl)) (nq_cp (c := 177) (c' := 177) (o := 0) (o' := 0) (fun j hj => (hR96 177 _ rfl))) (nq_cp (c := 177) (c' := 177) (o := 476) (o' := 476) (fun j hj => (hR96 177 _ rfl)))) (by omega)
   by_cases h97 : z17 = 4
   ·
    refine jx_tswI c1 hm 348 rfl ⟨by omega, by omega⟩ (by rw [h97] <;> rfl) rfl ?_
    refine jx_load c1 hm rfl rfl rfl rfl ?_
    refine jx_load c1 hm rfl rfl rfl rfl ?_
    refine jx_load c1 hm rfl rfl rfl rfl ?_
    refine jy_ic c1 hm rfl (by decide) ?_
    refine jy_add c1 hm (b1 + 1) rfl (by omega) ?_
    obtain ⟨z98, kz98, lz98, uz98⟩ := hf ((b1 + 1)).toNat
    refine jx_sald c1 hm rfl ⟨by omega, by omega⟩ kz98 ?_
    refine jx_load c1 hm rfl rfl rfl rfl ?_
    refine jx_load c1 hm rfl rfl rfl rfl ?_
    refine jy_ic c1 hm rfl (by decide) ?_
    refine jy_add c1 hm (b1 + 2) rfl (by omega) ?_
    obtain ⟨z99, kz99, lz99, uz99⟩ := hf ((b1 + 2)).toNat
    refine jx_sald c1 hm rfl ⟨by omega, by omega⟩ kz99 ?_
    refine jx_load c1 hm rfl rfl rfl rfl ?_
    refine cm k (by omega) (X + 8000 * b1) _ z98 z99 M4 (by omega) (by omega) hH4 (by omega) (by omega) (by omega) (by omega) (fun z100 M101 lz100 uz100 hH101 y101 => ?_)
    have c1 := c1f (k + 1) (by omega)
    have c2 := c2f (k + 1) (by omega)
    have c3 := c3f (k + 1) (by omega)
    refine jx_stor c1 hm (L' := [some (.inr (.inr (.inr 0))), some (.inr (.inr (.inl 0))), some (.inr (.inr (.inl 173))), some (.inr (.inr (.inl 198))), some (.inl b1), some (.inl z100), o3]) rfl rfl rfl rfl rfl ?_
    refine jx_load c1 hm rfl rfl rfl rfl ?_
    refine jx_load c1 hm rfl rfl rfl rfl ?_
    refine jx_load c1 hm rfl rfl rfl rfl ?_
    refine jy_ic c1 hm rfl (by decide) ?_
    refine jy_add c1 hm (b1 + 1) rfl (by omega) ?_
    obtain ⟨z102, kz102, lz102, uz102⟩ := hf ((b1 + 1)).toNat
    refine jx_sald c1 hm rfl ⟨by omega, by omega⟩ kz102 ?_
    refine jx_load c1 hm rfl rfl rfl rfl ?_
    refine jx_load c1 hm rfl rfl rfl rfl ?_
    refine jy_ic c1 hm rfl (by decide) ?_
    refine jy_add c1 hm (b1 + 2) rfl (by omega) ?_
    obtain ⟨z103, kz103, lz103, uz103⟩ := hf ((b1 + 2)).toNat
    refine jx_sald c1 hm rfl ⟨by omega, by omega⟩ kz103 ?_
    refine jv_i c3 hm rfl (plp pj_X12_man rfl) rfl rfl ⟨_, _, _, rfl, sh_173⟩ rfl ((ct_X12_man_173 (X + 8000 * b1) (by omega) M101 hH101 z102 ⟨by omega, by omega⟩ z103 ⟨by omega, by omega⟩).le (by decide)) (fun z104 M105 ⟨hH105, hR105, lz104, uz104⟩ => ?_)
    refine jx_stor c1 hm (L' := [some (.inr (.inr (.inr 0))), some (.inr (.inr (.inl 0))), some (.inr (.inr (.inl 173))), some (.inr (.inr (.inl 198))), some (.inl b1), some (.inl z100), some (.inl z104)]) rfl rfl rfl rfl rfl ?_
    refine jx_goto c1 hm 1445 rfl rfl ?_
    refine jx_iinc c1 hm (v := (b1 + 6)) (L' := [some (.inr (.inr (.inr 0))), some (.inr (.inr (.inl 0))), some (.inr (.inr (.inl 173))), some (.inr (.inr (.inl 198))), some (.inl (b1 + 6)), some (.inl z100), some (.inl z104)]) rfl rfl (by omega) (by omega) rfl ?_
    refine jx_goto c1 hm 23 rfl rfl ?_
    exact ihW13 (b1 + 6) (by omega) (some (.inl z100)) (Or.inr (Or.inl ⟨_, rfl⟩)) (some (.inl z104)) (Or.inr (Or.inl ⟨_, rfl⟩)) M105 (hH105.mono (by omega) (by omega)) (k + 1) (by omega) (SOK.cg hs1 (fun j h1 h2 => ((hR105 175 j rfl).trans (y101 175 j)))) (KOK.cg hs2 (fun j h1 h2 => ((hR105 177 j rfl).trans (y101 177 j)))) (KOK.cg hs3 (fun j h1 h2 => ((hR105 177 j rfl).trans (y101 177 j)))) (TPQ.cg hs4 ((hR105 0 2 rfl).trans (y101 0 2)) ((hR105 173 2 rfl).trans (y101 173 2))) (TBQ.cg hs5 (fun j => ((hR105 2 j rfl).trans (y101 2 j))) (fun j => ((hR105 174 j rfl).trans (y101 174 j)))) (IMG.cg hs6 (fun j => ((hR105 46 j rfl).trans (y101 46 j))) (fun j => ((hR105 183 j rfl).trans (y101 183 j)))) (CNQ.cg hs7 (dq_cg (d := 5) (fun j => ((hR105 6 j rfl).trans (y101 6 j))) ((hR105 5 6 rfl).trans (y101 5 6)) ((hR105 5 7 rfl).trans (y101 5 7))) (nq_cp (c := 175) (c' := 175) (o := 0) (o' := 0) (fun j hj => ((hR105 175 _ rfl).trans (y101 175 _))))) (IMQ.cg hs8 (fun j => ((hR105 46 j rfl).trans (y101 46 j))) (dq_cg (d := 137) (fun j => ((hR105 138 j rfl).trans (y101 138 j))) ((hR105 137 6 rfl).trans (y101 137 6)) ((hR105 137 7 rfl).trans (y101 137 7))) (dq_cg (d := 155) (fun j => ((hR105 156 j rfl).trans (y101 156 j))) ((hR105 155 6 rfl).trans (y101 155 6)) ((hR105 155 7 rfl).trans (y101 155 7))) (nq_cp (c := 177) (c' := 177) (o := 0) (o' := 0) (fun j hj => ((hR105 177 _ rfl).trans (y101 177 _)))) (nq_cp (c := 177) (c' := 177) (o := 476) (o' := 476) (fun j hj => ((hR105 177 _ rfl).trans (y101 177 _))))) (by omega)
   by_cases h106 : z17 = 5
   ·
    refine jx_tswI c1 hm 388 rfl ⟨by omega, by omega⟩ (by rw [h106] <;> rfl) rfl ?_
    refine jx_load c1 hm rfl rfl rfl rfl ?_
    refine jx_load c1 hm rfl rfl rfl rfl ?_
    refine jx_load c1 hm rfl rfl rfl rfl ?_
    refine jy_ic c1 hm rfl (by decide) ?_
    refine jy_add c1 hm (b1 + 1) rfl (by omega) ?_
    obtain ⟨z107, kz107, lz107, uz107⟩ := hf ((b1 + 1)).toNat
    refine jx_sald c1 hm rfl ⟨by omega, by omega⟩ kz107 ?_
    refine jx_load c1 hm rfl rfl rfl rfl ?_
    refine jx_load c1 hm rfl rfl rfl rfl ?_
    refine jy_ic c1 hm rfl (by decide) ?_
    refine jy_add c1 hm (b1 + 2) rfl (by omega) ?_
    obtain ⟨z108, kz108, lz108, uz108⟩ := hf ((b1 + 2)).toNat
    refine jx_sald c1 hm rfl ⟨by omega, by omega⟩ kz108 ?_
    refine jv_i c3 hm rfl (plp pj_X11_cost rfl) rfl rfl ⟨_, _, _, rfl, sh_0⟩ rfl ((ct_X11_cost_0 (X + 8000 * b1) (by omega) M4 hH4 z107 ⟨by omega, by omega⟩ z108 ⟨by omega, by omega⟩).le (by decide)) (fun z109 _ ⟨rfl, lz109, uz109⟩ => ?_)
    refine jx_pop c1 hm rfl rfl ?_
    refine jx_load c1 hm rfl rfl rfl rfl ?_
    refine jx_load c1 hm rfl rfl rfl rfl ?_
    refine jx_load c1 hm rfl rfl rfl rfl ?_
    refine jy_ic c1 hm rfl (by decide) ?_
    refine jy_add c1 hm (b1 + 1) rfl (by omega) ?_
    obtain ⟨z110, kz110, lz110, uz110⟩ := hf ((b1 + 1)).toNat
    refine jx_sald c1 hm rfl ⟨by omega, by omega⟩ kz110 ?_
    refine jx_load c1 hm rfl rfl rfl rfl ?_
    refine jx_load c1 hm rfl rfl rfl rfl ?_
    refine jy_ic c1 hm rfl (by decide) ?_
    refine jy_add c1 hm (b1 + 2) rfl (by omega) ?_
    obtain ⟨z111, kz111, lz111, uz111⟩ := hf ((b1 + 2)).toNat
    refine jx_sald c1 hm rfl ⟨by omega, by omega⟩ kz111 ?_
    refine jv_i c3 hm rfl (plp pj_X12_cost rfl) rfl rfl ⟨_, _, _, rfl, sh_173⟩ rfl ((ct_X12_cost_173 (X + 8000 * b1) (by omega) M4 hH4 z110 ⟨by omega, by omega⟩ z111 ⟨by omega, by omega⟩).le (by decide)) (fun z112 M113 ⟨hH113, hR113, lz112, uz112⟩ => ?_)
    refine jx_pop c1 hm rfl rfl ?_
    refine jx_goto c1 hm 1445 rfl rfl ?_
    refine jx_iinc c1 hm (v := (b1 + 6)) (L' := [some (.inr (.inr (.inr 0))), some (.inr (.inr (.inl 0))), some (.inr (.inr (.inl 173))), some (.inr (.inr (.inl 198))), some (.inl (b1 + 6)), o2, o3]) rfl rfl (by omega) (by omega) rfl ?_
    refine jx_goto c1 hm 23 rfl rfl ?_
    exact ihW13 (b1 + 6) (by omega) o2 ho2 o3 ho3 M113 (hH113.mono (by omega) (by omega)) k (by omega) (SOK.cg hs1 (fun j h1 h2 => (hR113 175 j rfl))) (KOK.cg hs2 (fun j h1 h2 => (hR113 177 j rfl))) (KOK.cg hs3 (fun j h1 h2 => (hR113 177 j rfl))) (TPQ.cg hs4 (hR113 0 2 rfl) (hR113 173 2 rfl)) (TBQ.cg hs5 (fun j => (hR113 2 j rfl)) (fun j => (hR113 174 j rfl))) (IMG.cg hs6 (fun j => (hR113 46 j rfl)) (fun j => (hR113 183 j rfl))) (CNQ.cg hs7 (dq_cg (d := 5) (fun j => (hR113 6 j rfl)) (hR113 5 6 rfl) (hR113 5 7 rfl)) (nq_cp (c := 175) (c' := 175) (o := 0) (o' := 0) (fun j hj => (hR113 175 _ rfl)))) (IMQ.cg hs8 (fun j => (hR113 46 j rfl)) (dq_cg (d := 137) (fun j => (hR113 138 j rfl)) (hR113 137 6 rfl) (hR113 137 7 rfl)) (dq_cg (d := 155) (fun j => (hR113 156 j rfl)) (hR113 155 6 rfl) (hR113 155 7 rfl)) (nq_cp (c := 177) (c' := 177) (o := 0) (o' := 0) (fun j hj => (hR113 177 _ rfl))) (nq_cp (c := 177) (c' := 177) (o := 476) (o' := 476) (fun j hj => (hR113 177 _ rfl)))) (by omega)
   by_cases h114 : z17 = 6
   ·
    refine jx_tswI c1 hm 425 rfl ⟨by omega, by omega⟩ (by rw [h114] <;> rfl) rfl ?_
    refine jx_load c1 hm rfl rfl rfl rfl ?_
    refine jx_load c1 hm rfl rfl rfl rfl ?_
    refine jx_load c1 hm rfl rfl rfl rfl ?_
    refine jy_ic c1 hm rfl (by decide) ?_
    refine jy_add c1 hm (b1 + 1) rfl (by omega) ?_
    obtain ⟨z115, kz115, lz115, uz115⟩ := hf ((b1 + 1)).toNat
    refine jx_sald c1 hm rfl ⟨by omega, by omega⟩ kz115 ?_
    refine jx_load c1 hm rfl rfl rfl rfl ?_
    refine jx_load c1 hm rfl rfl rfl rfl ?_
    refine jy_ic c1 hm rfl (by decide) ?_
    refine jy_add c1 hm (b1 + 2) rfl (by omega) ?_
    obtain ⟨z116, kz116, lz116, uz116⟩ := hf ((b1 + 2)).toNat
    refine jx_sald c1 hm rfl ⟨by omega, by omega⟩ kz116 ?_
    refine jv_i c3 hm rfl (plp pj_X11_times rfl) rfl rfl ⟨_, _, _, rfl, sh_0⟩ rfl ((ct_X11_times_0 (X + 8000 * b1) (by omega) M4 hH4 z115 ⟨by omega, by omega⟩ z116 ⟨by omega, by omega⟩).le (by decide)) (fun z117 _ ⟨rfl, lz117, uz117⟩ => ?_)
    refine jx_pop c1 hm rfl rfl ?_
    refine jx_load c1 hm rfl rfl rfl rfl ?_
    refine jx_load c1 hm rfl rfl rfl rfl ?_
    refine jx_load c1 hm rfl rfl rfl rfl ?_
    refine jy_ic c1 hm rfl (by decide) ?_
    refine jy_add c1 hm (b1 + 1) rfl (by omega) ?_
    obtain ⟨z118, kz118, lz118, uz118⟩ := hf ((b1 + 1)).toNat
    refine jx_sald c1 hm rfl ⟨by omega, by omega⟩ kz118 ?_
    refine jx_load c1 hm rfl rfl rfl rfl ?_
    refine jx_load c1 hm rfl rfl rfl rfl ?_
    refine jy_ic c1 hm rfl (by decide) ?_
    refine jy_add c1 hm (b1 + 2) rfl (by omega) ?_
    obtain ⟨z119, kz119, lz119, uz119⟩ := hf ((b1 + 2)).toNat
    refine jx_sald c1 hm rfl ⟨by omega, by omega⟩ kz119 ?_
    refine jv_i c3 hm rfl (plp pj_X12_times rfl) rfl rfl ⟨_, _, _, rfl, sh_173⟩ rfl ((ct_X12_times_173 (X + 8000 * b1) (by omega) M4 hH4 z118 ⟨by omega, by omega⟩ z119 ⟨by omega, by omega⟩).le (by decide)) (fun z120 M121 ⟨hH121, hR121, lz120, uz120⟩ => ?_)
    refine jx_pop c1 hm rfl rfl ?_
    refine jx_goto c1 hm 1445 rfl rfl ?_
    refine jx_iinc c1 hm (v := (b1 + 6)) (L' := [some (.inr (.inr (.inr 0))), some (.inr (.inr (.inl 0))), some (.inr (.inr (.inl 173))), some (.inr (.inr (.inl 198))), some (.inl (b1 + 6)), o2, o3]) rfl rfl (by omega) (by omega) rfl ?_
    refine jx_goto c1 hm 23 rfl rfl ?_
    exact ihW13 (b1 + 6) (by omega) o2 ho2 o3 ho3 M121 (hH121.mono (by omega) (by omega)) k (by omega) (SOK.cg hs1 (fun j h1 h2 => (hR121 175 j rfl))) (KOK.cg hs2 (fun j h1 h2 => (hR121 177 j rfl))) (KOK.cg hs3 (fun j h1 h2 => (hR121 177 j rfl))) (TPQ.cg hs4 (hR121 0 2 rfl) (hR121 173 2 rfl)) (TBQ.cg hs5 (fun j => (hR121 2 j rfl)) (fun j => (hR121 174 j rfl))) (IMG.cg hs6 (fun j => (hR121 46 j rfl)) (fun j => (hR121 183 j rfl))) (CNQ.cg hs7 (dq_cg (d := 5) (fun j => (hR121 6 j rfl)) (hR121 5 6 rfl) (hR121 5 7 rfl)) (nq_cp (c := 175) (c' := 175) (o := 0) (o' := 0) (fun j hj => (hR121 175 _ rfl)))) (IMQ.cg hs8 (fun j => (hR121 46 j rfl)) (dq_cg (d := 137) (fun j => (hR121 138 j rfl)) (hR121 137 6 rfl) (hR121 137 7 rfl)) (dq_cg (d := 155) (fun j => (hR121 156 j rfl)) (hR121 155 6 rfl) (hR121 155 7 rfl)) (nq_cp (c := 177) (c' := 177) (o := 0) (o' := 0) (fun j hj => (hR121 177 _ rfl))) (nq_cp (c := 177) (c' := 177) (o := 476) (o' := 476) (fun j hj => (hR121 177 _ rfl)))) (by omega)
   by_cases h122 : z17 = 7
   ·
    refine jx_tswI c1 hm 462 rfl ⟨by omega, by omega⟩ (by rw [h122] <;> rfl) rfl ?_
    refine jx_load c1 hm rfl rfl rfl rfl ?_
    refine jx_load c1 hm rfl rfl rfl rfl ?_
    refine jx_load c1 hm rfl rfl rfl rfl ?_
    refine jy_ic c1 hm rfl (by decide) ?_
    refine jy_add c1 hm (b1 + 1) rfl (by omega) ?_
    obtain ⟨z123, kz123, lz123, uz123⟩ := hf ((b1 + 1)).toNat
    refine jx_sald c1 hm rfl ⟨by omega, by omega⟩ kz123 ?_
    refine jx_load c1 hm rfl rfl rfl rfl ?_
    refine jx_load c1 hm rfl rfl rfl rfl ?_
    refine jy_ic c1 hm rfl (by decide) ?_
    refine jy_add c1 hm (b1 + 2) rfl (by omega) ?_
    obtain ⟨z124, kz124, lz124, uz124⟩ := hf ((b1 + 2)).toNat
    refine jx_sald c1 hm rfl ⟨by omega, by omega⟩ kz124 ?_
    refine jv_i c3 hm rfl (plp pj_X11_bought rfl) rfl rfl ⟨_, _, _, rfl, sh_0⟩ rfl ((ct_X11_bought_0 (X + 8000 * b1) (by omega) M4 hH4 z123 ⟨by omega, by omega⟩ z124 ⟨by omega, by omega⟩).le (by decide)) (fun z125 _ ⟨rfl, lz125, uz125⟩ => ?_)
    refine jx_pop c1 hm rfl rfl ?_
    refine jx_load c1 hm rfl rfl rfl rfl ?_
    refine jx_load c1 hm rfl rfl rfl rfl ?_
    refine jx_load c1 hm rfl rfl rfl rfl ?_
    refine jy_ic c1 hm rfl (by decide) ?_
    refine jy_add c1 hm (b1 + 1) rfl (by omega) ?_
    obtain ⟨z126, kz126, lz126, uz126⟩ := hf ((b1 + 1)).toNat
    refine jx_sald c1 hm rfl ⟨by omega, by omega⟩ kz126 ?_
    refine jx_load c1 hm rfl rfl rfl rfl ?_
    refine jx_load c1 hm rfl rfl rfl rfl ?_
    refine jy_ic c1 hm rfl (by decide) ?_
    refine jy_add c1 hm (b1 + 2) rfl (by omega) ?_
    obtain ⟨z127, kz127, lz127, uz127⟩ := hf ((b1 + 2)).toNat
    refine jx_sald c1 hm rfl ⟨by omega, by omega⟩ kz127 ?_
    refine jv_i c3 hm rfl (plp pj_X12_bought rfl) rfl rfl ⟨_, _, _, rfl, sh_173⟩ rfl ((ct_X12_bought_173 (X + 8000 * b1) (by omega) M4 hH4 z126 ⟨by omega, by omega⟩ z127 ⟨by omega, by omega⟩).le (by decide)) (fun z128 M129 ⟨hH129, hR129, lz128, uz128⟩ => ?_)
    refine jx_pop c1 hm rfl rfl ?_
    refine jx_goto c1 hm 1445 rfl rfl ?_
    refine jx_iinc c1 hm (v := (b1 + 6)) (L' := [some (.inr (.inr (.inr 0))), some (.inr (.inr (.inl 0))), some (.inr (.inr (.inl 173))), some (.inr (.inr (.inl 198))), some (.inl (b1 + 6)), o2, o3]) rfl rfl (by omega) (by omega) rfl ?_
    refine jx_goto c1 hm 23 rfl rfl ?_
    exact ihW13 (b1 + 6) (by omega) o2 ho2 o3 ho3 M129 (hH129.mono (by omega) (by omega)) k (by omega) (SOK.cg hs1 (fun j h1 h2 => (hR129 175 j rfl))) (KOK.cg hs2 (fun j h1 h2 => (hR129 177 j rfl))) (KOK.cg hs3 (fun j h1 h2 => (hR129 177 j rfl))) (TPQ.cg hs4 (hR129 0 2 rfl) (hR129 173 2 rfl)) (TBQ.cg hs5 (fun j => (hR129 2 j rfl)) (fun j => (hR129 174 j rfl))) (IMG.cg hs6 (fun j => (hR129 46 j rfl)) (fun j => (hR129 183 j rfl))) (CNQ.cg hs7 (dq_cg (d := 5) (fun j => (hR129 6 j rfl)) (hR129 5 6 rfl) (hR129 5 7 rfl)) (nq_cp (c := 175) (c' := 175) (o := 0) (o' := 0) (fun j hj => (hR129 175 _ rfl)))) (IMQ.cg hs8 (fun j => (hR129 46 j rfl)) (dq_cg (d := 137) (fun j => (hR129 138 j rfl)) (hR129 137 6 rfl) (hR129 137 7 rfl)) (dq_cg (d := 155) (fun j => (hR129 156 j rfl)) (hR129 155 6 rfl) (hR129 155 7 rfl)) (nq_cp (c := 177) (c' := 177) (o := 0) (o' := 0) (fun j hj => (hR129 177 _ rfl))) (nq_cp (c := 177) (c' := 177) (o := 476) (o' := 476) (fun j hj => (hR129 177 _ rfl)))) (by omega)
   by_cases h130 : z17 = 8
   ·
    refine jx_tswI c1 hm 499 rfl ⟨by omega, by omega⟩ (by rw [h130] <;> rfl) rfl ?_
    refine jx_load c1 hm rfl rfl rfl rfl ?_
    refine jx_load c1 hm rfl rfl rfl rfl ?_
    refine jx_load c1 hm rfl rfl rfl rfl ?_
    refine jy_ic c1 hm rfl (by decide) ?_
    refine jy_add c1 hm (b1 + 1) rfl (by omega) ?_
    obtain ⟨z131, kz131, lz131, uz131⟩ := hf ((b1 + 1)).toNat
    refine jx_sald c1 hm rfl ⟨by omega, by omega⟩ kz131 ?_
    refine jx_load c1 hm rfl rfl rfl rfl ?_
    refine jx_load c1 hm rfl rfl rfl rfl ?_
    refine jy_ic c1 hm rfl (by decide) ?_
    refine jy_add c1 hm (b1 + 2) rfl (by omega) ?_
    obtain ⟨z132, kz132, lz132, uz132⟩ := hf ((b1 + 2)).toNat
    refine jx_sald c1 hm rfl ⟨by omega, by omega⟩ kz132 ?_
    refine jv_i c3 hm rfl (plp pj_X11_good rfl) rfl rfl ⟨_, _, _, rfl, sh_0⟩ rfl ((ct_X11_good_0 (X + 8000 * b1) (by omega) M4 hH4 z131 ⟨by omega, by omega⟩ z132 ⟨by omega, by omega⟩).le (by decide)) (fun z133 _ ⟨rfl, lz133, uz133⟩ => ?_)
    refine jx_pop c1 hm rfl rfl ?_
    refine jx_load c1 hm rfl rfl rfl rfl ?_
    refine jx_load c1 hm rfl rfl rfl rfl ?_
    refine jx_load c1 hm rfl rfl rfl rfl ?_
    refine jy_ic c1 hm rfl (by decide) ?_
    refine jy_add c1 hm (b1 + 1) rfl (by omega) ?_
    obtain ⟨z134, kz134, lz134, uz134⟩ := hf ((b1 + 1)).toNat
    refine jx_sald c1 hm rfl ⟨by omega, by omega⟩ kz134 ?_
    refine jx_load c1 hm rfl rfl rfl rfl ?_
    refine jx_load c1 hm rfl rfl rfl rfl ?_
    refine jy_ic c1 hm rfl (by decide) ?_
    refine jy_add c1 hm (b1 + 2) rfl (by omega) ?_
    obtain ⟨z135, kz135, lz135, uz135⟩ := hf ((b1 + 2)).toNat
    refine jx_sald c1 hm rfl ⟨by omega, by omega⟩ kz135 ?_
    refine jv_i c3 hm rfl (plp pj_X12_good rfl) rfl rfl ⟨_, _, _, rfl, sh_173⟩ rfl ((ct_X12_good_173 (X + 8000 * b1) (by omega) M4 hH4 z134 ⟨by omega, by omega⟩ z135 ⟨by omega, by omega⟩).le (by decide)) (fun z136 M137 ⟨hH137, hR137, lz136, uz136⟩ => ?_)
    refine jx_pop c1 hm rfl rfl ?_
    refine jx_goto c1 hm 1445 rfl rfl ?_
    refine jx_iinc c1 hm (v := (b1 + 6)) (L' := [some (.inr (.inr (.inr 0))), some (.inr (.inr (.inl 0))), some (.inr (.inr (.inl 173))), some (.inr (.inr (.inl 198))), some (.inl (b1 + 6)), o2, o3]) rfl rfl (by omega) (by omega) rfl ?_
    refine jx_goto c1 hm 23 rfl rfl ?_
    exact ihW13 (b1 + 6) (by omega) o2 ho2 o3 ho3 M137 (hH137.mono (by omega) (by omega)) k (by omega) (SOK.cg hs1 (fun j h1 h2 => (hR137 175 j rfl))) (KOK.cg hs2 (fun j h1 h2 => (hR137 177 j rfl))) (KOK.cg hs3 (fun j h1 h2 => (hR137 177 j rfl))) (TPQ.cg hs4 (hR137 0 2 rfl) (hR137 173 2 rfl)) (TBQ.cg hs5 (fun j => (hR137 2 j rfl)) (fun j => (hR137 174 j rfl))) (IMG.cg hs6 (fun j => (hR137 46 j rfl)) (fun j => (hR137 183 j rfl))) (CNQ.cg hs7 (dq_cg (d := 5) (fun j => (hR137 6 j rfl)) (hR137 5 6 rfl) (hR137 5 7 rfl)) (nq_cp (c := 175) (c' := 175) (o := 0) (o' := 0) (fun j hj => (hR137 175 _ rfl)))) (IMQ.cg hs8 (fun j => (hR137 46 j rfl)) (dq_cg (d := 137) (fun j => (hR137 138 j rfl)) (hR137 137 6 rfl) (hR137 137 7 rfl)) (dq_cg (d := 155) (fun j => (hR137 156 j rfl)) (hR137 155 6 rfl) (hR137 155 7 rfl)) (nq_cp (c := 177) (c' := 177) (o := 0) (o' := 0) (fun j hj => (hR137 177 _ rfl))) (nq_cp (c := 177) (c' := 177) (o := 476) (o' := 476) (fun j hj => (hR137 177 _ rfl)))) (by omega)
   by_cases h138 : z17 = 9
   ·
    refine jx_tswI c1 hm 536 rfl ⟨by omega, by omega⟩ (by rw [h138] <;> rfl) rfl ?_
    refine jx_load c1 hm rfl rfl rfl rfl ?_
    refine jx_load c1 hm rfl rfl rfl rfl ?_
    refine jx_load c1 hm rfl rfl rfl rfl ?_
    refine jy_ic c1 hm rfl (by decide) ?_
    refine jy_add c1 hm (b1 + 1) rfl (by omega) ?_
    obtain ⟨z139, kz139, lz139, uz139⟩ := hf ((b1 + 1)).toNat
    refine jx_sald c1 hm rfl ⟨by omega, by omega⟩ kz139 ?_
    refine jx_load c1 hm rfl rfl rfl rfl ?_
    refine jx_load c1 hm rfl rfl rfl rfl ?_
    refine jy_ic c1 hm rfl (by decide) ?_
    refine jy_add c1 hm (b1 + 2) rfl (by omega) ?_
    obtain ⟨z140, kz140, lz140, uz140⟩ := hf ((b1 + 2)).toNat
    refine jx_sald c1 hm rfl ⟨by omega, by omega⟩ kz140 ?_
    refine jv_i c3 hm rfl (plp pj_X11_owes rfl) rfl rfl ⟨_, _, _, rfl, sh_0⟩ rfl ((ct_X11_owes_0 (X + 8000 * b1) (by omega) M4 hH4 z139 ⟨by omega, by omega⟩ z140 ⟨by omega, by omega⟩).le (by decide)) (fun z141 _ ⟨rfl, lz141, uz141⟩ => ?_)
    refine jx_pop c1 hm rfl rfl ?_
    refine jx_load c1 hm rfl rfl rfl rfl ?_
    refine jx_load c1 hm rfl rfl rfl rfl ?_
    refine jx_load c1 hm rfl rfl rfl rfl ?_
    refine jy_ic c1 hm rfl (by decide) ?_
    refine jy_add c1 hm (b1 + 1) rfl (by omega) ?_
    obtain ⟨z142, kz142, lz142, uz142⟩ := hf ((b1 + 1)).toNat
    refine jx_sald c1 hm rfl ⟨by omega, by omega⟩ kz142 ?_
    refine jx_load c1 hm rfl rfl rfl rfl ?_
    refine jx_load c1 hm rfl rfl rfl rfl ?_
    refine jy_ic c1 hm rfl (by decide) ?_
    refine jy_add c1 hm (b1 + 2) rfl (by omega) ?_
    obtain ⟨z143, kz143, lz143, uz143⟩ := hf ((b1 + 2)).toNat
    refine jx_sald c1 hm rfl ⟨by omega, by omega⟩ kz143 ?_
    refine jv_i c3 hm rfl (plp pj_X12_owes rfl) rfl rfl ⟨_, _, _, rfl, sh_173⟩ rfl ((ct_X12_owes_173 (X + 8000 * b1) (by omega) M4 hH4 z142 ⟨by omega, by omega⟩ z143 ⟨by omega, by omega⟩).le (by decide)) (fun z144 M145 ⟨hH145, hR145, lz144, uz144⟩ => ?_)
    refine jx_pop c1 hm rfl rfl ?_
    refine jx_goto c1 hm 1445 rfl rfl ?_
    refine jx_iinc c1 hm (v := (b1 + 6)) (L' := [some (.inr (.inr (.inr 0))), some (.inr (.inr (.inl 0))), some (.inr (.inr (.inl 173))), some (.inr (.inr (.inl 198))), some (.inl (b1 + 6)), o2, o3]) rfl rfl (by omega) (by omega) rfl ?_
    refine jx_goto c1 hm 23 rfl rfl ?_
    exact ihW13 (b1 + 6) (by omega) o2 ho2 o3 ho3 M145 (hH145.mono (by omega) (by omega)) k (by omega) (SOK.cg hs1 (fun j h1 h2 => (hR145 175 j rfl))) (KOK.cg hs2 (fun j h1 h2 => (hR145 177 j rfl))) (KOK.cg hs3 (fun j h1 h2 => (hR145 177 j rfl))) (TPQ.cg hs4 (hR145 0 2 rfl) (hR145 173 2 rfl)) (TBQ.cg hs5 (fun j => (hR145 2 j rfl)) (fun j => (hR145 174 j rfl))) (IMG.cg hs6 (fun j => (hR145 46 j rfl)) (fun j => (hR145 183 j rfl))) (CNQ.cg hs7 (dq_cg (d := 5) (fun j => (hR145 6 j rfl)) (hR145 5 6 rfl) (hR145 5 7 rfl)) (nq_cp (c := 175) (c' := 175) (o := 0) (o' := 0) (fun j hj => (hR145 175 _ rfl)))) (IMQ.cg hs8 (fun j => (hR145 46 j rfl)) (dq_cg (d := 137) (fun j => (hR145 138 j rfl)) (hR145 137 6 rfl) (hR145 137 7 rfl)) (dq_cg (d := 155) (fun j => (hR145 156 j rfl)) (hR145 155 6 rfl) (hR145 155 7 rfl)) (nq_cp (c := 177) (c' := 177) (o := 0) (o' := 0) (fun j hj => (hR145 177 _ rfl))) (nq_cp (c := 177) (c' := 177) (o := 476) (o' := 476) (fun j hj => (hR145 177 _ rfl)))) (by omega)
   by_cases h146 : z17 = 10
   ·
    refine jx_tswI c1 hm 573 rfl ⟨by omega, by omega⟩ (by rw [h146] <;> rfl) rfl ?_
    refine jx_load c1 hm rfl rfl rfl rfl ?_
    refine jx_load c1 hm rfl rfl rfl rfl ?_
    refine jx_load c1 hm rfl rfl rfl rfl ?_
    refine jy_ic c1 hm rfl (by decide) ?_
    refine jy_add c1 hm (b1 + 1) rfl (by omega) ?_
    obtain ⟨z147, kz147, lz147, uz147⟩ := hf ((b1 + 1)).toNat
    refine jx_sald c1 hm rfl ⟨by omega, by omega⟩ kz147 ?_
    refine jv_i c3 hm rfl (plp pj_X11_now rfl) rfl rfl ⟨_, _, _, rfl, sh_0⟩ rfl ((ct_X11_now_0 (X + 8000 * b1) (by omega) M4 hH4 z147 ⟨by omega, by omega⟩).le (by decide)) (fun z148 _ ⟨rfl, lz148, uz148⟩ => ?_)
    refine jx_pop c1 hm rfl rfl ?_
    refine jx_load c1 hm rfl rfl rfl rfl ?_
    refine jx_load c1 hm rfl rfl rfl rfl ?_
    refine jx_load c1 hm rfl rfl rfl rfl ?_
    refine jy_ic c1 hm rfl (by decide) ?_
    refine jy_add c1 hm (b1 + 1) rfl (by omega) ?_
    obtain ⟨z149, kz149, lz149, uz149⟩ := hf ((b1 + 1)).toNat
    refine jx_sald c1 hm rfl ⟨by omega, by omega⟩ kz149 ?_
    refine jv_i c3 hm rfl (plp pj_X12_now rfl) rfl rfl ⟨_, _, _, rfl, sh_173⟩ rfl ((ct_X12_now_173 (X + 8000 * b1) (by omega) M4 hH4 z149 ⟨by omega, by omega⟩).le (by decide)) (fun z150 M151 ⟨hH151, hR151, lz150, uz150⟩ => ?_)
    refine jx_pop c1 hm rfl rfl ?_
    refine jx_goto c1 hm 1445 rfl rfl ?_
    refine jx_iinc c1 hm (v := (b1 + 6)) (L' := [some (.inr (.inr (.inr 0))), some (.inr (.inr (.inl 0))), some (.inr (.inr (.inl 173))), some (.inr (.inr (.inl 198))), some (.inl (b1 + 6)), o2, o3]) rfl rfl (by omega) (by omega) rfl ?_
    refine jx_goto c1 hm 23 rfl rfl ?_
    exact ihW13 (b1 + 6) (by omega) o2 ho2 o3 ho3 M151 (hH151.mono (by omega) (by omega)) k (by omega) (SOK.cg hs1 (fun j h1 h2 => (hR151 175 j rfl))) (KOK.cg hs2 (fun j h1 h2 => (hR151 177 j rfl))) (KOK.cg hs3 (fun j h1 h2 => (hR151 177 j rfl))) (TPQ.cg hs4 (hR151 0 2 rfl) (hR151 173 2 rfl)) (TBQ.cg hs5 (fun j => (hR151 2 j rfl)) (fun j => (hR151 174 j rfl))) (IMG.cg hs6 (fun j => (hR151 46 j rfl)) (fun j => (hR151 183 j rfl))) (CNQ.cg hs7 (dq_cg (d := 5) (fun j => (hR151 6 j rfl)) (hR151 5 6 rfl) (hR151 5 7 rfl)) (nq_cp (c := 175) (c' := 175) (o := 0) (o' := 0) (fun j hj => (hR151 175 _ rfl)))) (IMQ.cg hs8 (fun j => (hR151 46 j rfl)) (dq_cg (d := 137) (fun j => (hR151 138 j rfl)) (hR151 137 6 rfl) (hR151 137 7 rfl)) (dq_cg (d := 155) (fun j => (hR151 156 j rfl)) (hR151 155 6 rfl) (hR151 155 7 rfl)) (nq_cp (c := 177) (c' := 177) (o := 0) (o' := 0) (fun j hj => (hR151 177 _ rfl))) (nq_cp (c := 177) (c' := 177) (o := 476) (o' := 476) (fun j hj => (hR151 177 _ rfl)))) (by omega)
   by_cases h152 : z17 = 11
   ·
    refine jx_tswI c1 hm 598 rfl ⟨by omega, by omega⟩ (by rw [h152] <;> rfl) rfl ?_
    refine jx_load c1 hm rfl rfl rfl rfl ?_
    refine jx_load c1 hm rfl rfl rfl rfl ?_
    refine jx_load c1 hm rfl rfl rfl rfl ?_
    refine jy_ic c1 hm rfl (by decide) ?_
    refine jy_add c1 hm (b1 + 1) rfl (by omega) ?_
    obtain ⟨z153, kz153, lz153, uz153⟩ := hf ((b1 + 1)).toNat
    refine jx_sald c1 hm rfl ⟨by omega, by omega⟩ kz153 ?_
    refine jx_load c1 hm rfl rfl rfl rfl ?_
    refine jx_load c1 hm rfl rfl rfl rfl ?_
    refine jy_ic c1 hm rfl (by decide) ?_
    refine jy_add c1 hm (b1 + 2) rfl (by omega) ?_
    obtain ⟨z154, kz154, lz154, uz154⟩ := hf ((b1 + 2)).toNat
    refine jx_sald c1 hm rfl ⟨by omega, by omega⟩ kz154 ?_
    refine jv_i c3 hm rfl (plp pj_X11_forfeit rfl) rfl rfl ⟨_, _, _, rfl, sh_0⟩ rfl ((ct_X11_forfeit_0 (X + 8000 * b1) (by omega) M4 hH4 z153 ⟨by omega, by omega⟩ z154 ⟨by omega, by omega⟩).le (by decide)) (fun z155 M156 ⟨hH156, hR156, lz155, uz155⟩ => ?_)
    refine jx_pop c1 hm rfl rfl ?_
    refine jx_load c1 hm rfl rfl rfl rfl ?_
    refine jx_load c1 hm rfl rfl rfl rfl ?_
    refine jx_load c1 hm rfl rfl rfl rfl ?_
    refine jy_ic c1 hm rfl (by decide) ?_
    refine jy_add c1 hm (b1 + 1) rfl (by omega) ?_
    obtain ⟨z157, kz157, lz157, uz157⟩ := hf ((b1 + 1)).toNat
    refine jx_sald c1 hm rfl ⟨by omega, by omega⟩ kz157 ?_
    refine jx_load c1 hm rfl rfl rfl rfl ?_
    refine jx_load c1 hm rfl rfl rfl rfl ?_
    refine jy_ic c1 hm rfl (by decide) ?_
    refine jy_add c1 hm (b1 + 2) rfl (by omega) ?_
    obtain ⟨z158, kz158, lz158, uz158⟩ := hf ((b1 + 2)).toNat
    refine jx_sald c1 hm rfl ⟨by omega, by omega⟩ kz158 ?_
    refine jv_i c3 hm rfl (plp pj_X12_forfeit rfl) rfl rfl ⟨_, _, _, rfl, sh_173⟩ rfl ((ct_X12_forfeit_173 (X + 8000 * b1 + 1) (by omega) M156 hH156 z157 ⟨by omega, by omega⟩ z158 ⟨by omega, by omega⟩).le (by decide)) (fun z159 M160 ⟨hH160, hR160, lz159, uz159⟩ => ?_)
    rw [show X + 8000 * b1 + 1 + 1 = X + 8000 * b1 + 2 by omega] at hH160
    refine jx_pop c1 hm rfl rfl ?_
    refine jx_goto c1 hm 1445 rfl rfl ?_
    refine jx_iinc c1 hm (v := (b1 + 6)) (L' := [some (.inr (.inr (.inr 0))), some (.inr (.inr (.inl 0))), some (.inr (.inr (.inl 173))), some (.inr (.inr (.inl 198))), some (.inl (b1 + 6)), o2, o3]) rfl rfl (by omega) (by omega) rfl ?_
    refine jx_goto c1 hm 23 rfl rfl ?_
    exact ihW13 (b1 + 6) (by omega) o2 ho2 o3 ho3 M160 (hH160.mono (by omega) (by omega)) k (by omega) (SOK.cg hs1 (fun j h1 h2 => ((hR160 175 j (jin_hi (b := 234) (by decide +kernel) h1)).trans (hR156 175 j rfl)))) (KOK.cg hs2 (fun j h1 h2 => ((hR160 177 j rfl).trans (hR156 177 j rfl)))) (KOK.cg hs3 (fun j h1 h2 => ((hR160 177 j rfl).trans (hR156 177 j rfl)))) (TPQ.cg hs4 ((hR160 0 2 rfl).trans (hR156 0 2 rfl)) ((hR160 173 2 rfl).trans (hR156 173 2 rfl))) (TBQ.cg hs5 (fun j => ((hR160 2 j rfl).trans (hR156 2 j rfl))) (fun j => ((hR160 174 j rfl).trans (hR156 174 j rfl)))) (IMG.cg hs6 (fun j => ((hR160 46 j rfl).trans (hR156 46 j rfl))) (fun j => ((hR160 183 j rfl).trans (hR156 183 j rfl)))) (CNQ.cg hs7 (dq_cg (d := 5) (fun j => ((hR160 6 j rfl).trans (hR156 6 j rfl))) ((hR160 5 6 rfl).trans (hR156 5 6 rfl)) ((hR160 5 7 rfl).trans (hR156 5 7 rfl))) (nq_cp (c := 175) (c' := 175) (o := 0) (o' := 0) (fun j hj => ((hR160 175 _ (jin_lo (b := 5) (by decide +kernel) (by omega))).trans (hR156 175 _ rfl))))) (IMQ.cg hs8 (fun j => ((hR160 46 j rfl).trans (hR156 46 j rfl))) (dq_cg (d := 137) (fun j => ((hR160 138 j rfl).trans (hR156 138 j rfl))) ((hR160 137 6 rfl).trans (hR156 137 6 rfl)) ((hR160 137 7 rfl).trans (hR156 137 7 rfl))) (dq_cg (d := 155) (fun j => ((hR160 156 j rfl).trans (hR156 156 j rfl))) ((hR160 155 6 rfl).trans (hR156 155 6 rfl)) ((hR160 155 7 rfl).trans (hR156 155 7 rfl))) (nq_cp (c := 177) (c' := 177) (o := 0) (o' := 0) (fun j hj => ((hR160 177 _ rfl).trans (hR156 177 _ rfl)))) (nq_cp (c := 177) (c' := 177) (o := 476) (o' := 476) (fun j hj => ((hR160 177 _ rfl).trans (hR156 177 _ rfl))))) (by omega)
   by_cases h161 : z17 = 12
   ·
    refine jx_tswI c1 hm 635 rfl ⟨by omega, by omega⟩ (by rw [h161] <;> rfl) rfl ?_
    refine jx_load c1 hm rfl rfl rfl rfl ?_
    refine jx_load c1 hm rfl rfl rfl rfl ?_
    refine jx_load c1 hm rfl rfl rfl rfl ?_
    refine jy_ic c1 hm rfl (by decide) ?_
    refine jy_add c1 hm (b1 + 1) rfl (by omega) ?_
    obtain ⟨z162, kz162, lz162, uz162⟩ := hf ((b1 + 1)).toNat
    refine jx_sald c1 hm rfl ⟨by omega, by omega⟩ kz162 ?_
    refine jx_load c1 hm rfl rfl rfl rfl ?_
    refine jx_load c1 hm rfl rfl rfl rfl ?_
    refine jy_ic c1 hm rfl (by decide) ?_
    refine jy_add c1 hm (b1 + 2) rfl (by omega) ?_
    obtain ⟨z163, kz163, lz163, uz163⟩ := hf ((b1 + 2)).toNat
    refine jx_sald c1 hm rfl ⟨by omega, by omega⟩ kz163 ?_
    refine jv_i c3 hm rfl (plp pj_X11_buy rfl) rfl rfl ⟨_, _, _, rfl, sh_0⟩ rfl ((ct_X11_buy_0 (X + 8000 * b1) (by omega) M4 hH4 z162 ⟨by omega, by omega⟩ z163 ⟨by omega, by omega⟩).le (by decide)) (fun z164 M165 ⟨hH165, hR165, lz164, uz164⟩ => ?_)
    refine jx_pop c1 hm rfl rfl ?_
    refine jx_load c1 hm rfl rfl rfl rfl ?_
    refine jx_load c1 hm rfl rfl rfl rfl ?_
    refine jx_load c1 hm rfl rfl rfl rfl ?_
    refine jy_ic c1 hm rfl (by decide) ?_
    refine jy_add c1 hm (b1 + 1) rfl (by omega) ?_
    obtain ⟨z166, kz166, lz166, uz166⟩ := hf ((b1 + 1)).toNat
    refine jx_sald c1 hm rfl ⟨by omega, by omega⟩ kz166 ?_
    refine jx_load c1 hm rfl rfl rfl rfl ?_
    refine jx_load c1 hm rfl rfl rfl rfl ?_
    refine jy_ic c1 hm rfl (by decide) ?_
    refine jy_add c1 hm (b1 + 2) rfl (by omega) ?_
    obtain ⟨z167, kz167, lz167, uz167⟩ := hf ((b1 + 2)).toNat
    refine jx_sald c1 hm rfl ⟨by omega, by omega⟩ kz167 ?_
    refine jv_i c3 hm rfl (plp pj_X12_buy rfl) rfl rfl ⟨_, _, _, rfl, sh_173⟩ rfl ((ct_X12_buy_173 (X + 8000 * b1 + 1) (by omega) M165 hH165 z166 ⟨by omega, by omega⟩ z167 ⟨by omega, by omega⟩).le (by decide)) (fun z168 M169 ⟨hH169, hR169, lz168, uz168⟩ => ?_)
    rw [show X + 8000 * b1 + 1 + 1 = X + 8000 * b1 + 2 by omega] at hH169
    refine jx_pop c1 hm rfl rfl ?_
    refine jx_goto c1 hm 1445 rfl rfl ?_
    refine jx_iinc c1 hm (v := (b1 + 6)) (L' := [some (.inr (.inr (.inr 0))), some (.inr (.inr (.inl 0))), some (.inr (.inr (.inl 173))), some (.inr (.inr (.inl 198))), some (.inl (b1 + 6)), o2, o3]) rfl rfl (by omega) (by omega) rfl ?_
    refine jx_goto c1 hm 23 rfl rfl ?_
    exact ihW13 (b1 + 6) (by omega) o2 ho2 o3 ho3 M169 (hH169.mono (by omega) (by omega)) k (by omega) (SOK.cg hs1 (fun j h1 h2 => ((hR169 175 j (jin_hi (b := 234) (by decide +kernel) h1)).trans (hR165 175 j rfl)))) (KOK.cg hs2 (fun j h1 h2 => ((hR169 177 j rfl).trans (hR165 177 j rfl)))) (KOK.cg hs3 (fun j h1 h2 => ((hR169 177 j rfl).trans (hR165 177 j rfl)))) (TPQ.cg hs4 ((hR169 0 2 rfl).trans (hR165 0 2 rfl)) ((hR169 173 2 rfl).trans (hR165 173 2 rfl))) (TBQ.cg hs5 (fun j => ((hR169 2 j rfl).trans (hR165 2 j rfl))) (fun j => ((hR169 174 j rfl).trans (hR165 174 j rfl)))) (IMG.cg hs6 (fun j => ((hR169 46 j rfl).trans (hR165 46 j rfl))) (fun j => ((hR169 183 j rfl).trans (hR165 183 j rfl)))) (CNQ.cg hs7 (dq_cg (d := 5) (fun j => ((hR169 6 j rfl).trans (hR165 6 j rfl))) ((hR169 5 6 rfl).trans (hR165 5 6 rfl)) ((hR169 5 7 rfl).trans (hR165 5 7 rfl))) (nq_cp (c := 175) (c' := 175) (o := 0) (o' := 0) (fun j hj => ((hR169 175 _ (jin_lo (b := 5) (by decide +kernel) (by omega))).trans (hR165 175 _ rfl))))) (IMQ.cg hs8 (fun j => ((hR169 46 j rfl).trans (hR165 46 j rfl))) (dq_cg (d := 137) (fun j => ((hR169 138 j rfl).trans (hR165 138 j rfl))) ((hR169 137 6 rfl).trans (hR165 137 6 rfl)) ((hR169 137 7 rfl).trans (hR165 137 7 rfl))) (dq_cg (d := 155) (fun j => ((hR169 156 j rfl).trans (hR165 156 j rfl))) ((hR169 155 6 rfl).trans (hR165 155 6 rfl)) ((hR169 155 7 rfl).trans (hR165 155 7 rfl))) (nq_cp (c := 177) (c' := 177) (o := 0) (o' := 0) (fun j hj => ((hR169 177 _ rfl).trans (hR165 177 _ rfl)))) (nq_cp (c := 177) (c' := 177) (o := 476) (o' := 476) (fun j hj => ((hR169 177 _ rfl).trans (hR165 177 _ rfl))))) (by omega)
   by_cases h170 : z17 = 13
   ·
    refine jx_tswI c1 hm 672 rfl ⟨by omega, by omega⟩ (by rw [h170] <;> rfl) rfl ?_
    refine jx_load c1 hm rfl rfl rfl rfl ?_
    refine jx_load c1 hm rfl rfl rfl rfl ?_
    refine jx_load c1 hm rfl rfl rfl rfl ?_
    refine jy_ic c1 hm rfl (by decide) ?_
    refine jy_add c1 hm (b1 + 1) rfl (by omega) ?_
    obtain ⟨z171, kz171, lz171, uz171⟩ := hf ((b1 + 1)).toNat
    refine jx_sald c1 hm rfl ⟨by omega, by omega⟩ kz171 ?_
    refine jx_load c1 hm rfl rfl rfl rfl ?_
    refine jx_load c1 hm rfl rfl rfl rfl ?_
    refine jy_ic c1 hm rfl (by decide) ?_
    refine jy_add c1 hm (b1 + 2) rfl (by omega) ?_
    obtain ⟨z172, kz172, lz172, uz172⟩ := hf ((b1 + 2)).toNat
    refine jx_sald c1 hm rfl ⟨by omega, by omega⟩ kz172 ?_
    refine jx_load c1 hm rfl rfl rfl rfl ?_
    refine jx_load c1 hm rfl rfl rfl rfl ?_
    refine jy_ic c1 hm rfl (by decide) ?_
    refine jy_add c1 hm (b1 + 3) rfl (by omega) ?_
    obtain ⟨z173, kz173, lz173, uz173⟩ := hf ((b1 + 3)).toNat
    refine jx_sald c1 hm rfl ⟨by omega, by omega⟩ kz173 ?_
    refine jv_i c3 hm rfl (plp pj_X11_lend rfl) rfl rfl ⟨_, _, _, rfl, sh_0⟩ rfl ((ct_X11_lend_0 (X + 8000 * b1) (by omega) M4 hH4 z171 ⟨by omega, by omega⟩ z172 ⟨by omega, by omega⟩ z173 ⟨by omega, by omega⟩).le (by decide)) (fun z174 M175 ⟨hH175, hR175, lz174, uz174⟩ => ?_)
    refine jx_pop c1 hm rfl rfl ?_
    refine jx_load c1 hm rfl rfl rfl rfl ?_
    refine jx_load c1 hm rfl rfl rfl rfl ?_
    refine jx_load c1 hm rfl rfl rfl rfl ?_
    refine jy_ic c1 hm rfl (by decide) ?_
    refine jy_add c1 hm (b1 + 1) rfl (by omega) ?_
    obtain ⟨z176, kz176, lz176, uz176⟩ := hf ((b1 + 1)).toNat
    refine jx_sald c1 hm rfl ⟨by omega, by omega⟩ kz176 ?_
    refine jx_load c1 hm rfl rfl rfl rfl ?_
    refine jx_load c1 hm rfl rfl rfl rfl ?_
    refine jy_ic c1 hm rfl (by decide) ?_
    refine jy_add c1 hm (b1 + 2) rfl (by omega) ?_
    obtain ⟨z177, kz177, lz177, uz177⟩ := hf ((b1 + 2)).toNat
    refine jx_sald c1 hm rfl ⟨by omega, by omega⟩ kz177 ?_
    refine jx_load c1 hm rfl rfl rfl rfl ?_
    refine jx_load c1 hm rfl rfl rfl rfl ?_
    refine jy_ic c1 hm rfl (by decide) ?_
    refine jy_add c1 hm (b1 + 3) rfl (by omega) ?_
    obtain ⟨z178, kz178, lz178, uz178⟩ := hf ((b1 + 3)).toNat
    refine jx_sald c1 hm rfl ⟨by omega, by omega⟩ kz178 ?_
    refine jv_i c3 hm rfl (plp pj_X12_lend rfl) rfl rfl ⟨_, _, _, rfl, sh_173⟩ rfl ((ct_X12_lend_173 (X + 8000 * b1 + 1) (by omega) M175 hH175 z176 ⟨by omega, by omega⟩ z177 ⟨by omega, by omega⟩ z178 ⟨by omega, by omega⟩).le (by decide)) (fun z179 M180 ⟨hH180, hR180, lz179, uz179⟩ => ?_)
    rw [show X + 8000 * b1 + 1 + 1 = X + 8000 * b1 + 2 by omega] at hH180
    refine jx_pop c1 hm rfl rfl ?_
    refine jx_goto c1 hm 1445 rfl rfl ?_
    refine jx_iinc c1 hm (v := (b1 + 6)) (L' := [some (.inr (.inr (.inr 0))), some (.inr (.inr (.inl 0))), some (.inr (.inr (.inl 173))), some (.inr (.inr (.inl 198))), some (.inl (b1 + 6)), o2, o3]) rfl rfl (by omega) (by omega) rfl ?_
    refine jx_goto c1 hm 23 rfl rfl ?_
    exact ihW13 (b1 + 6) (by omega) o2 ho2 o3 ho3 M180 (hH180.mono (by omega) (by omega)) k (by omega) (SOK.cg hs1 (fun j h1 h2 => ((hR180 175 j (jin_hi (b := 234) (by decide +kernel) h1)).trans (hR175 175 j rfl)))) (KOK.cg hs2 (fun j h1 h2 => ((hR180 177 j rfl).trans (hR175 177 j rfl)))) (KOK.cg hs3 (fun j h1 h2 => ((hR180 177 j rfl).trans (hR175 177 j rfl)))) (TPQ.cg hs4 ((hR180 0 2 rfl).trans (hR175 0 2 rfl)) ((hR180 173 2 rfl).trans (hR175 173 2 rfl))) (TBQ.cg hs5 (fun j => ((hR180 2 j rfl).trans (hR175 2 j rfl))) (fun j => ((hR180 174 j rfl).trans (hR175 174 j rfl)))) (IMG.cg hs6 (fun j => ((hR180 46 j rfl).trans (hR175 46 j rfl))) (fun j => ((hR180 183 j rfl).trans (hR175 183 j rfl)))) (CNQ.cg hs7 (dq_cg (d := 5) (fun j => ((hR180 6 j rfl).trans (hR175 6 j rfl))) ((hR180 5 6 rfl).trans (hR175 5 6 rfl)) ((hR180 5 7 rfl).trans (hR175 5 7 rfl))) (nq_cp (c := 175) (c' := 175) (o := 0) (o' := 0) (fun j hj => ((hR180 175 _ (jin_lo (b := 5) (by decide +kernel) (by omega))).trans (hR175 175 _ rfl))))) (IMQ.cg hs8 (fun j => ((hR180 46 j rfl).trans (hR175 46 j rfl))) (dq_cg (d := 137) (fun j => ((hR180 138 j rfl).trans (hR175 138 j rfl))) ((hR180 137 6 rfl).trans (hR175 137 6 rfl)) ((hR180 137 7 rfl).trans (hR175 137 7 rfl))) (dq_cg (d := 155) (fun j => ((hR180 156 j rfl).trans (hR175 156 j rfl))) ((hR180 155 6 rfl).trans (hR175 155 6 rfl)) ((hR180 155 7 rfl).trans (hR175 155 7 rfl))) (nq_cp (c := 177) (c' := 177) (o := 0) (o' := 0) (fun j hj => ((hR180 177 _ rfl).trans (hR175 177 _ rfl)))) (nq_cp (c := 177) (c' := 177) (o := 476) (o' := 476) (fun j hj => ((hR180 177 _ rfl).trans (hR175 177 _ rfl))))) (by omega)
   by_cases h181 : z17 = 14
   ·
    refine jx_tswI c1 hm 721 rfl ⟨by omega, by omega⟩ (by rw [h181] <;> rfl) rfl ?_
    refine jx_load c1 hm rfl rfl rfl rfl ?_
    refine jx_load c1 hm rfl rfl rfl rfl ?_
    refine jx_load c1 hm rfl rfl rfl rfl ?_
    refine jy_ic c1 hm rfl (by decide) ?_
    refine jy_add c1 hm (b1 + 1) rfl (by omega) ?_
    obtain ⟨z182, kz182, lz182, uz182⟩ := hf ((b1 + 1)).toNat
    refine jx_sald c1 hm rfl ⟨by omega, by omega⟩ kz182 ?_
    refine jx_load c1 hm rfl rfl rfl rfl ?_
    refine jx_load c1 hm rfl rfl rfl rfl ?_
    refine jy_ic c1 hm rfl (by decide) ?_
    refine jy_add c1 hm (b1 + 2) rfl (by omega) ?_
    obtain ⟨z183, kz183, lz183, uz183⟩ := hf ((b1 + 2)).toNat
    refine jx_sald c1 hm rfl ⟨by omega, by omega⟩ kz183 ?_
    refine jx_load c1 hm rfl rfl rfl rfl ?_
    refine jx_load c1 hm rfl rfl rfl rfl ?_
    refine jy_ic c1 hm rfl (by decide) ?_
    refine jy_add c1 hm (b1 + 3) rfl (by omega) ?_
    obtain ⟨z184, kz184, lz184, uz184⟩ := hf ((b1 + 3)).toNat
    refine jx_sald c1 hm rfl ⟨by omega, by omega⟩ kz184 ?_
    refine jv_i c3 hm rfl (plp pj_X11_repay rfl) rfl rfl ⟨_, _, _, rfl, sh_0⟩ rfl ((ct_X11_repay_0 (X + 8000 * b1) (by omega) M4 hH4 z182 ⟨by omega, by omega⟩ z183 ⟨by omega, by omega⟩ z184 ⟨by omega, by omega⟩).le (by decide)) (fun z185 M186 ⟨hH186, hR186, lz185, uz185⟩ => ?_)
    refine jx_pop c1 hm rfl rfl ?_
    refine jx_load c1 hm rfl rfl rfl rfl ?_
    refine jx_load c1 hm rfl rfl rfl rfl ?_
    refine jx_load c1 hm rfl rfl rfl rfl ?_
    refine jy_ic c1 hm rfl (by decide) ?_
    refine jy_add c1 hm (b1 + 1) rfl (by omega) ?_
    obtain ⟨z187, kz187, lz187, uz187⟩ := hf ((b1 + 1)).toNat
    refine jx_sald c1 hm rfl ⟨by omega, by omega⟩ kz187 ?_
    refine jx_load c1 hm rfl rfl rfl rfl ?_
    refine jx_load c1 hm rfl rfl rfl rfl ?_
    refine jy_ic c1 hm rfl (by decide) ?_
    refine jy_add c1 hm (b1 + 2) rfl (by omega) ?_
    obtain ⟨z188, kz188, lz188, uz188⟩ := hf ((b1 + 2)).toNat
    refine jx_sald c1 hm rfl ⟨by omega, by omega⟩ kz188 ?_
    refine jx_load c1 hm rfl rfl rfl rfl ?_
    refine jx_load c1 hm rfl rfl rfl rfl ?_
    refine jy_ic c1 hm rfl (by decide) ?_
    refine jy_add c1 hm (b1 + 3) rfl (by omega) ?_
    obtain ⟨z189, kz189, lz189, uz189⟩ := hf ((b1 + 3)).toNat
    refine jx_sald c1 hm rfl ⟨by omega, by omega⟩ kz189 ?_
    refine jv_i c3 hm rfl (plp pj_X12_repay rfl) rfl rfl ⟨_, _, _, rfl, sh_173⟩ rfl ((ct_X12_repay_173 (X + 8000 * b1 + 1) (by omega) M186 hH186 z187 ⟨by omega, by omega⟩ z188 ⟨by omega, by omega⟩ z189 ⟨by omega, by omega⟩).le (by decide)) (fun z190 M191 ⟨hH191, hR191, lz190, uz190⟩ => ?_)
    rw [show X + 8000 * b1 + 1 + 1 = X + 8000 * b1 + 2 by omega] at hH191
    refine jx_pop c1 hm rfl rfl ?_
    refine jx_goto c1 hm 1445 rfl rfl ?_
    refine jx_iinc c1 hm (v := (b1 + 6)) (L' := [some (.inr (.inr (.inr 0))), some (.inr (.inr (.inl 0))), some (.inr (.inr (.inl 173))), some (.inr (.inr (.inl 198))), some (.inl (b1 + 6)), o2, o3]) rfl rfl (by omega) (by omega) rfl ?_
    refine jx_goto c1 hm 23 rfl rfl ?_
    exact ihW13 (b1 + 6) (by omega) o2 ho2 o3 ho3 M191 (hH191.mono (by omega) (by omega)) k (by omega) (SOK.cg hs1 (fun j h1 h2 => ((hR191 175 j (jin_hi (b := 234) (by decide +kernel) h1)).trans (hR186 175 j rfl)))) (KOK.cg hs2 (fun j h1 h2 => ((hR191 177 j rfl).trans (hR186 177 j rfl)))) (KOK.cg hs3 (fun j h1 h2 => ((hR191 177 j rfl).trans (hR186 177 j rfl)))) (TPQ.cg hs4 ((hR191 0 2 rfl).trans (hR186 0 2 rfl)) ((hR191 173 2 rfl).trans (hR186 173 2 rfl))) (TBQ.cg hs5 (fun j => ((hR191 2 j rfl).trans (hR186 2 j rfl))) (fun j => ((hR191 174 j rfl).trans (hR186 174 j rfl)))) (IMG.cg hs6 (fun j => ((hR191 46 j rfl).trans (hR186 46 j rfl))) (fun j => ((hR191 183 j rfl).trans (hR186 183 j rfl)))) (CNQ.cg hs7 (dq_cg (d := 5) (fun j => ((hR191 6 j rfl).trans (hR186 6 j rfl))) ((hR191 5 6 rfl).trans (hR186 5 6 rfl)) ((hR191 5 7 rfl).trans (hR186 5 7 rfl))) (nq_cp (c := 175) (c' := 175) (o := 0) (o' := 0) (fun j hj => ((hR191 175 _ (jin_lo (b := 5) (by decide +kernel) (by omega))).trans (hR186 175 _ rfl))))) (IMQ.cg hs8 (fun j => ((hR191 46 j rfl).trans (hR186 46 j rfl))) (dq_cg (d := 137) (fun j => ((hR191 138 j rfl).trans (hR186 138 j rfl))) ((hR191 137 6 rfl).trans (hR186 137 6 rfl)) ((hR191 137 7 rfl).trans (hR186 137 7 rfl))) (dq_cg (d := 155) (fun j => ((hR191 156 j rfl).trans (hR186 156 j rfl))) ((hR191 155 6 rfl).trans (hR186 155 6 rfl)) ((hR191 155 7 rfl).trans (hR186 155 7 rfl))) (nq_cp (c := 177) (c' := 177) (o := 0) (o' := 0) (fun j hj => ((hR191 177 _ rfl).trans (hR186 177 _ rfl)))) (nq_cp (c := 177) (c' := 177) (o := 476) (o' := 476) (fun j hj => ((hR191 177 _ rfl).trans (hR186 177 _ rfl))))) (by omega)
   by_cases h192 : z17 = 15
   ·
    refine jx_tswI c1 hm 770 rfl ⟨by omega, by omega⟩ (by rw [h192] <;> rfl) rfl ?_
    refine jx_load c1 hm rfl rfl rfl rfl ?_
    refine jv_i c3 hm rfl (plp pj_X11_strike rfl) rfl rfl ⟨_, _, _, rfl, sh_0⟩ rfl ((ct_X11_strike_0 (X + 8000 * b1) (by omega) M4 hH4 ).le (by decide)) (fun z193 M194 ⟨hH194, hR194, lz193, uz193⟩ => ?_)
    refine jx_pop c1 hm rfl rfl ?_
    refine jx_load c1 hm rfl rfl rfl rfl ?_
    refine jv_i c3 hm rfl (plp pj_X12_strike rfl) rfl rfl ⟨_, _, _, rfl, sh_173⟩ rfl ((ct_X12_strike_173 (X + 8000 * b1 + 1) (by omega) M194 hH194 ).le (by decide)) (fun z195 M196 ⟨hH196, hR196, lz195, uz195⟩ => ?_)
    refine jx_pop c1 hm rfl rfl ?_
    refine jx_goto c1 hm 1445 rfl rfl ?_
    refine jx_iinc c1 hm (v := (b1 + 6)) (L' := [some (.inr (.inr (.inr 0))), some (.inr (.inr (.inl 0))), some (.inr (.inr (.inl 173))), some (.inr (.inr (.inl 198))), some (.inl (b1 + 6)), o2, o3]) rfl rfl (by omega) (by omega) rfl ?_
    refine jx_goto c1 hm 23 rfl rfl ?_
    exact ihW13 (b1 + 6) (by omega) o2 ho2 o3 ho3 M196 (hH196.mono (by omega) (by omega)) k (by omega) (SOK.cg hs1 (fun j h1 h2 => ((hR196 175 j (jin_hi (b := 234) (by decide +kernel) h1)).trans (hR194 175 j rfl)))) (KOK.cg hs2 (fun j h1 h2 => ((hR196 177 j rfl).trans (hR194 177 j rfl)))) (KOK.cg hs3 (fun j h1 h2 => ((hR196 177 j rfl).trans (hR194 177 j rfl)))) (TPQ.cg hs4 ((hR196 0 2 rfl).trans (hR194 0 2 rfl)) ((hR196 173 2 rfl).trans (hR194 173 2 rfl))) (TBQ.cg hs5 (fun j => ((hR196 2 j rfl).trans (hR194 2 j rfl))) (fun j => ((hR196 174 j rfl).trans (hR194 174 j rfl)))) (IMG.cg hs6 (fun j => ((hR196 46 j rfl).trans (hR194 46 j rfl))) (fun j => ((hR196 183 j rfl).trans (hR194 183 j rfl)))) (CNQ.cg hs7 (dq_cg (d := 5) (fun j => ((hR196 6 j rfl).trans (hR194 6 j rfl))) ((hR196 5 6 rfl).trans (hR194 5 6 rfl)) ((hR196 5 7 rfl).trans (hR194 5 7 rfl))) (nq_cp (c := 175) (c' := 175) (o := 0) (o' := 0) (fun j hj => ((hR196 175 _ (jin_lo (b := 5) (by decide +kernel) (by omega))).trans (hR194 175 _ rfl))))) (IMQ.cg hs8 (fun j => ((hR196 46 j rfl).trans (hR194 46 j rfl))) (dq_cg (d := 137) (fun j => ((hR196 138 j rfl).trans (hR194 138 j rfl))) ((hR196 137 6 rfl).trans (hR194 137 6 rfl)) ((hR196 137 7 rfl).trans (hR194 137 7 rfl))) (dq_cg (d := 155) (fun j => ((hR196 156 j rfl).trans (hR194 156 j rfl))) ((hR196 155 6 rfl).trans (hR194 155 6 rfl)) ((hR196 155 7 rfl).trans (hR194 155 7 rfl))) (nq_cp (c := 177) (c' := 177) (o := 0) (o' := 0) (fun j hj => ((hR196 177 _ rfl).trans (hR194 177 _ rfl)))) (nq_cp (c := 177) (c' := 177) (o := 476) (o' := 476) (fun j hj => ((hR196 177 _ rfl).trans (hR194 177 _ rfl))))) (by omega)
   by_cases h197 : z17 = 16
   ·
    refine jx_tswI c1 hm 783 rfl ⟨by omega, by omega⟩ (by rw [h197] <;> rfl) rfl ?_
    refine jx_load c1 hm rfl rfl rfl rfl ?_
    refine jx_load c1 hm rfl rfl rfl rfl ?_
    refine jx_load c1 hm rfl rfl rfl rfl ?_
    refine jy_ic c1 hm rfl (by decide) ?_
    refine jy_add c1 hm (b1 + 1) rfl (by omega) ?_
    obtain ⟨z198, kz198, lz198, uz198⟩ := hf ((b1 + 1)).toNat
    refine jx_sald c1 hm rfl ⟨by omega, by omega⟩ kz198 ?_
    refine jv_i c3 hm rfl (plp pj_X11_weeks rfl) rfl rfl ⟨_, _, _, rfl, sh_0⟩ rfl ((ct_X11_weeks_0 (X + 8000 * b1) (by omega) M4 hH4 z198 ⟨by omega, by omega⟩).le (by decide)) (fun z199 M200 ⟨hH200, hR200, lz199, uz199⟩ => ?_)
    refine jx_pop c1 hm rfl rfl ?_
    refine jx_load c1 hm rfl rfl rfl rfl ?_
    refine jx_load c1 hm rfl rfl rfl rfl ?_
    refine jx_load c1 hm rfl rfl rfl rfl ?_
    refine jy_ic c1 hm rfl (by decide) ?_
    refine jy_add c1 hm (b1 + 1) rfl (by omega) ?_
    obtain ⟨z201, kz201, lz201, uz201⟩ := hf ((b1 + 1)).toNat
    refine jx_sald c1 hm rfl ⟨by omega, by omega⟩ kz201 ?_
    refine jv_i c3 hm rfl (plp pj_X12_weeks rfl) rfl rfl ⟨_, _, _, rfl, sh_173⟩ rfl ((ct_X12_weeks_173 (X + 8000 * b1 + 1) (by omega) M200 hH200 z201 ⟨by omega, by omega⟩).le (by decide)) (fun z202 M203 ⟨hH203, hR203, lz202, uz202⟩ => ?_)
    refine jx_pop c1 hm rfl rfl ?_
    refine jx_goto c1 hm 1445 rfl rfl ?_
    refine jx_iinc c1 hm (v := (b1 + 6)) (L' := [some (.inr (.inr (.inr 0))), some (.inr (.inr (.inl 0))), some (.inr (.inr (.inl 173))), some (.inr (.inr (.inl 198))), some (.inl (b1 + 6)), o2, o3]) rfl rfl (by omega) (by omega) rfl ?_
    refine jx_goto c1 hm 23 rfl rfl ?_
    exact ihW13 (b1 + 6) (by omega) o2 ho2 o3 ho3 M203 (hH203.mono (by omega) (by omega)) k (by omega) (SOK.cg hs1 (fun j h1 h2 => ((hR203 175 j (jin_hi (b := 234) (by decide +kernel) h1)).trans (hR200 175 j rfl)))) (KOK.cg hs2 (fun j h1 h2 => ((hR203 177 j rfl).trans (hR200 177 j rfl)))) (KOK.cg hs3 (fun j h1 h2 => ((hR203 177 j rfl).trans (hR200 177 j rfl)))) (TPQ.cg hs4 ((hR203 0 2 rfl).trans (hR200 0 2 rfl)) ((hR203 173 2 rfl).trans (hR200 173 2 rfl))) (TBQ.cg hs5 (fun j => ((hR203 2 j rfl).trans (hR200 2 j rfl))) (fun j => ((hR203 174 j rfl).trans (hR200 174 j rfl)))) (IMG.cg hs6 (fun j => ((hR203 46 j rfl).trans (hR200 46 j rfl))) (fun j => ((hR203 183 j rfl).trans (hR200 183 j rfl)))) (CNQ.cg hs7 (dq_cg (d := 5) (fun j => ((hR203 6 j rfl).trans (hR200 6 j rfl))) ((hR203 5 6 rfl).trans (hR200 5 6 rfl)) ((hR203 5 7 rfl).trans (hR200 5 7 rfl))) (nq_cp (c := 175) (c' := 175) (o := 0) (o' := 0) (fun j hj => ((hR203 175 _ (jin_lo (b := 5) (by decide +kernel) (by omega))).trans (hR200 175 _ rfl))))) (IMQ.cg hs8 (fun j => ((hR203 46 j rfl).trans (hR200 46 j rfl))) (dq_cg (d := 137) (fun j => ((hR203 138 j rfl).trans (hR200 138 j rfl))) ((hR203 137 6 rfl).trans (hR200 137 6 rfl)) ((hR203 137 7 rfl).trans (hR200 137 7 rfl))) (dq_cg (d := 155) (fun j => ((hR203 156 j rfl).trans (hR200 156 j rfl))) ((hR203 155 6 rfl).trans (hR200 155 6 rfl)) ((hR203 155 7 rfl).trans (hR200 155 7 rfl))) (nq_cp (c := 177) (c' := 177) (o := 0) (o' := 0) (fun j hj => ((hR203 177 _ rfl).trans (hR200 177 _ rfl)))) (nq_cp (c := 177) (c' := 177) (o := 476) (o' := 476) (fun j hj => ((hR203 177 _ rfl).trans (hR200 177 _ rfl))))) (by omega)
   by_cases h204 : z17 = 17
   ·
    refine jx_tswI c1 hm 808 rfl ⟨by omega, by omega⟩ (by rw [h204] <;> rfl) rfl ?_
    refine jx_load c1 hm rfl rfl rfl rfl ?_
    refine jv_i c3 hm rfl (plp pj_X11_undo rfl) rfl rfl ⟨_, _, _, rfl, sh_0⟩ rfl ((ct_X11_undo_0 (X + 8000 * b1) (by omega) M4 hH4 ).le (by decide)) (fun z205 M206 ⟨hH206, hR206, lz205, uz205⟩ => ?_)
    refine jx_pop c1 hm rfl rfl ?_
    refine jx_load c1 hm rfl rfl rfl rfl ?_
    refine jv_i c3 hm rfl (plp pj_X12_undo rfl) rfl rfl ⟨_, _, _, rfl, sh_173⟩ rfl ((ct_X12_undo_173 (X + 8000 * b1) (by omega) M206 hH206 ).le (by decide)) (fun z207 M208 ⟨hH208, hR208, lz207, uz207⟩ => ?_)
    refine jx_pop c1 hm rfl rfl ?_
    refine jx_goto c1 hm 1445 rfl rfl ?_
    refine jx_iinc c1 hm (v := (b1 + 6)) (L' := [some (.inr (.inr (.inr 0))), some (.inr (.inr (.inl 0))), some (.inr (.inr (.inl 173))), some (.inr (.inr (.inl 198))), some (.inl (b1 + 6)), o2, o3]) rfl rfl (by omega) (by omega) rfl ?_
    refine jx_goto c1 hm 23 rfl rfl ?_
    exact ihW13 (b1 + 6) (by omega) o2 ho2 o3 ho3 M208 (hH208.mono (by omega) (by omega)) k (by omega) (SOK.cg hs1 (fun j h1 h2 => ((hR208 175 j (jin_hi (b := 234) (by decide +kernel) h1)).trans (hR206 175 j rfl)))) (KOK.cg hs2 (fun j h1 h2 => ((hR208 177 j rfl).trans (hR206 177 j rfl)))) (KOK.cg hs3 (fun j h1 h2 => ((hR208 177 j rfl).trans (hR206 177 j rfl)))) (TPQ.cg hs4 ((hR208 0 2 rfl).trans (hR206 0 2 rfl)) ((hR208 173 2 rfl).trans (hR206 173 2 rfl))) (TBQ.cg hs5 (fun j => ((hR208 2 j rfl).trans (hR206 2 j rfl))) (fun j => ((hR208 174 j rfl).trans (hR206 174 j rfl)))) (IMG.cg hs6 (fun j => ((hR208 46 j rfl).trans (hR206 46 j rfl))) (fun j => ((hR208 183 j rfl).trans (hR206 183 j rfl)))) (CNQ.cg hs7 (dq_cg (d := 5) (fun j => ((hR208 6 j rfl).trans (hR206 6 j rfl))) ((hR208 5 6 rfl).trans (hR206 5 6 rfl)) ((hR208 5 7 rfl).trans (hR206 5 7 rfl))) (nq_cp (c := 175) (c' := 175) (o := 0) (o' := 0) (fun j hj => ((hR208 175 _ (jin_lo (b := 5) (by decide +kernel) (by omega))).trans (hR206 175 _ rfl))))) (IMQ.cg hs8 (fun j => ((hR208 46 j rfl).trans (hR206 46 j rfl))) (dq_cg (d := 137) (fun j => ((hR208 138 j rfl).trans (hR206 138 j rfl))) ((hR208 137 6 rfl).trans (hR206 137 6 rfl)) ((hR208 137 7 rfl).trans (hR206 137 7 rfl))) (dq_cg (d := 155) (fun j => ((hR208 156 j rfl).trans (hR206 156 j rfl))) ((hR208 155 6 rfl).trans (hR206 155 6 rfl)) ((hR208 155 7 rfl).trans (hR206 155 7 rfl))) (nq_cp (c := 177) (c' := 177) (o := 0) (o' := 0) (fun j hj => ((hR208 177 _ rfl).trans (hR206 177 _ rfl)))) (nq_cp (c := 177) (c' := 177) (o := 476) (o' := 476) (fun j hj => ((hR208 177 _ rfl).trans (hR206 177 _ rfl))))) (by omega)
   by_cases h209 : z17 = 18
   ·
    refine jx_tswI c1 hm 821 rfl ⟨by omega, by omega⟩ (by rw [h209] <;> rfl) rfl ?_
    refine jx_load c1 hm rfl rfl rfl rfl ?_
    refine jv_i c3 hm rfl (plp pj_X11_ring rfl) rfl rfl ⟨_, _, _, rfl, sh_0⟩ rfl ((ct_X11_ring_0 (X + 8000 * b1) (by omega) M4 hH4 ).le (by decide)) (fun z210 M211 ⟨hH211, hR211, lz210, uz210⟩ => ?_)
    refine jx_pop c1 hm rfl rfl ?_
    refine jx_load c1 hm rfl rfl rfl rfl ?_
    refine jv_i c3 hm rfl (plp pj_X12_ring rfl) rfl rfl ⟨_, _, _, rfl, sh_173⟩ rfl ((ct_X12_ring_173 (X + 8000 * b1) (by omega) M211 hH211 ).le (by decide)) (fun z212 M213 ⟨hH213, hR213, lz212, uz212⟩ => ?_)
    refine jx_pop c1 hm rfl rfl ?_
    refine jx_goto c1 hm 1445 rfl rfl ?_
    refine jx_iinc c1 hm (v := (b1 + 6)) (L' := [some (.inr (.inr (.inr 0))), some (.inr (.inr (.inl 0))), some (.inr (.inr (.inl 173))), some (.inr (.inr (.inl 198))), some (.inl (b1 + 6)), o2, o3]) rfl rfl (by omega) (by omega) rfl ?_
    refine jx_goto c1 hm 23 rfl rfl ?_
    exact ihW13 (b1 + 6) (by omega) o2 ho2 o3 ho3 M213 (hH213.mono (by omega) (by omega)) k (by omega) (SOK.cg hs1 (fun j h1 h2 => ((hR213 175 j rfl).trans (hR211 175 j rfl)))) (KOK.cg hs2 (fun j h1 h2 => ((hR213 177 j rfl).trans (hR211 177 j rfl)))) (KOK.cg hs3 (fun j h1 h2 => ((hR213 177 j rfl).trans (hR211 177 j rfl)))) (TPQ.cg hs4 ((hR213 0 2 rfl).trans (hR211 0 2 rfl)) ((hR213 173 2 rfl).trans (hR211 173 2 rfl))) (TBQ.cg hs5 (fun j => ((hR213 2 j rfl).trans (hR211 2 j rfl))) (fun j => ((hR213 174 j rfl).trans (hR211 174 j rfl)))) (IMG.cg hs6 (fun j => ((hR213 46 j rfl).trans (hR211 46 j rfl))) (fun j => ((hR213 183 j rfl).trans (hR211 183 j rfl)))) (CNQ.cg hs7 (dq_cg (d := 5) (fun j => ((hR213 6 j rfl).trans (hR211 6 j rfl))) ((hR213 5 6 rfl).trans (hR211 5 6 rfl)) ((hR213 5 7 rfl).trans (hR211 5 7 rfl))) (nq_cp (c := 175) (c' := 175) (o := 0) (o' := 0) (fun j hj => ((hR213 175 _ rfl).trans (hR211 175 _ rfl))))) (IMQ.cg hs8 (fun j => ((hR213 46 j rfl).trans (hR211 46 j rfl))) (dq_cg (d := 137) (fun j => ((hR213 138 j rfl).trans (hR211 138 j rfl))) ((hR213 137 6 rfl).trans (hR211 137 6 rfl)) ((hR213 137 7 rfl).trans (hR211 137 7 rfl))) (dq_cg (d := 155) (fun j => ((hR213 156 j rfl).trans (hR211 156 j rfl))) ((hR213 155 6 rfl).trans (hR211 155 6 rfl)) ((hR213 155 7 rfl).trans (hR211 155 7 rfl))) (nq_cp (c := 177) (c' := 177) (o := 0) (o' := 0) (fun j hj => ((hR213 177 _ rfl).trans (hR211 177 _ rfl)))) (nq_cp (c := 177) (c' := 177) (o := 476) (o' := 476) (fun j hj => ((hR213 177 _ rfl).trans (hR211 177 _ rfl))))) (by omega)
   by_cases h214 : z17 = 19
   ·
    refine jx_tswI c1 hm 834 rfl ⟨by omega, by omega⟩ (by rw [h214] <;> rfl) rfl ?_
    refine jx_load c1 hm rfl rfl rfl rfl ?_
    refine jx_load c1 hm rfl rfl rfl rfl ?_
    refine jx_load c1 hm rfl rfl rfl rfl ?_
    refine jy_ic c1 hm rfl (by decide) ?_
    refine jy_add c1 hm (b1 + 1) rfl (by omega) ?_
    obtain ⟨z215, kz215, lz215, uz215⟩ := hf ((b1 + 1)).toNat
    refine jx_sald c1 hm rfl ⟨by omega, by omega⟩ kz215 ?_
    refine jv_i c3 hm rfl (plp pj_X11_ringAt rfl) rfl rfl ⟨_, _, _, rfl, sh_0⟩ rfl ((ct_X11_ringAt_0 (X + 8000 * b1) (by omega) M4 hH4 z215 ⟨by omega, by omega⟩).le (by decide)) (fun z216 _ ⟨rfl, lz216, uz216⟩ => ?_)
    refine jx_pop c1 hm rfl rfl ?_
    refine jx_load c1 hm rfl rfl rfl rfl ?_
    refine jx_load c1 hm rfl rfl rfl rfl ?_
    refine jx_load c1 hm rfl rfl rfl rfl ?_
    refine jy_ic c1 hm rfl (by decide) ?_
    refine jy_add c1 hm (b1 + 1) rfl (by omega) ?_
    obtain ⟨z217, kz217, lz217, uz217⟩ := hf ((b1 + 1)).toNat
    refine jx_sald c1 hm rfl ⟨by omega, by omega⟩ kz217 ?_
    refine jv_i c3 hm rfl (plp pj_X12_ringAt rfl) rfl rfl ⟨_, _, _, rfl, sh_173⟩ rfl ((ct_X12_ringAt_173 (X + 8000 * b1) (by omega) M4 hH4 z217 ⟨by omega, by omega⟩).le (by decide)) (fun z218 M219 ⟨hH219, hR219, lz218, uz218⟩ => ?_)
    refine jx_pop c1 hm rfl rfl ?_
    refine jx_goto c1 hm 1445 rfl rfl ?_
    refine jx_iinc c1 hm (v := (b1 + 6)) (L' := [some (.inr (.inr (.inr 0))), some (.inr (.inr (.inl 0))), some (.inr (.inr (.inl 173))), some (.inr (.inr (.inl 198))), some (.inl (b1 + 6)), o2, o3]) rfl rfl (by omega) (by omega) rfl ?_
    refine jx_goto c1 hm 23 rfl rfl ?_
    exact ihW13 (b1 + 6) (by omega) o2 ho2 o3 ho3 M219 (hH219.mono (by omega) (by omega)) k (by omega) (SOK.cg hs1 (fun j h1 h2 => (hR219 175 j rfl))) (KOK.cg hs2 (fun j h1 h2 => (hR219 177 j rfl))) (KOK.cg hs3 (fun j h1 h2 => (hR219 177 j rfl))) (TPQ.cg hs4 (hR219 0 2 rfl) (hR219 173 2 rfl)) (TBQ.cg hs5 (fun j => (hR219 2 j rfl)) (fun j => (hR219 174 j rfl))) (IMG.cg hs6 (fun j => (hR219 46 j rfl)) (fun j => (hR219 183 j rfl))) (CNQ.cg hs7 (dq_cg (d := 5) (fun j => (hR219 6 j rfl)) (hR219 5 6 rfl) (hR219 5 7 rfl)) (nq_cp (c := 175) (c' := 175) (o := 0) (o' := 0) (fun j hj => (hR219 175 _ rfl)))) (IMQ.cg hs8 (fun j => (hR219 46 j rfl)) (dq_cg (d := 137) (fun j => (hR219 138 j rfl)) (hR219 137 6 rfl) (hR219 137 7 rfl)) (dq_cg (d := 155) (fun j => (hR219 156 j rfl)) (hR219 155 6 rfl) (hR219 155 7 rfl)) (nq_cp (c := 177) (c' := 177) (o := 0) (o' := 0) (fun j hj => (hR219 177 _ rfl))) (nq_cp (c := 177) (c' := 177) (o := 476) (o' := 476) (fun j hj => (hR219 177 _ rfl)))) (by omega)
   by_cases h220 : z17 = 20
   ·
    refine jx_tswI c1 hm 859 rfl ⟨by omega, by omega⟩ (by rw [h220] <;> rfl) rfl ?_
    refine jx_load c1 hm rfl rfl rfl rfl ?_
    refine jx_load c1 hm rfl rfl rfl rfl ?_
    refine jx_load c1 hm rfl rfl rfl rfl ?_
    refine jy_ic c1 hm rfl (by decide) ?_
    refine jy_add c1 hm (b1 + 1) rfl (by omega) ?_
    obtain ⟨z221, kz221, lz221, uz221⟩ := hf ((b1 + 1)).toNat
    refine jx_sald c1 hm rfl ⟨by omega, by omega⟩ kz221 ?_
    refine jx_load c1 hm rfl rfl rfl rfl ?_
    refine jx_load c1 hm rfl rfl rfl rfl ?_
    refine jy_ic c1 hm rfl (by decide) ?_
    refine jy_add c1 hm (b1 + 2) rfl (by omega) ?_
    obtain ⟨z222, kz222, lz222, uz222⟩ := hf ((b1 + 2)).toNat
    refine jx_sald c1 hm rfl ⟨by omega, by omega⟩ kz222 ?_
    refine jv_i c3 hm rfl (plp pj_X11_plan rfl) rfl rfl ⟨_, _, _, rfl, sh_0⟩ rfl ((ct_X11_plan_0 (X + 8000 * b1) (by omega) M4 hH4 z221 ⟨by omega, by omega⟩ z222 ⟨by omega, by omega⟩).le (by decide)) (fun z223 M224 ⟨hH224, hR224, lz223, uz223⟩ => ?_)
    refine jx_pop c1 hm rfl rfl ?_
    refine jx_load c1 hm rfl rfl rfl rfl ?_
    refine jx_load c1 hm rfl rfl rfl rfl ?_
    refine jx_load c1 hm rfl rfl rfl rfl ?_
    refine jy_ic c1 hm rfl (by decide) ?_
    refine jy_add c1 hm (b1 + 1) rfl (by omega) ?_
    obtain ⟨z225, kz225, lz225, uz225⟩ := hf ((b1 + 1)).toNat
    refine jx_sald c1 hm rfl ⟨by omega, by omega⟩ kz225 ?_
    refine jx_load c1 hm rfl rfl rfl rfl ?_
    refine jx_load c1 hm rfl rfl rfl rfl ?_
    refine jy_ic c1 hm rfl (by decide) ?_
    refine jy_add c1 hm (b1 + 2) rfl (by omega) ?_
    obtain ⟨z226, kz226, lz226, uz226⟩ := hf ((b1 + 2)).toNat
    refine jx_sald c1 hm rfl ⟨by omega, by omega⟩ kz226 ?_
    refine jv_i c3 hm rfl (plp pj_X12_plan rfl) rfl rfl ⟨_, _, _, rfl, sh_173⟩ rfl ((ct_X12_plan_173 (X + 8000 * b1) (by omega) M224 hH224 z225 ⟨by omega, by omega⟩ z226 ⟨by omega, by omega⟩).le (by decide)) (fun z227 M228 ⟨hH228, hR228, lz227, uz227⟩ => ?_)
    refine jx_pop c1 hm rfl rfl ?_
    refine jx_goto c1 hm 1445 rfl rfl ?_
    refine jx_iinc c1 hm (v := (b1 + 6)) (L' := [some (.inr (.inr (.inr 0))), some (.inr (.inr (.inl 0))), some (.inr (.inr (.inl 173))), some (.inr (.inr (.inl 198))), some (.inl (b1 + 6)), o2, o3]) rfl rfl (by omega) (by omega) rfl ?_
    refine jx_goto c1 hm 23 rfl rfl ?_
    exact ihW13 (b1 + 6) (by omega) o2 ho2 o3 ho3 M228 (hH228.mono (by omega) (by omega)) k (by omega) (SOK.cg hs1 (fun j h1 h2 => ((hR228 175 j rfl).trans (hR224 175 j rfl)))) (KOK.cg hs2 (fun j h1 h2 => ((hR228 177 j rfl).trans (hR224 177 j rfl)))) (KOK.cg hs3 (fun j h1 h2 => ((hR228 177 j rfl).trans (hR224 177 j rfl)))) (TPQ.cg hs4 ((hR228 0 2 rfl).trans (hR224 0 2 rfl)) ((hR228 173 2 rfl).trans (hR224 173 2 rfl))) (TBQ.cg hs5 (fun j => ((hR228 2 j rfl).trans (hR224 2 j rfl))) (fun j => ((hR228 174 j rfl).trans (hR224 174 j rfl)))) (IMG.cg hs6 (fun j => ((hR228 46 j rfl).trans (hR224 46 j rfl))) (fun j => ((hR228 183 j rfl).trans (hR224 183 j rfl)))) (CNQ.cg hs7 (dq_cg (d := 5) (fun j => ((hR228 6 j rfl).trans (hR224 6 j rfl))) ((hR228 5 6 rfl).trans (hR224 5 6 rfl)) ((hR228 5 7 rfl).trans (hR224 5 7 rfl))) (nq_cp (c := 175) (c' := 175) (o := 0) (o' := 0) (fun j hj => ((hR228 175 _ rfl).trans (hR224 175 _ rfl))))) (IMQ.cg hs8 (fun j => ((hR228 46 j rfl).trans (hR224 46 j rfl))) (dq_cg (d := 137) (fun j => ((hR228 138 j rfl).trans (hR224 138 j rfl))) ((hR228 137 6 rfl).trans (hR224 137 6 rfl)) ((hR228 137 7 rfl).trans (hR224 137 7 rfl))) (dq_cg (d := 155) (fun j => ((hR228 156 j rfl).trans (hR224 156 j rfl))) ((hR228 155 6 rfl).trans (hR224 155 6 rfl)) ((hR228 155 7 rfl).trans (hR224 155 7 rfl))) (nq_cp (c := 177) (c' := 177) (o := 0) (o' := 0) (fun j hj => ((hR228 177 _ rfl).trans (hR224 177 _ rfl)))) (nq_cp (c := 177) (c' := 177) (o := 476) (o' := 476) (fun j hj => ((hR228 177 _ rfl).trans (hR224 177 _ rfl))))) (by omega)
   by_cases h229 : z17 = 21
   ·
    refine jx_tswI c1 hm 896 rfl ⟨by omega, by omega⟩ (by rw [h229] <;> rfl) rfl ?_
    refine jx_load c1 hm rfl rfl rfl rfl ?_
    refine jx_load c1 hm rfl rfl rfl rfl ?_
    refine jx_load c1 hm rfl rfl rfl rfl ?_
    refine jy_ic c1 hm rfl (by decide) ?_
    refine jy_add c1 hm (b1 + 1) rfl (by omega) ?_
    obtain ⟨z230, kz230, lz230, uz230⟩ := hf ((b1 + 1)).toNat
    refine jx_sald c1 hm rfl ⟨by omega, by omega⟩ kz230 ?_
    refine jv_i c3 hm rfl (plp pj_X11_planned rfl) rfl rfl ⟨_, _, _, rfl, sh_0⟩ rfl ((ct_X11_planned_0 (X + 8000 * b1) (by omega) M4 hH4 z230 ⟨by omega, by omega⟩).le (by decide)) (fun z231 _ ⟨rfl, lz231, uz231⟩ => ?_)
    refine jx_pop c1 hm rfl rfl ?_
    refine jx_load c1 hm rfl rfl rfl rfl ?_
    refine jx_load c1 hm rfl rfl rfl rfl ?_
    refine jx_load c1 hm rfl rfl rfl rfl ?_
    refine jy_ic c1 hm rfl (by decide) ?_
    refine jy_add c1 hm (b1 + 1) rfl (by omega) ?_
    obtain ⟨z232, kz232, lz232, uz232⟩ := hf ((b1 + 1)).toNat
    refine jx_sald c1 hm rfl ⟨by omega, by omega⟩ kz232 ?_
    refine jv_i c3 hm rfl (plp pj_X12_planned rfl) rfl rfl ⟨_, _, _, rfl, sh_173⟩ rfl ((ct_X12_planned_173 (X + 8000 * b1) (by omega) M4 hH4 z232 ⟨by omega, by omega⟩).le (by decide)) (fun z233 M234 ⟨hH234, hR234, lz233, uz233⟩ => ?_)
    refine jx_pop c1 hm rfl rfl ?_
    refine jx_goto c1 hm 1445 rfl rfl ?_
    refine jx_iinc c1 hm (v := (b1 + 6)) (L' := [some (.inr (.inr (.inr 0))), some (.inr (.inr (.inl 0))), some (.inr (.inr (.inl 173))), some (.inr (.inr (.inl 198))), some (.inl (b1 + 6)), o2, o3]) rfl rfl (by omega) (by omega) rfl ?_
    refine jx_goto c1 hm 23 rfl rfl ?_
    exact ihW13 (b1 + 6) (by omega) o2 ho2 o3 ho3 M234 (hH234.mono (by omega) (by omega)) k (by omega) (SOK.cg hs1 (fun j h1 h2 => (hR234 175 j rfl))) (KOK.cg hs2 (fun j h1 h2 => (hR234 177 j rfl))) (KOK.cg hs3 (fun j h1 h2 => (hR234 177 j rfl))) (TPQ.cg hs4 (hR234 0 2 rfl) (hR234 173 2 rfl)) (TBQ.cg hs5 (fun j => (hR234 2 j rfl)) (fun j => (hR234 174 j rfl))) (IMG.cg hs6 (fun j => (hR234 46 j rfl)) (fun j => (hR234 183 j rfl))) (CNQ.cg hs7 (dq_cg (d := 5) (fun j => (hR234 6 j rfl)) (hR234 5 6 rfl) (hR234 5 7 rfl)) (nq_cp (c := 175) (c' := 175) (o := 0) (o' := 0) (fun j hj => (hR234 175 _ rfl)))) (IMQ.cg hs8 (fun j => (hR234 46 j rfl)) (dq_cg (d := 137) (fun j => (hR234 138 j rfl)) (hR234 137 6 rfl) (hR234 137 7 rfl)) (dq_cg (d := 155) (fun j => (hR234 156 j rfl)) (hR234 155 6 rfl) (hR234 155 7 rfl)) (nq_cp (c := 177) (c' := 177) (o := 0) (o' := 0) (fun j hj => (hR234 177 _ rfl))) (nq_cp (c := 177) (c' := 177) (o := 476) (o' := 476) (fun j hj => (hR234 177 _ rfl)))) (by omega)
   by_cases h235 : z17 = 22
   ·
    refine jx_tswI c1 hm 921 rfl ⟨by omega, by omega⟩ (by rw [h235] <;> rfl) rfl ?_
    refine jx_load c1 hm rfl rfl rfl rfl ?_
    refine jx_load c1 hm rfl rfl rfl rfl ?_
    refine jx_load c1 hm rfl rfl rfl rfl ?_
    refine jy_ic c1 hm rfl (by decide) ?_
    refine jy_add c1 hm (b1 + 1) rfl (by omega) ?_
    obtain ⟨z236, kz236, lz236, uz236⟩ := hf ((b1 + 1)).toNat
    refine jx_sald c1 hm rfl ⟨by omega, by omega⟩ kz236 ?_
    refine jx_load c1 hm rfl rfl rfl rfl ?_
    refine jx_load c1 hm rfl rfl rfl rfl ?_
    refine jy_ic c1 hm rfl (by decide) ?_
    refine jy_add c1 hm (b1 + 2) rfl (by omega) ?_
    obtain ⟨z237, kz237, lz237, uz237⟩ := hf ((b1 + 2)).toNat
    refine jx_sald c1 hm rfl ⟨by omega, by omega⟩ kz237 ?_
    refine jv_i c3 hm rfl (plp pj_X11_lasts rfl) rfl rfl ⟨_, _, _, rfl, sh_0⟩ rfl ((ct_X11_lasts_0 (X + 8000 * b1) (by omega) M4 hH4 z236 ⟨by omega, by omega⟩ z237 ⟨by omega, by omega⟩).le (by decide)) (fun z238 _ ⟨rfl, lz238, uz238⟩ => ?_)
    refine jx_pop c1 hm rfl rfl ?_
    refine jx_load c1 hm rfl rfl rfl rfl ?_
    refine jx_load c1 hm rfl rfl rfl rfl ?_
    refine jx_load c1 hm rfl rfl rfl rfl ?_
    refine jy_ic c1 hm rfl (by decide) ?_
    refine jy_add c1 hm (b1 + 1) rfl (by omega) ?_
    obtain ⟨z239, kz239, lz239, uz239⟩ := hf ((b1 + 1)).toNat
    refine jx_sald c1 hm rfl ⟨by omega, by omega⟩ kz239 ?_
    refine jx_load c1 hm rfl rfl rfl rfl ?_
    refine jx_load c1 hm rfl rfl rfl rfl ?_
    refine jy_ic c1 hm rfl (by decide) ?_
    refine jy_add c1 hm (b1 + 2) rfl (by omega) ?_
    obtain ⟨z240, kz240, lz240, uz240⟩ := hf ((b1 + 2)).toNat
    refine jx_sald c1 hm rfl ⟨by omega, by omega⟩ kz240 ?_
    refine jv_i c3 hm rfl (plp pj_X12_lasts rfl) rfl rfl ⟨_, _, _, rfl, sh_173⟩ rfl ((ct_X12_lasts_173 (X + 8000 * b1) (by omega) M4 hH4 z239 ⟨by omega, by omega⟩ z240 ⟨by omega, by omega⟩).le (by decide)) (fun z241 M242 ⟨hH242, hR242, lz241, uz241⟩ => ?_)
    refine jx_pop c1 hm rfl rfl ?_
    refine jx_goto c1 hm 1445 rfl rfl ?_
    refine jx_iinc c1 hm (v := (b1 + 6)) (L' := [some (.inr (.inr (.inr 0))), some (.inr (.inr (.inl 0))), some (.inr (.inr (.inl 173))), some (.inr (.inr (.inl 198))), some (.inl (b1 + 6)), o2, o3]) rfl rfl (by omega) (by omega) rfl ?_
    refine jx_goto c1 hm 23 rfl rfl ?_
    exact ihW13 (b1 + 6) (by omega) o2 ho2 o3 ho3 M242 (hH242.mono (by omega) (by omega)) k (by omega) (SOK.cg hs1 (fun j h1 h2 => (hR242 175 j rfl))) (KOK.cg hs2 (fun j h1 h2 => (hR242 177 j rfl))) (KOK.cg hs3 (fun j h1 h2 => (hR242 177 j rfl))) (TPQ.cg hs4 (hR242 0 2 rfl) (hR242 173 2 rfl)) (TBQ.cg hs5 (fun j => (hR242 2 j rfl)) (fun j => (hR242 174 j rfl))) (IMG.cg hs6 (fun j => (hR242 46 j rfl)) (fun j => (hR242 183 j rfl))) (CNQ.cg hs7 (dq_cg (d := 5) (fun j => (hR242 6 j rfl)) (hR242 5 6 rfl) (hR242 5 7 rfl)) (nq_cp (c := 175) (c' := 175) (o := 0) (o' := 0) (fun j hj => (hR242 175 _ rfl)))) (IMQ.cg hs8 (fun j => (hR242 46 j rfl)) (dq_cg (d := 137) (fun j => (hR242 138 j rfl)) (hR242 137 6 rfl) (hR242 137 7 rfl)) (dq_cg (d := 155) (fun j => (hR242 156 j rfl)) (hR242 155 6 rfl) (hR242 155 7 rfl)) (nq_cp (c := 177) (c' := 177) (o := 0) (o' := 0) (fun j hj => (hR242 177 _ rfl))) (nq_cp (c := 177) (c' := 177) (o := 476) (o' := 476) (fun j hj => (hR242 177 _ rfl)))) (by omega)
   by_cases h243 : z17 = 23
   ·
    refine jx_tswI c1 hm 958 rfl ⟨by omega, by omega⟩ (by rw [h243] <;> rfl) rfl ?_
    refine jx_load c1 hm rfl rfl rfl rfl ?_
    refine jx_load c1 hm rfl rfl rfl rfl ?_
    refine jx_load c1 hm rfl rfl rfl rfl ?_
    refine jy_ic c1 hm rfl (by decide) ?_
    refine jy_add c1 hm (b1 + 1) rfl (by omega) ?_
    obtain ⟨z244, kz244, lz244, uz244⟩ := hf ((b1 + 1)).toNat
    refine jx_sald c1 hm rfl ⟨by omega, by omega⟩ kz244 ?_
    refine jx_load c1 hm rfl rfl rfl rfl ?_
    refine jx_load c1 hm rfl rfl rfl rfl ?_
    refine jy_ic c1 hm rfl (by decide) ?_
    refine jy_add c1 hm (b1 + 2) rfl (by omega) ?_
    obtain ⟨z245, kz245, lz245, uz245⟩ := hf ((b1 + 2)).toNat
    refine jx_sald c1 hm rfl ⟨by omega, by omega⟩ kz245 ?_
    refine jv_i c3 hm rfl (plp pj_X11_worth rfl) rfl rfl ⟨_, _, _, rfl, sh_0⟩ rfl ((ct_X11_worth_0 (X + 8000 * b1) (by omega) M4 hH4 z244 ⟨by omega, by omega⟩ z245 ⟨by omega, by omega⟩).le (by decide)) (fun z246 _ ⟨rfl, lz246, uz246⟩ => ?_)
    refine jx_pop c1 hm rfl rfl ?_
    refine jx_load c1 hm rfl rfl rfl rfl ?_
    refine jx_load c1 hm rfl rfl rfl rfl ?_
    refine jx_load c1 hm rfl rfl rfl rfl ?_
    refine jy_ic c1 hm rfl (by decide) ?_
    refine jy_add c1 hm (b1 + 1) rfl (by omega) ?_
    obtain ⟨z247, kz247, lz247, uz247⟩ := hf ((b1 + 1)).toNat
    refine jx_sald c1 hm rfl ⟨by omega, by omega⟩ kz247 ?_
    refine jx_load c1 hm rfl rfl rfl rfl ?_
    refine jx_load c1 hm rfl rfl rfl rfl ?_
    refine jy_ic c1 hm rfl (by decide) ?_
    refine jy_add c1 hm (b1 + 2) rfl (by omega) ?_
    obtain ⟨z248, kz248, lz248, uz248⟩ := hf ((b1 + 2)).toNat
    refine jx_sald c1 hm rfl ⟨by omega, by omega⟩ kz248 ?_
    refine jv_i c3 hm rfl (plp pj_X12_worth rfl) rfl rfl ⟨_, _, _, rfl, sh_173⟩ rfl ((ct_X12_worth_173 (X + 8000 * b1) (by omega) M4 hH4 z247 ⟨by omega, by omega⟩ z248 ⟨by omega, by omega⟩).le (by decide)) (fun z249 M250 ⟨hH250, hR250, lz249, uz249⟩ => ?_)
    refine jx_pop c1 hm rfl rfl ?_
    refine jx_goto c1 hm 1445 rfl rfl ?_
    refine jx_iinc c1 hm (v := (b1 + 6)) (L' := [some (.inr (.inr (.inr 0))), some (.inr (.inr (.inl 0))), some (.inr (.inr (.inl 173))), some (.inr (.inr (.inl 198))), some (.inl (b1 + 6)), o2, o3]) rfl rfl (by omega) (by omega) rfl ?_
    refine jx_goto c1 hm 23 rfl rfl ?_
    exact ihW13 (b1 + 6) (by omega) o2 ho2 o3 ho3 M250 (hH250.mono (by omega) (by omega)) k (by omega) (SOK.cg hs1 (fun j h1 h2 => (hR250 175 j rfl))) (KOK.cg hs2 (fun j h1 h2 => (hR250 177 j rfl))) (KOK.cg hs3 (fun j h1 h2 => (hR250 177 j rfl))) (TPQ.cg hs4 (hR250 0 2 rfl) (hR250 173 2 rfl)) (TBQ.cg hs5 (fun j => (hR250 2 j rfl)) (fun j => (hR250 174 j rfl))) (IMG.cg hs6 (fun j => (hR250 46 j rfl)) (fun j => (hR250 183 j rfl))) (CNQ.cg hs7 (dq_cg (d := 5) (fun j => (hR250 6 j rfl)) (hR250 5 6 rfl) (hR250 5 7 rfl)) (nq_cp (c := 175) (c' := 175) (o := 0) (o' := 0) (fun j hj => (hR250 175 _ rfl)))) (IMQ.cg hs8 (fun j => (hR250 46 j rfl)) (dq_cg (d := 137) (fun j => (hR250 138 j rfl)) (hR250 137 6 rfl) (hR250 137 7 rfl)) (dq_cg (d := 155) (fun j => (hR250 156 j rfl)) (hR250 155 6 rfl) (hR250 155 7 rfl)) (nq_cp (c := 177) (c' := 177) (o := 0) (o' := 0) (fun j hj => (hR250 177 _ rfl))) (nq_cp (c := 177) (c' := 177) (o := 476) (o' := 476) (fun j hj => (hR250 177 _ rfl)))) (by omega)
   by_cases h251 : z17 = 24
   ·
    refine jx_tswI c1 hm 995 rfl ⟨by omega, by omega⟩ (by rw [h251] <;> rfl) rfl ?_
    refine jx_load c1 hm rfl rfl rfl rfl ?_
    refine jv_i c3 hm rfl (plp pj_X11_even rfl) rfl rfl ⟨_, _, _, rfl, sh_0⟩ rfl ((ct_X11_even_0 (X + 8000 * b1) (by omega) M4 hH4 ).le (by decide)) (fun z252 M253 ⟨hH253, hR253, lz252, uz252⟩ => ?_)
    refine jx_pop c1 hm rfl rfl ?_
    refine jx_load c1 hm rfl rfl rfl rfl ?_
    refine jv_i c3 hm rfl (plp pj_X12_even rfl) rfl rfl ⟨_, _, _, rfl, sh_173⟩ rfl ((ct_X12_even_173 (X + 8000 * b1) (by omega) M253 hH253 ).le (by decide)) (fun z254 M255 ⟨hH255, hR255, lz254, uz254⟩ => ?_)
    refine jx_pop c1 hm rfl rfl ?_
    refine jx_goto c1 hm 1445 rfl rfl ?_
    refine jx_iinc c1 hm (v := (b1 + 6)) (L' := [some (.inr (.inr (.inr 0))), some (.inr (.inr (.inl 0))), some (.inr (.inr (.inl 173))), some (.inr (.inr (.inl 198))), some (.inl (b1 + 6)), o2, o3]) rfl rfl (by omega) (by omega) rfl ?_
    refine jx_goto c1 hm 23 rfl rfl ?_
    exact ihW13 (b1 + 6) (by omega) o2 ho2 o3 ho3 M255 (hH255.mono (by omega) (by omega)) k (by omega) (SOK.cg hs1 (fun j h1 h2 => ((hR255 175 j rfl).trans (hR253 175 j rfl)))) (KOK.cg hs2 (fun j h1 h2 => ((hR255 177 j rfl).trans (hR253 177 j rfl)))) (KOK.cg hs3 (fun j h1 h2 => ((hR255 177 j rfl).trans (hR253 177 j rfl)))) (TPQ.cg hs4 ((hR255 0 2 rfl).trans (hR253 0 2 rfl)) ((hR255 173 2 rfl).trans (hR253 173 2 rfl))) (TBQ.cg hs5 (fun j => ((hR255 2 j rfl).trans (hR253 2 j rfl))) (fun j => ((hR255 174 j rfl).trans (hR253 174 j rfl)))) (IMG.cg hs6 (fun j => ((hR255 46 j rfl).trans (hR253 46 j rfl))) (fun j => ((hR255 183 j rfl).trans (hR253 183 j rfl)))) (CNQ.cg hs7 (dq_cg (d := 5) (fun j => ((hR255 6 j rfl).trans (hR253 6 j rfl))) ((hR255 5 6 rfl).trans (hR253 5 6 rfl)) ((hR255 5 7 rfl).trans (hR253 5 7 rfl))) (nq_cp (c := 175) (c' := 175) (o := 0) (o' := 0) (fun j hj => ((hR255 175 _ rfl).trans (hR253 175 _ rfl))))) (IMQ.cg hs8 (fun j => ((hR255 46 j rfl).trans (hR253 46 j rfl))) (dq_cg (d := 137) (fun j => ((hR255 138 j rfl).trans (hR253 138 j rfl))) ((hR255 137 6 rfl).trans (hR253 137 6 rfl)) ((hR255 137 7 rfl).trans (hR253 137 7 rfl))) (dq_cg (d := 155) (fun j => ((hR255 156 j rfl).trans (hR253 156 j rfl))) ((hR255 155 6 rfl).trans (hR253 155 6 rfl)) ((hR255 155 7 rfl).trans (hR253 155 7 rfl))) (nq_cp (c := 177) (c' := 177) (o := 0) (o' := 0) (fun j hj => ((hR255 177 _ rfl).trans (hR253 177 _ rfl)))) (nq_cp (c := 177) (c' := 177) (o := 476) (o' := 476) (fun j hj => ((hR255 177 _ rfl).trans (hR253 177 _ rfl))))) (by omega)
   by_cases h256 : z17 = 25
   ·
    refine jx_tswI c1 hm 1008 rfl ⟨by omega, by omega⟩ (by rw [h256] <;> rfl) rfl ?_
    refine jx_load c1 hm rfl rfl rfl rfl ?_
    refine jv_i c3 hm rfl (plp pj_X11_fits rfl) rfl rfl ⟨_, _, _, rfl, sh_0⟩ rfl ((ct_X11_fits_0t (X + 8000 * b1) (by omega) M4 hH4 ).le (by decide)) (fun z257 M259 ⟨hH259, hR259, lz257, uz257, p258⟩ => ?_)
    obtain ⟨z260, k261, lz260, uz260⟩ := hH259.ld (c := 0) (i := 2) (A := 0) (B := 940) (bs_18_1 _ _ (by omega) (by omega))
    refine jx_pop c1 hm rfl rfl ?_
    refine jx_load c1 hm rfl rfl rfl rfl ?_
    refine jv_i c3 hm rfl (plp pj_X12_fits rfl) rfl rfl ⟨_, _, _, rfl, sh_173⟩ rfl ((ct_X12_fits_173t (X + 8000 * b1) (by omega) M259 hH259 ).le (by decide)) (fun z262 M264 ⟨hH264, hR264, lz262, uz262, p263⟩ => ?_)
    obtain ⟨z265, k266, lz265, uz265⟩ := hH264.ld (c := 173) (i := 2) (A := 0) (B := 940) (bs_28_1 _ _ (by omega) (by omega))
    refine jx_pop c1 hm rfl rfl ?_
    refine jx_goto c1 hm 1445 rfl rfl ?_
    refine jx_iinc c1 hm (v := (b1 + 6)) (L' := [some (.inr (.inr (.inr 0))), some (.inr (.inr (.inl 0))), some (.inr (.inr (.inl 173))), some (.inr (.inr (.inl 198))), some (.inl (b1 + 6)), o2, o3]) rfl rfl (by omega) (by omega) rfl ?_
    refine jx_goto c1 hm 23 rfl rfl ?_
    exact ihW13 (b1 + 6) (by omega) o2 ho2 o3 ho3 M264 (hH264.mono (by omega) (by omega)) k (by omega) (SOK.cg hs1 (fun j h1 h2 => ((hR264 175 j rfl).trans (hR259 175 j rfl)))) (KOK.cg hs2 (fun j h1 h2 => ((hR264 177 j rfl).trans (hR259 177 j rfl)))) (KOK.cg hs3 (fun j h1 h2 => ((hR264 177 j rfl).trans (hR259 177 j rfl)))) (TPQ.of (by have y9 := hs4.e; have y90_0 := hR264 0 2 rfl; have y91_173 := hR259 173 2 rfl; omega)) (TBQ.cg hs5 (fun j => ((hR264 2 j rfl).trans (hR259 2 j rfl))) (fun j => ((hR264 174 j rfl).trans (hR259 174 j rfl)))) (IMG.cg hs6 (fun j => ((hR264 46 j rfl).trans (hR259 46 j rfl))) (fun j => ((hR264 183 j rfl).trans (hR259 183 j rfl)))) (CNQ.cg hs7 (dq_cg (d := 5) (fun j => ((hR264 6 j rfl).trans (hR259 6 j rfl))) ((hR264 5 6 rfl).trans (hR259 5 6 rfl)) ((hR264 5 7 rfl).trans (hR259 5 7 rfl))) (nq_cp (c := 175) (c' := 175) (o := 0) (o' := 0) (fun j hj => ((hR264 175 _ rfl).trans (hR259 175 _ rfl))))) (IMQ.cg hs8 (fun j => ((hR264 46 j rfl).trans (hR259 46 j rfl))) (dq_cg (d := 137) (fun j => ((hR264 138 j rfl).trans (hR259 138 j rfl))) ((hR264 137 6 rfl).trans (hR259 137 6 rfl)) ((hR264 137 7 rfl).trans (hR259 137 7 rfl))) (dq_cg (d := 155) (fun j => ((hR264 156 j rfl).trans (hR259 156 j rfl))) ((hR264 155 6 rfl).trans (hR259 155 6 rfl)) ((hR264 155 7 rfl).trans (hR259 155 7 rfl))) (nq_cp (c := 177) (c' := 177) (o := 0) (o' := 0) (fun j hj => ((hR264 177 _ rfl).trans (hR259 177 _ rfl)))) (nq_cp (c := 177) (c' := 177) (o := 476) (o' := 476) (fun j hj => ((hR264 177 _ rfl).trans (hR259 177 _ rfl))))) (by omega)
   by_cases h267 : z17 = 26
   ·
    refine jx_tswI c1 hm 1021 rfl ⟨by omega, by omega⟩ (by rw [h267] <;> rfl) rfl ?_
    refine jx_load c1 hm rfl rfl rfl rfl ?_
    refine jv_i c3 hm rfl (plp pj_X11_tells rfl) rfl rfl ⟨_, _, _, rfl, sh_0⟩ rfl ((ct_X11_tells_0 (X + 8000 * b1) (by omega) M4 hH4 ).le (by decide)) (fun z268 _ ⟨rfl, lz268, uz268⟩ => ?_)
    refine jx_pop c1 hm rfl rfl ?_
    refine jx_load c1 hm rfl rfl rfl rfl ?_
    refine jv_i c3 hm rfl (plp pj_X12_tells rfl) rfl rfl ⟨_, _, _, rfl, sh_173⟩ rfl ((ct_X12_tells_173 (X + 8000 * b1) (by omega) M4 hH4 ).le (by decide)) (fun z269 M270 ⟨hH270, hR270, lz269, uz269⟩ => ?_)
    refine jx_pop c1 hm rfl rfl ?_
    refine jx_goto c1 hm 1445 rfl rfl ?_
    refine jx_iinc c1 hm (v := (b1 + 6)) (L' := [some (.inr (.inr (.inr 0))), some (.inr (.inr (.inl 0))), some (.inr (.inr (.inl 173))), some (.inr (.inr (.inl 198))), some (.inl (b1 + 6)), o2, o3]) rfl rfl (by omega) (by omega) rfl ?_
    refine jx_goto c1 hm 23 rfl rfl ?_
    exact ihW13 (b1 + 6) (by omega) o2 ho2 o3 ho3 M270 (hH270.mono (by omega) (by omega)) k (by omega) (SOK.cg hs1 (fun j h1 h2 => (hR270 175 j rfl))) (KOK.cg hs2 (fun j h1 h2 => (hR270 177 j rfl))) (KOK.cg hs3 (fun j h1 h2 => (hR270 177 j rfl))) (TPQ.cg hs4 (hR270 0 2 rfl) (hR270 173 2 rfl)) (TBQ.cg hs5 (fun j => (hR270 2 j rfl)) (fun j => (hR270 174 j rfl))) (IMG.cg hs6 (fun j => (hR270 46 j rfl)) (fun j => (hR270 183 j rfl))) (CNQ.cg hs7 (dq_cg (d := 5) (fun j => (hR270 6 j rfl)) (hR270 5 6 rfl) (hR270 5 7 rfl)) (nq_cp (c := 175) (c' := 175) (o := 0) (o' := 0) (fun j hj => (hR270 175 _ rfl)))) (IMQ.cg hs8 (fun j => (hR270 46 j rfl)) (dq_cg (d := 137) (fun j => (hR270 138 j rfl)) (hR270 137 6 rfl) (hR270 137 7 rfl)) (dq_cg (d := 155) (fun j => (hR270 156 j rfl)) (hR270 155 6 rfl) (hR270 155 7 rfl)) (nq_cp (c := 177) (c' := 177) (o := 0) (o' := 0) (fun j hj => (hR270 177 _ rfl))) (nq_cp (c := 177) (c' := 177) (o := 476) (o' := 476) (fun j hj => (hR270 177 _ rfl)))) (by omega)
   by_cases h271 : z17 = 27
   ·
    refine jx_tswI c1 hm 1034 rfl ⟨by omega, by omega⟩ (by rw [h271] <;> rfl) rfl ?_
    refine jx_load c1 hm rfl rfl rfl rfl ?_
    refine jx_load c1 hm rfl rfl rfl rfl ?_
    refine jx_load c1 hm rfl rfl rfl rfl ?_
    refine jy_ic c1 hm rfl (by decide) ?_
    refine jy_add c1 hm (b1 + 1) rfl (by omega) ?_
    obtain ⟨z272, kz272, lz272, uz272⟩ := hf ((b1 + 1)).toNat
    refine jx_sald c1 hm rfl ⟨by omega, by omega⟩ kz272 ?_
    refine jx_load c1 hm rfl rfl rfl rfl ?_
    refine jx_load c1 hm rfl rfl rfl rfl ?_
    refine jy_ic c1 hm rfl (by decide) ?_
    refine jy_add c1 hm (b1 + 2) rfl (by omega) ?_
    obtain ⟨z273, kz273, lz273, uz273⟩ := hf ((b1 + 2)).toNat
    refine jx_sald c1 hm rfl ⟨by omega, by omega⟩ kz273 ?_
    refine jx_load c1 hm rfl rfl rfl rfl ?_
    refine jx_load c1 hm rfl rfl rfl rfl ?_
    refine jy_ic c1 hm rfl (by decide) ?_
    refine jy_add c1 hm (b1 + 3) rfl (by omega) ?_
    obtain ⟨z274, kz274, lz274, uz274⟩ := hf ((b1 + 3)).toNat
    refine jx_sald c1 hm rfl ⟨by omega, by omega⟩ kz274 ?_
    refine jv_i c3 hm rfl (plp pj_X11_share rfl) rfl rfl ⟨_, _, _, rfl, sh_0⟩ rfl ((ct_X11_share_0 (X + 8000 * b1) (by omega) M4 hH4 z272 ⟨by omega, by omega⟩ z273 ⟨by omega, by omega⟩ z274 ⟨by omega, by omega⟩).le (by decide)) (fun z275 _ ⟨rfl, lz275, uz275⟩ => ?_)
    refine jx_pop c1 hm rfl rfl ?_
    refine jx_load c1 hm rfl rfl rfl rfl ?_
    refine jx_load c1 hm rfl rfl rfl rfl ?_
    refine jx_load c1 hm rfl rfl rfl rfl ?_
    refine jy_ic c1 hm rfl (by decide) ?_
    refine jy_add c1 hm (b1 + 1) rfl (by omega) ?_
    obtain ⟨z276, kz276, lz276, uz276⟩ := hf ((b1 + 1)).toNat
    refine jx_sald c1 hm rfl ⟨by omega, by omega⟩ kz276 ?_
    refine jx_load c1 hm rfl rfl rfl rfl ?_
    refine jx_load c1 hm rfl rfl rfl rfl ?_
    refine jy_ic c1 hm rfl (by decide) ?_
    refine jy_add c1 hm (b1 + 2) rfl (by omega) ?_
    obtain ⟨z277, kz277, lz277, uz277⟩ := hf ((b1 + 2)).toNat
    refine jx_sald c1 hm rfl ⟨by omega, by omega⟩ kz277 ?_
    refine jx_load c1 hm rfl rfl rfl rfl ?_
    refine jx_load c1 hm rfl rfl rfl rfl ?_
    refine jy_ic c1 hm rfl (by decide) ?_
    refine jy_add c1 hm (b1 + 3) rfl (by omega) ?_
    obtain ⟨z278, kz278, lz278, uz278⟩ := hf ((b1 + 3)).toNat
    refine jx_sald c1 hm rfl ⟨by omega, by omega⟩ kz278 ?_
    refine jv_i c3 hm rfl (plp pj_X12_share rfl) rfl rfl ⟨_, _, _, rfl, sh_173⟩ rfl ((ct_X12_share_173 (X + 8000 * b1) (by omega) M4 hH4 z276 ⟨by omega, by omega⟩ z277 ⟨by omega, by omega⟩ z278 ⟨by omega, by omega⟩).le (by decide)) (fun z279 M280 ⟨hH280, hR280, lz279, uz279⟩ => ?_)
    refine jx_pop c1 hm rfl rfl ?_
    refine jx_goto c1 hm 1445 rfl rfl ?_
    refine jx_iinc c1 hm (v := (b1 + 6)) (L' := [some (.inr (.inr (.inr 0))), some (.inr (.inr (.inl 0))), some (.inr (.inr (.inl 173))), some (.inr (.inr (.inl 198))), some (.inl (b1 + 6)), o2, o3]) rfl rfl (by omega) (by omega) rfl ?_
    refine jx_goto c1 hm 23 rfl rfl ?_
    exact ihW13 (b1 + 6) (by omega) o2 ho2 o3 ho3 M280 (hH280.mono (by omega) (by omega)) k (by omega) (SOK.cg hs1 (fun j h1 h2 => (hR280 175 j rfl))) (KOK.cg hs2 (fun j h1 h2 => (hR280 177 j rfl))) (KOK.cg hs3 (fun j h1 h2 => (hR280 177 j rfl))) (TPQ.cg hs4 (hR280 0 2 rfl) (hR280 173 2 rfl)) (TBQ.cg hs5 (fun j => (hR280 2 j rfl)) (fun j => (hR280 174 j rfl))) (IMG.cg hs6 (fun j => (hR280 46 j rfl)) (fun j => (hR280 183 j rfl))) (CNQ.cg hs7 (dq_cg (d := 5) (fun j => (hR280 6 j rfl)) (hR280 5 6 rfl) (hR280 5 7 rfl)) (nq_cp (c := 175) (c' := 175) (o := 0) (o' := 0) (fun j hj => (hR280 175 _ rfl)))) (IMQ.cg hs8 (fun j => (hR280 46 j rfl)) (dq_cg (d := 137) (fun j => (hR280 138 j rfl)) (hR280 137 6 rfl) (hR280 137 7 rfl)) (dq_cg (d := 155) (fun j => (hR280 156 j rfl)) (hR280 155 6 rfl) (hR280 155 7 rfl)) (nq_cp (c := 177) (c' := 177) (o := 0) (o' := 0) (fun j hj => (hR280 177 _ rfl))) (nq_cp (c := 177) (c' := 177) (o := 476) (o' := 476) (fun j hj => (hR280 177 _ rfl)))) (by omega)
   by_cases h281 : z17 = 28
   ·
    refine jx_tswI c1 hm 1083 rfl ⟨by omega, by omega⟩ (by rw [h281] <;> rfl) rfl ?_
    refine jx_load c1 hm rfl rfl rfl rfl ?_
    refine jx_load c1 hm rfl rfl rfl rfl ?_
    refine jx_load c1 hm rfl rfl rfl rfl ?_
    refine jy_ic c1 hm rfl (by decide) ?_
    refine jy_add c1 hm (b1 + 1) rfl (by omega) ?_
    obtain ⟨z282, kz282, lz282, uz282⟩ := hf ((b1 + 1)).toNat
    refine jx_sald c1 hm rfl ⟨by omega, by omega⟩ kz282 ?_
    refine jv_i c3 hm rfl (plp pj_X11_tax rfl) rfl rfl ⟨_, _, _, rfl, sh_0⟩ rfl ((ct_X11_tax_0 (X + 8000 * b1) (by omega) M4 hH4 z282 ⟨by omega, by omega⟩).le (by decide)) (fun z283 M284 ⟨hH284, hR284, lz283, uz283⟩ => ?_)
    refine jx_pop c1 hm rfl rfl ?_
    refine jx_load c1 hm rfl rfl rfl rfl ?_
    refine jx_load c1 hm rfl rfl rfl rfl ?_
    refine jx_load c1 hm rfl rfl rfl rfl ?_
    refine jy_ic c1 hm rfl (by decide) ?_
    refine jy_add c1 hm (b1 + 1) rfl (by omega) ?_
    obtain ⟨z285, kz285, lz285, uz285⟩ := hf ((b1 + 1)).toNat
    refine jx_sald c1 hm rfl ⟨by omega, by omega⟩ kz285 ?_
    refine jv_i c3 hm rfl (plp pj_X12_tax rfl) rfl rfl ⟨_, _, _, rfl, sh_173⟩ rfl ((ct_X12_tax_173 (X + 8000 * b1) (by omega) M284 hH284 z285 ⟨by omega, by omega⟩).le (by decide)) (fun z286 M287 ⟨hH287, hR287, lz286, uz286⟩ => ?_)
    refine jx_pop c1 hm rfl rfl ?_
    refine jx_goto c1 hm 1445 rfl rfl ?_
    refine jx_iinc c1 hm (v := (b1 + 6)) (L' := [some (.inr (.inr (.inr 0))), some (.inr (.inr (.inl 0))), some (.inr (.inr (.inl 173))), some (.inr (.inr (.inl 198))), some (.inl (b1 + 6)), o2, o3]) rfl rfl (by omega) (by omega) rfl ?_
    refine jx_goto c1 hm 23 rfl rfl ?_
    exact ihW13 (b1 + 6) (by omega) o2 ho2 o3 ho3 M287 (hH287.mono (by omega) (by omega)) k (by omega) (SOK.cg hs1 (fun j h1 h2 => ((hR287 175 j rfl).trans (hR284 175 j rfl)))) (KOK.cg hs2 (fun j h1 h2 => ((hR287 177 j rfl).trans (hR284 177 j rfl)))) (KOK.cg hs3 (fun j h1 h2 => ((hR287 177 j rfl).trans (hR284 177 j rfl)))) (TPQ.cg hs4 ((hR287 0 2 rfl).trans (hR284 0 2 rfl)) ((hR287 173 2 rfl).trans (hR284 173 2 rfl))) (TBQ.cg hs5 (fun j => ((hR287 2 j rfl).trans (hR284 2 j rfl))) (fun j => ((hR287 174 j rfl).trans (hR284 174 j rfl)))) (IMG.cg hs6 (fun j => ((hR287 46 j rfl).trans (hR284 46 j rfl))) (fun j => ((hR287 183 j rfl).trans (hR284 183 j rfl)))) (CNQ.cg hs7 (dq_cg (d := 5) (fun j => ((hR287 6 j rfl).trans (hR284 6 j rfl))) ((hR287 5 6 rfl).trans (hR284 5 6 rfl)) ((hR287 5 7 rfl).trans (hR284 5 7 rfl))) (nq_cp (c := 175) (c' := 175) (o := 0) (o' := 0) (fun j hj => ((hR287 175 _ rfl).trans (hR284 175 _ rfl))))) (IMQ.cg hs8 (fun j => ((hR287 46 j rfl).trans (hR284 46 j rfl))) (dq_cg (d := 137) (fun j => ((hR287 138 j rfl).trans (hR284 138 j rfl))) ((hR287 137 6 rfl).trans (hR284 137 6 rfl)) ((hR287 137 7 rfl).trans (hR284 137 7 rfl))) (dq_cg (d := 155) (fun j => ((hR287 156 j rfl).trans (hR284 156 j rfl))) ((hR287 155 6 rfl).trans (hR284 155 6 rfl)) ((hR287 155 7 rfl).trans (hR284 155 7 rfl))) (nq_cp (c := 177) (c' := 177) (o := 0) (o' := 0) (fun j hj => ((hR287 177 _ rfl).trans (hR284 177 _ rfl)))) (nq_cp (c := 177) (c' := 177) (o := 476) (o' := 476) (fun j hj => ((hR287 177 _ rfl).trans (hR284 177 _ rfl))))) (by omega)
   by_cases h288 : z17 = 29
   ·
    refine jx_tswI c1 hm 1108 rfl ⟨by omega, by omega⟩ (by rw [h288] <;> rfl) rfl ?_
    refine jx_load c1 hm rfl rfl rfl rfl ?_
    refine jx_load c1 hm rfl rfl rfl rfl ?_
    refine jx_load c1 hm rfl rfl rfl rfl ?_
    refine jy_ic c1 hm rfl (by decide) ?_
    refine jy_add c1 hm (b1 + 1) rfl (by omega) ?_
    obtain ⟨z289, kz289, lz289, uz289⟩ := hf ((b1 + 1)).toNat
    refine jx_sald c1 hm rfl ⟨by omega, by omega⟩ kz289 ?_
    refine jv_i c3 hm rfl (plp pj_X11_taxOf rfl) rfl rfl ⟨_, _, _, rfl, sh_0⟩ rfl ((ct_X11_taxOf_0 (X + 8000 * b1) (by omega) M4 hH4 z289 ⟨by omega, by omega⟩).le (by decide)) (fun z290 _ ⟨rfl, lz290, uz290⟩ => ?_)
    refine jx_pop c1 hm rfl rfl ?_
    refine jx_load c1 hm rfl rfl rfl rfl ?_
    refine jx_load c1 hm rfl rfl rfl rfl ?_
    refine jx_load c1 hm rfl rfl rfl rfl ?_
    refine jy_ic c1 hm rfl (by decide) ?_
    refine jy_add c1 hm (b1 + 1) rfl (by omega) ?_
    obtain ⟨z291, kz291, lz291, uz291⟩ := hf ((b1 + 1)).toNat
    refine jx_sald c1 hm rfl ⟨by omega, by omega⟩ kz291 ?_
    refine jv_i c3 hm rfl (plp pj_X12_taxOf rfl) rfl rfl ⟨_, _, _, rfl, sh_173⟩ rfl ((ct_X12_taxOf_173 (X + 8000 * b1) (by omega) M4 hH4 z291 ⟨by omega, by omega⟩).le (by decide)) (fun z292 M293 ⟨hH293, hR293, lz292, uz292⟩ => ?_)
    refine jx_pop c1 hm rfl rfl ?_
    refine jx_goto c1 hm 1445 rfl rfl ?_
    refine jx_iinc c1 hm (v := (b1 + 6)) (L' := [some (.inr (.inr (.inr 0))), some (.inr (.inr (.inl 0))), some (.inr (.inr (.inl 173))), some (.inr (.inr (.inl 198))), some (.inl (b1 + 6)), o2, o3]) rfl rfl (by omega) (by omega) rfl ?_
    refine jx_goto c1 hm 23 rfl rfl ?_
    exact ihW13 (b1 + 6) (by omega) o2 ho2 o3 ho3 M293 (hH293.mono (by omega) (by omega)) k (by omega) (SOK.cg hs1 (fun j h1 h2 => (hR293 175 j rfl))) (KOK.cg hs2 (fun j h1 h2 => (hR293 177 j rfl))) (KOK.cg hs3 (fun j h1 h2 => (hR293 177 j rfl))) (TPQ.cg hs4 (hR293 0 2 rfl) (hR293 173 2 rfl)) (TBQ.cg hs5 (fun j => (hR293 2 j rfl)) (fun j => (hR293 174 j rfl))) (IMG.cg hs6 (fun j => (hR293 46 j rfl)) (fun j => (hR293 183 j rfl))) (CNQ.cg hs7 (dq_cg (d := 5) (fun j => (hR293 6 j rfl)) (hR293 5 6 rfl) (hR293 5 7 rfl)) (nq_cp (c := 175) (c' := 175) (o := 0) (o' := 0) (fun j hj => (hR293 175 _ rfl)))) (IMQ.cg hs8 (fun j => (hR293 46 j rfl)) (dq_cg (d := 137) (fun j => (hR293 138 j rfl)) (hR293 137 6 rfl) (hR293 137 7 rfl)) (dq_cg (d := 155) (fun j => (hR293 156 j rfl)) (hR293 155 6 rfl) (hR293 155 7 rfl)) (nq_cp (c := 177) (c' := 177) (o := 0) (o' := 0) (fun j hj => (hR293 177 _ rfl))) (nq_cp (c := 177) (c' := 177) (o := 476) (o' := 476) (fun j hj => (hR293 177 _ rfl)))) (by omega)
   by_cases h294 : z17 = 30
   ·
    refine jx_tswI c1 hm 1133 rfl ⟨by omega, by omega⟩ (by rw [h294] <;> rfl) rfl ?_
    refine jx_load c1 hm rfl rfl rfl rfl ?_
    refine jv_i c3 hm rfl (plp pj_X11_proudest rfl) rfl rfl ⟨_, _, _, rfl, sh_0⟩ rfl ((ct_X11_proudest_0 (X + 8000 * b1) (by omega) M4 hH4 ).le (by decide)) (fun z295 _ ⟨rfl, lz295, uz295⟩ => ?_)
    refine jx_pop c1 hm rfl rfl ?_
    refine jx_load c1 hm rfl rfl rfl rfl ?_
    refine jv_i c3 hm rfl (plp pj_X12_proudest rfl) rfl rfl ⟨_, _, _, rfl, sh_173⟩ rfl ((ct_X12_proudest_173 (X + 8000 * b1) (by omega) M4 hH4 ).le (by decide)) (fun z296 M297 ⟨hH297, hR297, lz296, uz296⟩ => ?_)
    refine jx_pop c1 hm rfl rfl ?_
    refine jx_goto c1 hm 1445 rfl rfl ?_
    refine jx_iinc c1 hm (v := (b1 + 6)) (L' := [some (.inr (.inr (.inr 0))), some (.inr (.inr (.inl 0))), some (.inr (.inr (.inl 173))), some (.inr (.inr (.inl 198))), some (.inl (b1 + 6)), o2, o3]) rfl rfl (by omega) (by omega) rfl ?_
    refine jx_goto c1 hm 23 rfl rfl ?_
    exact ihW13 (b1 + 6) (by omega) o2 ho2 o3 ho3 M297 (hH297.mono (by omega) (by omega)) k (by omega) (SOK.cg hs1 (fun j h1 h2 => (hR297 175 j rfl))) (KOK.cg hs2 (fun j h1 h2 => (hR297 177 j rfl))) (KOK.cg hs3 (fun j h1 h2 => (hR297 177 j rfl))) (TPQ.cg hs4 (hR297 0 2 rfl) (hR297 173 2 rfl)) (TBQ.cg hs5 (fun j => (hR297 2 j rfl)) (fun j => (hR297 174 j rfl))) (IMG.cg hs6 (fun j => (hR297 46 j rfl)) (fun j => (hR297 183 j rfl))) (CNQ.cg hs7 (dq_cg (d := 5) (fun j => (hR297 6 j rfl)) (hR297 5 6 rfl) (hR297 5 7 rfl)) (nq_cp (c := 175) (c' := 175) (o := 0) (o' := 0) (fun j hj => (hR297 175 _ rfl)))) (IMQ.cg hs8 (fun j => (hR297 46 j rfl)) (dq_cg (d := 137) (fun j => (hR297 138 j rfl)) (hR297 137 6 rfl) (hR297 137 7 rfl)) (dq_cg (d := 155) (fun j => (hR297 156 j rfl)) (hR297 155 6 rfl) (hR297 155 7 rfl)) (nq_cp (c := 177) (c' := 177) (o := 0) (o' := 0) (fun j hj => (hR297 177 _ rfl))) (nq_cp (c := 177) (c' := 177) (o := 476) (o' := 476) (fun j hj => (hR297 177 _ rfl)))) (by omega)
   by_cases h298 : z17 = 31
   ·
    refine jx_tswI c1 hm 1146 rfl ⟨by omega, by omega⟩ (by rw [h298] <;> rfl) rfl ?_
    refine jx_load c1 hm rfl rfl rfl rfl ?_
    refine jx_load c1 hm rfl rfl rfl rfl ?_
    refine jx_load c1 hm rfl rfl rfl rfl ?_
    refine jy_ic c1 hm rfl (by decide) ?_
    refine jy_add c1 hm (b1 + 1) rfl (by omega) ?_
    obtain ⟨z299, kz299, lz299, uz299⟩ := hf ((b1 + 1)).toNat
    refine jx_sald c1 hm rfl ⟨by omega, by omega⟩ kz299 ?_
    refine jv_i c3 hm rfl (plp pj_X11_list rfl) rfl rfl ⟨_, _, _, rfl, sh_0⟩ rfl ((ct_X11_list_0 (X + 8000 * b1) (by omega) M4 hH4 z299 ⟨by omega, by omega⟩).le (by decide)) (fun z300 M301 ⟨hH301, hR301, lz300, uz300⟩ => ?_)
    refine jx_pop c1 hm rfl rfl ?_
    refine jx_load c1 hm rfl rfl rfl rfl ?_
    refine jx_load c1 hm rfl rfl rfl rfl ?_
    refine jx_load c1 hm rfl rfl rfl rfl ?_
    refine jy_ic c1 hm rfl (by decide) ?_
    refine jy_add c1 hm (b1 + 1) rfl (by omega) ?_
    obtain ⟨z302, kz302, lz302, uz302⟩ := hf ((b1 + 1)).toNat
    refine jx_sald c1 hm rfl ⟨by omega, by omega⟩ kz302 ?_
    refine jv_i c3 hm rfl (plp pj_X12_list rfl) rfl rfl ⟨_, _, _, rfl, sh_173⟩ rfl ((ct_X12_list_173 (X + 8000 * b1) (by omega) M301 hH301 z302 ⟨by omega, by omega⟩).le (by decide)) (fun z303 M304 ⟨hH304, hR304, lz303, uz303⟩ => ?_)
    refine jx_pop c1 hm rfl rfl ?_
    refine jx_goto c1 hm 1445 rfl rfl ?_
    refine jx_iinc c1 hm (v := (b1 + 6)) (L' := [some (.inr (.inr (.inr 0))), some (.inr (.inr (.inl 0))), some (.inr (.inr (.inl 173))), some (.inr (.inr (.inl 198))), some (.inl (b1 + 6)), o2, o3]) rfl rfl (by omega) (by omega) rfl ?_
    refine jx_goto c1 hm 23 rfl rfl ?_
    exact ihW13 (b1 + 6) (by omega) o2 ho2 o3 ho3 M304 (hH304.mono (by omega) (by omega)) k (by omega) (SOK.cg hs1 (fun j h1 h2 => ((hR304 175 j rfl).trans (hR301 175 j rfl)))) (KOK.cg hs2 (fun j h1 h2 => ((hR304 177 j rfl).trans (hR301 177 j rfl)))) (KOK.cg hs3 (fun j h1 h2 => ((hR304 177 j rfl).trans (hR301 177 j rfl)))) (TPQ.cg hs4 ((hR304 0 2 rfl).trans (hR301 0 2 rfl)) ((hR304 173 2 rfl).trans (hR301 173 2 rfl))) (TBQ.cg hs5 (fun j => ((hR304 2 j rfl).trans (hR301 2 j rfl))) (fun j => ((hR304 174 j rfl).trans (hR301 174 j rfl)))) (IMG.cg hs6 (fun j => ((hR304 46 j rfl).trans (hR301 46 j rfl))) (fun j => ((hR304 183 j rfl).trans (hR301 183 j rfl)))) (CNQ.cg hs7 (dq_cg (d := 5) (fun j => ((hR304 6 j rfl).trans (hR301 6 j rfl))) ((hR304 5 6 rfl).trans (hR301 5 6 rfl)) ((hR304 5 7 rfl).trans (hR301 5 7 rfl))) (nq_cp (c := 175) (c' := 175) (o := 0) (o' := 0) (fun j hj => ((hR304 175 _ rfl).trans (hR301 175 _ rfl))))) (IMQ.cg hs8 (fun j => ((hR304 46 j rfl).trans (hR301 46 j rfl))) (dq_cg (d := 137) (fun j => ((hR304 138 j rfl).trans (hR301 138 j rfl))) ((hR304 137 6 rfl).trans (hR301 137 6 rfl)) ((hR304 137 7 rfl).trans (hR301 137 7 rfl))) (dq_cg (d := 155) (fun j => ((hR304 156 j rfl).trans (hR301 156 j rfl))) ((hR304 155 6 rfl).trans (hR301 155 6 rfl)) ((hR304 155 7 rfl).trans (hR301 155 7 rfl))) (nq_cp (c := 177) (c' := 177) (o := 0) (o' := 0) (fun j hj => ((hR304 177 _ rfl).trans (hR301 177 _ rfl)))) (nq_cp (c := 177) (c' := 177) (o := 476) (o' := 476) (fun j hj => ((hR304 177 _ rfl).trans (hR301 177 _ rfl))))) (by omega)
   by_cases h305 : z17 = 32
   ·
    refine jx_tswI c1 hm 1171 rfl ⟨by omega, by omega⟩ (by rw [h305] <;> rfl) rfl ?_
    refine jx_load c1 hm rfl rfl rfl rfl ?_
    refine jx_load c1 hm rfl rfl rfl rfl ?_
    refine jx_load c1 hm rfl rfl rfl rfl ?_
    refine jy_ic c1 hm rfl (by decide) ?_
    refine jy_add c1 hm (b1 + 1) rfl (by omega) ?_
    obtain ⟨z306, kz306, lz306, uz306⟩ := hf ((b1 + 1)).toNat
    refine jx_sald c1 hm rfl ⟨by omega, by omega⟩ kz306 ?_
    refine jv_i c3 hm rfl (plp pj_X11_byteAt rfl) rfl rfl ⟨_, _, _, rfl, sh_0⟩ rfl ((ct_X11_byteAt_0 (X + 8000 * b1) (by omega) M4 hH4 z306 ⟨by omega, by omega⟩).le (by decide)) (fun z307 _ ⟨rfl, lz307, uz307⟩ => ?_)
    refine jx_pop c1 hm rfl rfl ?_
    refine jx_load c1 hm rfl rfl rfl rfl ?_
    refine jx_load c1 hm rfl rfl rfl rfl ?_
    refine jx_load c1 hm rfl rfl rfl rfl ?_
    refine jy_ic c1 hm rfl (by decide) ?_
    refine jy_add c1 hm (b1 + 1) rfl (by omega) ?_
    obtain ⟨z308, kz308, lz308, uz308⟩ := hf ((b1 + 1)).toNat
    refine jx_sald c1 hm rfl ⟨by omega, by omega⟩ kz308 ?_
    refine jv_i c3 hm rfl (plp pj_X12_byteAt rfl) rfl rfl ⟨_, _, _, rfl, sh_173⟩ rfl ((ct_X12_byteAt_173 (X + 8000 * b1) (by omega) M4 hH4 z308 ⟨by omega, by omega⟩).le (by decide)) (fun z309 M310 ⟨hH310, hR310, lz309, uz309⟩ => ?_)
    refine jx_pop c1 hm rfl rfl ?_
    refine jx_goto c1 hm 1445 rfl rfl ?_
    refine jx_iinc c1 hm (v := (b1 + 6)) (L' := [some (.inr (.inr (.inr 0))), some (.inr (.inr (.inl 0))), some (.inr (.inr (.inl 173))), some (.inr (.inr (.inl 198))), some (.inl (b1 + 6)), o2, o3]) rfl rfl (by omega) (by omega) rfl ?_
    refine jx_goto c1 hm 23 rfl rfl ?_
    exact ihW13 (b1 + 6) (by omega) o2 ho2 o3 ho3 M310 (hH310.mono (by omega) (by omega)) k (by omega) (SOK.cg hs1 (fun j h1 h2 => (hR310 175 j rfl))) (KOK.cg hs2 (fun j h1 h2 => (hR310 177 j rfl))) (KOK.cg hs3 (fun j h1 h2 => (hR310 177 j rfl))) (TPQ.cg hs4 (hR310 0 2 rfl) (hR310 173 2 rfl)) (TBQ.cg hs5 (fun j => (hR310 2 j rfl)) (fun j => (hR310 174 j rfl))) (IMG.cg hs6 (fun j => (hR310 46 j rfl)) (fun j => (hR310 183 j rfl))) (CNQ.cg hs7 (dq_cg (d := 5) (fun j => (hR310 6 j rfl)) (hR310 5 6 rfl) (hR310 5 7 rfl)) (nq_cp (c := 175) (c' := 175) (o := 0) (o' := 0) (fun j hj => (hR310 175 _ rfl)))) (IMQ.cg hs8 (fun j => (hR310 46 j rfl)) (dq_cg (d := 137) (fun j => (hR310 138 j rfl)) (hR310 137 6 rfl) (hR310 137 7 rfl)) (dq_cg (d := 155) (fun j => (hR310 156 j rfl)) (hR310 155 6 rfl) (hR310 155 7 rfl)) (nq_cp (c := 177) (c' := 177) (o := 0) (o' := 0) (fun j hj => (hR310 177 _ rfl))) (nq_cp (c := 177) (c' := 177) (o := 476) (o' := 476) (fun j hj => (hR310 177 _ rfl)))) (by omega)
   by_cases h311 : z17 = 33
   ·
    refine jx_tswI c1 hm 1196 rfl ⟨by omega, by omega⟩ (by rw [h311] <;> rfl) rfl ?_
    refine jx_load c1 hm rfl rfl rfl rfl ?_
    refine jx_load c1 hm rfl rfl rfl rfl ?_
    refine jx_load c1 hm rfl rfl rfl rfl ?_
    refine jy_ic c1 hm rfl (by decide) ?_
    refine jy_add c1 hm (b1 + 1) rfl (by omega) ?_
    obtain ⟨z312, kz312, lz312, uz312⟩ := hf ((b1 + 1)).toNat
    refine jx_sald c1 hm rfl ⟨by omega, by omega⟩ kz312 ?_
    refine jx_load c1 hm rfl rfl rfl rfl ?_
    refine jx_load c1 hm rfl rfl rfl rfl ?_
    refine jy_ic c1 hm rfl (by decide) ?_
    refine jy_add c1 hm (b1 + 2) rfl (by omega) ?_
    obtain ⟨z313, kz313, lz313, uz313⟩ := hf ((b1 + 2)).toNat
    refine jx_sald c1 hm rfl ⟨by omega, by omega⟩ kz313 ?_
    refine jv_i c3 hm rfl (plp pj_X11_drawn rfl) rfl rfl ⟨_, _, _, rfl, sh_0⟩ rfl ((ct_X11_drawn_0 (X + 8000 * b1) (by omega) M4 hH4 z312 ⟨by omega, by omega⟩ z313 ⟨by omega, by omega⟩).le (by decide)) (fun z314 M315 ⟨hH315, hR315, lz314, uz314⟩ => ?_)
    refine jx_pop c1 hm rfl rfl ?_
    refine jx_load c1 hm rfl rfl rfl rfl ?_
    refine jx_load c1 hm rfl rfl rfl rfl ?_
    refine jx_load c1 hm rfl rfl rfl rfl ?_
    refine jy_ic c1 hm rfl (by decide) ?_
    refine jy_add c1 hm (b1 + 1) rfl (by omega) ?_
    obtain ⟨z316, kz316, lz316, uz316⟩ := hf ((b1 + 1)).toNat
    refine jx_sald c1 hm rfl ⟨by omega, by omega⟩ kz316 ?_
    refine jx_load c1 hm rfl rfl rfl rfl ?_
    refine jx_load c1 hm rfl rfl rfl rfl ?_
    refine jy_ic c1 hm rfl (by decide) ?_
    refine jy_add c1 hm (b1 + 2) rfl (by omega) ?_
    obtain ⟨z317, kz317, lz317, uz317⟩ := hf ((b1 + 2)).toNat
    refine jx_sald c1 hm rfl ⟨by omega, by omega⟩ kz317 ?_
    refine jv_i c3 hm rfl (plp pj_X12_drawn rfl) rfl rfl ⟨_, _, _, rfl, sh_173⟩ rfl ((ct_X12_drawn_173 (X + 8000 * b1 + 360) (by omega) M315 hH315 z316 ⟨by omega, by omega⟩ z317 ⟨by omega, by omega⟩).le (by decide)) (fun z318 M319 ⟨hH319, hR319, lz318, uz318⟩ => ?_)
    rw [show X + 8000 * b1 + 360 + 1080 = X + 8000 * b1 + 1440 by omega] at hH319
    refine jx_pop c1 hm rfl rfl ?_
    refine jx_goto c1 hm 1445 rfl rfl ?_
    refine jx_iinc c1 hm (v := (b1 + 6)) (L' := [some (.inr (.inr (.inr 0))), some (.inr (.inr (.inl 0))), some (.inr (.inr (.inl 173))), some (.inr (.inr (.inl 198))), some (.inl (b1 + 6)), o2, o3]) rfl rfl (by omega) (by omega) rfl ?_
    refine jx_goto c1 hm 23 rfl rfl ?_
    exact ihW13 (b1 + 6) (by omega) o2 ho2 o3 ho3 M319 (hH319.mono (by omega) (by omega)) k (by omega) (SOK.cg hs1 (fun j h1 h2 => ((hR319 175 j (jin_hi (b := 234) (by decide +kernel) h1)).trans (hR315 175 j rfl)))) (KOK.cg hs2 (fun j h1 h2 => ((hR319 177 j rfl).trans (hR315 177 j rfl)))) (KOK.cg hs3 (fun j h1 h2 => ((hR319 177 j rfl).trans (hR315 177 j rfl)))) (TPQ.cg hs4 ((hR319 0 2 rfl).trans (hR315 0 2 rfl)) ((hR319 173 2 rfl).trans (hR315 173 2 rfl))) (TBQ.cg hs5 (fun j => ((hR319 2 j rfl).trans (hR315 2 j rfl))) (fun j => ((hR319 174 j rfl).trans (hR315 174 j rfl)))) (IMG.cg hs6 (fun j => ((hR319 46 j rfl).trans (hR315 46 j rfl))) (fun j => ((hR319 183 j rfl).trans (hR315 183 j rfl)))) (CNQ.cg hs7 (dq_cg (d := 5) (fun j => ((hR319 6 j rfl).trans (hR315 6 j rfl))) ((hR319 5 6 rfl).trans (hR315 5 6 rfl)) ((hR319 5 7 rfl).trans (hR315 5 7 rfl))) (nq_cp (c := 175) (c' := 175) (o := 0) (o' := 0) (fun j hj => ((hR319 175 _ (jin_lo (b := 5) (by decide +kernel) (by omega))).trans (hR315 175 _ rfl))))) (IMQ.cg hs8 (fun j => ((hR319 46 j rfl).trans (hR315 46 j rfl))) (dq_cg (d := 137) (fun j => ((hR319 138 j rfl).trans (hR315 138 j rfl))) ((hR319 137 6 rfl).trans (hR315 137 6 rfl)) ((hR319 137 7 rfl).trans (hR315 137 7 rfl))) (dq_cg (d := 155) (fun j => ((hR319 156 j rfl).trans (hR315 156 j rfl))) ((hR319 155 6 rfl).trans (hR315 155 6 rfl)) ((hR319 155 7 rfl).trans (hR315 155 7 rfl))) (nq_cp (c := 177) (c' := 177) (o := 0) (o' := 0) (fun j hj => ((hR319 177 _ rfl).trans (hR315 177 _ rfl)))) (nq_cp (c := 177) (c' := 177) (o := 476) (o' := 476) (fun j hj => ((hR319 177 _ rfl).trans (hR315 177 _ rfl))))) (by omega)
   by_cases h320 : z17 = 34
   ·
    refine jx_tswI c1 hm 1233 rfl ⟨by omega, by omega⟩ (by rw [h320] <;> rfl) rfl ?_
    refine jx_load c1 hm rfl rfl rfl rfl ?_
    refine jx_load c1 hm rfl rfl rfl rfl ?_
    refine jx_load c1 hm rfl rfl rfl rfl ?_
    refine jy_ic c1 hm rfl (by decide) ?_
    refine jy_add c1 hm (b1 + 1) rfl (by omega) ?_
    obtain ⟨z321, kz321, lz321, uz321⟩ := hf ((b1 + 1)).toNat
    refine jx_sald c1 hm rfl ⟨by omega, by omega⟩ kz321 ?_
    refine jx_load c1 hm rfl rfl rfl rfl ?_
    refine jx_load c1 hm rfl rfl rfl rfl ?_
    refine jy_ic c1 hm rfl (by decide) ?_
    refine jy_add c1 hm (b1 + 2) rfl (by omega) ?_
    obtain ⟨z322, kz322, lz322, uz322⟩ := hf ((b1 + 2)).toNat
    refine jx_sald c1 hm rfl ⟨by omega, by omega⟩ kz322 ?_
    refine jx_load c1 hm rfl rfl rfl rfl ?_
    refine jx_load c1 hm rfl rfl rfl rfl ?_
    refine jy_ic c1 hm rfl (by decide) ?_
    refine jy_add c1 hm (b1 + 3) rfl (by omega) ?_
    obtain ⟨z323, kz323, lz323, uz323⟩ := hf ((b1 + 3)).toNat
    refine jx_sald c1 hm rfl ⟨by omega, by omega⟩ kz323 ?_
    refine jv_i c3 hm rfl (plp pj_X11_odds rfl) rfl rfl ⟨_, _, _, rfl, sh_0⟩ rfl ((ct_X11_odds_0 (X + 8000 * b1) (by omega) M4 hH4 z321 ⟨by omega, by omega⟩ z322 ⟨by omega, by omega⟩ z323 ⟨by omega, by omega⟩).le (by decide)) (fun z324 M325 ⟨hH325, hR325, lz324, uz324⟩ => ?_)
    refine jx_pop c1 hm rfl rfl ?_
    refine jx_load c1 hm rfl rfl rfl rfl ?_
    refine jx_load c1 hm rfl rfl rfl rfl ?_
    refine jx_load c1 hm rfl rfl rfl rfl ?_
    refine jy_ic c1 hm rfl (by decide) ?_
    refine jy_add c1 hm (b1 + 1) rfl (by omega) ?_
    obtain ⟨z326, kz326, lz326, uz326⟩ := hf ((b1 + 1)).toNat
    refine jx_sald c1 hm rfl ⟨by omega, by omega⟩ kz326 ?_
    refine jx_load c1 hm rfl rfl rfl rfl ?_
    refine jx_load c1 hm rfl rfl rfl rfl ?_
    refine jy_ic c1 hm rfl (by decide) ?_
    refine jy_add c1 hm (b1 + 2) rfl (by omega) ?_
    obtain ⟨z327, kz327, lz327, uz327⟩ := hf ((b1 + 2)).toNat
    refine jx_sald c1 hm rfl ⟨by omega, by omega⟩ kz327 ?_
    refine jx_load c1 hm rfl rfl rfl rfl ?_
    refine jx_load c1 hm rfl rfl rfl rfl ?_
    refine jy_ic c1 hm rfl (by decide) ?_
    refine jy_add c1 hm (b1 + 3) rfl (by omega) ?_
    obtain ⟨z328, kz328, lz328, uz328⟩ := hf ((b1 + 3)).toNat
    refine jx_sald c1 hm rfl ⟨by omega, by omega⟩ kz328 ?_
    refine jv_i c3 hm rfl (plp pj_X12_odds rfl) rfl rfl ⟨_, _, _, rfl, sh_173⟩ rfl ((ct_X12_odds_173 (X + 8000 * b1 + 10800) (by omega) M325 hH325 z326 ⟨by omega, by omega⟩ z327 ⟨by omega, by omega⟩ z328 ⟨by omega, by omega⟩).le (by decide)) (fun z329 M330 ⟨hH330, hR330, lz329, uz329⟩ => ?_)
    rw [show X + 8000 * b1 + 10800 + 32400 = X + 8000 * b1 + 43200 by omega] at hH330
    refine jx_pop c1 hm rfl rfl ?_
    refine jx_goto c1 hm 1445 rfl rfl ?_
    refine jx_iinc c1 hm (v := (b1 + 6)) (L' := [some (.inr (.inr (.inr 0))), some (.inr (.inr (.inl 0))), some (.inr (.inr (.inl 173))), some (.inr (.inr (.inl 198))), some (.inl (b1 + 6)), o2, o3]) rfl rfl (by omega) (by omega) rfl ?_
    refine jx_goto c1 hm 23 rfl rfl ?_
    exact ihW13 (b1 + 6) (by omega) o2 ho2 o3 ho3 M330 (hH330.mono (by omega) (by omega)) k (by omega) (SOK.cg hs1 (fun j h1 h2 => ((hR330 175 j (jin_hi (b := 234) (by decide +kernel) h1)).trans (hR325 175 j rfl)))) (KOK.cg hs2 (fun j h1 h2 => ((hR330 177 j rfl).trans (hR325 177 j rfl)))) (KOK.cg hs3 (fun j h1 h2 => ((hR330 177 j rfl).trans (hR325 177 j rfl)))) (TPQ.cg hs4 ((hR330 0 2 rfl).trans (hR325 0 2 rfl)) ((hR330 173 2 rfl).trans (hR325 173 2 rfl))) (TBQ.cg hs5 (fun j => ((hR330 2 j rfl).trans (hR325 2 j rfl))) (fun j => ((hR330 174 j rfl).trans (hR325 174 j rfl)))) (IMG.cg hs6 (fun j => ((hR330 46 j rfl).trans (hR325 46 j rfl))) (fun j => ((hR330 183 j rfl).trans (hR325 183 j rfl)))) (CNQ.cg hs7 (dq_cg (d := 5) (fun j => ((hR330 6 j rfl).trans (hR325 6 j rfl))) ((hR330 5 6 rfl).trans (hR325 5 6 rfl)) ((hR330 5 7 rfl).trans (hR325 5 7 rfl))) (nq_cp (c := 175) (c' := 175) (o := 0) (o' := 0) (fun j hj => ((hR330 175 _ (jin_lo (b := 5) (by decide +kernel) (by omega))).trans (hR325 175 _ rfl))))) (IMQ.cg hs8 (fun j => ((hR330 46 j rfl).trans (hR325 46 j rfl))) (dq_cg (d := 137) (fun j => ((hR330 138 j rfl).trans (hR325 138 j rfl))) ((hR330 137 6 rfl).trans (hR325 137 6 rfl)) ((hR330 137 7 rfl).trans (hR325 137 7 rfl))) (dq_cg (d := 155) (fun j => ((hR330 156 j rfl).trans (hR325 156 j rfl))) ((hR330 155 6 rfl).trans (hR325 155 6 rfl)) ((hR330 155 7 rfl).trans (hR325 155 7 rfl))) (nq_cp (c := 177) (c' := 177) (o := 0) (o' := 0) (fun j hj => ((hR330 177 _ rfl).trans (hR325 177 _ rfl)))) (nq_cp (c := 177) (c' := 177) (o := 476) (o' := 476) (fun j hj => ((hR330 177 _ rfl).trans (hR325 177 _ rfl))))) (by omega)
   by_cases h331 : z17 = 35
   ·
    refine jx_tswI c1 hm 1282 rfl ⟨by omega, by omega⟩ (by rw [h331] <;> rfl) rfl ?_
    refine jx_load c1 hm rfl rfl rfl rfl ?_
    refine jx_load c1 hm rfl rfl rfl rfl ?_
    refine jx_load c1 hm rfl rfl rfl rfl ?_
    refine jy_ic c1 hm rfl (by decide) ?_
    refine jy_add c1 hm (b1 + 1) rfl (by omega) ?_
    obtain ⟨z332, kz332, lz332, uz332⟩ := hf ((b1 + 1)).toNat
    refine jx_sald c1 hm rfl ⟨by omega, by omega⟩ kz332 ?_
    obtain ⟨z333, k334, lz333, uz333⟩ := hH4.ld (c := 0) (i := 2) (A := 0) (B := 940) (bs_18_1 _ _ (by omega) (by omega))
    refine jv_i c3 hm rfl (plp pj_X11_book rfl) rfl rfl ⟨_, _, _, rfl, sh_0⟩ rfl ((ct_X11_book_0t (X + 8000 * b1) (by omega) M4 hH4 z332 ⟨by omega, by omega⟩).le (by decide)) (fun z335 M338 ⟨hH338, hR338, lz335, uz335, p336, p337⟩ => ?_)
    obtain ⟨z339, k340, lz339, uz339⟩ := hH338.ld (c := 0) (i := 2) (A := 0) (B := 940) (bs_18_1 _ _ (by omega) (by omega))
    refine jx_pop c1 hm rfl rfl ?_
    refine jx_load c1 hm rfl rfl rfl rfl ?_
    refine jx_load c1 hm rfl rfl rfl rfl ?_
    refine jx_load c1 hm rfl rfl rfl rfl ?_
    refine jy_ic c1 hm rfl (by decide) ?_
    refine jy_add c1 hm (b1 + 1) rfl (by omega) ?_
    obtain ⟨z341, kz341, lz341, uz341⟩ := hf ((b1 + 1)).toNat
    refine jx_sald c1 hm rfl ⟨by omega, by omega⟩ kz341 ?_
    obtain ⟨z342, k343, lz342, uz342⟩ := hH338.ld (c := 173) (i := 2) (A := 0) (B := 940) (bs_28_1 _ _ (by omega) (by omega))
    refine jv_i c3 hm rfl (plp pj_X12_book rfl) rfl rfl ⟨_, _, _, rfl, sh_173⟩ rfl ((ct_X12_book_173t (X + 8000 * b1 + 40) (by omega) M338 hH338 z341 ⟨by omega, by omega⟩).le (by decide)) (fun z344 M347 ⟨hH347, hR347, lz344, uz344, p345, p346⟩ => ?_)
    rw [show X + 8000 * b1 + 40 + 92 = X + 8000 * b1 + 132 by omega] at hH347
    obtain ⟨z348, k349, lz348, uz348⟩ := hH347.ld (c := 173) (i := 2) (A := 0) (B := 940) (bs_28_1 _ _ (by omega) (by omega))
    refine jx_pop c1 hm rfl rfl ?_
    refine jx_goto c1 hm 1445 rfl rfl ?_
    refine jx_iinc c1 hm (v := (b1 + 6)) (L' := [some (.inr (.inr (.inr 0))), some (.inr (.inr (.inl 0))), some (.inr (.inr (.inl 173))), some (.inr (.inr (.inl 198))), some (.inl (b1 + 6)), o2, o3]) rfl rfl (by omega) (by omega) rfl ?_
    refine jx_goto c1 hm 23 rfl rfl ?_
    exact ihW13 (b1 + 6) (by omega) o2 ho2 o3 ho3 M347 (hH347.mono (by omega) (by omega)) k (by omega) (SOK.cg hs1 (fun j h1 h2 => ((hR347 175 j (jin_hi (b := 234) (by decide +kernel) h1)).trans (hR338 175 j rfl)))) (KOK.cg hs2 (fun j h1 h2 => ((hR347 177 j rfl).trans (hR338 177 j rfl)))) (KOK.cg hs3 (fun j h1 h2 => ((hR347 177 j rfl).trans (hR338 177 j rfl)))) (TPQ.of (by have y9 := hs4.e; have y90_0 := hR347 0 2 rfl; have y91_173 := hR338 173 2 rfl; omega)) (TBQ.cg hs5 (fun j => ((hR347 2 j rfl).trans (hR338 2 j rfl))) (fun j => ((hR347 174 j rfl).trans (hR338 174 j rfl)))) (IMG.cg hs6 (fun j => ((hR347 46 j rfl).trans (hR338 46 j rfl))) (fun j => ((hR347 183 j rfl).trans (hR338 183 j rfl)))) (CNQ.cg hs7 (dq_cg (d := 5) (fun j => ((hR347 6 j rfl).trans (hR338 6 j rfl))) ((hR347 5 6 rfl).trans (hR338 5 6 rfl)) ((hR347 5 7 rfl).trans (hR338 5 7 rfl))) (nq_cp (c := 175) (c' := 175) (o := 0) (o' := 0) (fun j hj => ((hR347 175 _ (jin_lo (b := 5) (by decide +kernel) (by omega))).trans (hR338 175 _ rfl))))) (IMQ.cg hs8 (fun j => ((hR347 46 j rfl).trans (hR338 46 j rfl))) (dq_cg (d := 137) (fun j => ((hR347 138 j rfl).trans (hR338 138 j rfl))) ((hR347 137 6 rfl).trans (hR338 137 6 rfl)) ((hR347 137 7 rfl).trans (hR338 137 7 rfl))) (dq_cg (d := 155) (fun j => ((hR347 156 j rfl).trans (hR338 156 j rfl))) ((hR347 155 6 rfl).trans (hR338 155 6 rfl)) ((hR347 155 7 rfl).trans (hR338 155 7 rfl))) (nq_cp (c := 177) (c' := 177) (o := 0) (o' := 0) (fun j hj => ((hR347 177 _ rfl).trans (hR338 177 _ rfl)))) (nq_cp (c := 177) (c' := 177) (o := 476) (o' := 476) (fun j hj => ((hR347 177 _ rfl).trans (hR338 177 _ rfl))))) (by omega)
   by_cases h350 : z17 = 36
   ·
    refine jx_tswI c1 hm 1307 rfl ⟨by omega, by omega⟩ (by rw [h350] <;> rfl) rfl ?_
    refine jx_load c1 hm rfl rfl rfl rfl ?_
    refine jx_load c1 hm rfl rfl rfl rfl ?_
    refine jx_load c1 hm rfl rfl rfl rfl ?_
    refine jy_ic c1 hm rfl (by decide) ?_
    refine jy_add c1 hm (b1 + 1) rfl (by omega) ?_
    obtain ⟨z351, kz351, lz351, uz351⟩ := hf ((b1 + 1)).toNat
    refine jx_sald c1 hm rfl ⟨by omega, by omega⟩ kz351 ?_
    refine jv_i c3 hm rfl (plp pj_X11_told rfl) rfl rfl ⟨_, _, _, rfl, sh_0⟩ rfl ((ct_X11_told_0 (X + 8000 * b1) (by omega) M4 hH4 z351 ⟨by omega, by omega⟩).le (by decide)) (fun z352 _ ⟨rfl, lz352, uz352⟩ => ?_)
    refine jx_pop c1 hm rfl rfl ?_
    refine jx_load c1 hm rfl rfl rfl rfl ?_
    refine jx_load c1 hm rfl rfl rfl rfl ?_
    refine jx_load c1 hm rfl rfl rfl rfl ?_
    refine jy_ic c1 hm rfl (by decide) ?_
    refine jy_add c1 hm (b1 + 1) rfl (by omega) ?_
    obtain ⟨z353, kz353, lz353, uz353⟩ := hf ((b1 + 1)).toNat
    refine jx_sald c1 hm rfl ⟨by omega, by omega⟩ kz353 ?_
    refine jv_i c3 hm rfl (plp pj_X12_told rfl) rfl rfl ⟨_, _, _, rfl, sh_173⟩ rfl ((ct_X12_told_173 (X + 8000 * b1) (by omega) M4 hH4 z353 ⟨by omega, by omega⟩).le (by decide)) (fun z354 M355 ⟨hH355, hR355, lz354, uz354⟩ => ?_)
    refine jx_pop c1 hm rfl rfl ?_
    refine jx_goto c1 hm 1445 rfl rfl ?_
    refine jx_iinc c1 hm (v := (b1 + 6)) (L' := [some (.inr (.inr (.inr 0))), some (.inr (.inr (.inl 0))), some (.inr (.inr (.inl 173))), some (.inr (.inr (.inl 198))), some (.inl (b1 + 6)), o2, o3]) rfl rfl (by omega) (by omega) rfl ?_
    refine jx_goto c1 hm 23 rfl rfl ?_
    exact ihW13 (b1 + 6) (by omega) o2 ho2 o3 ho3 M355 (hH355.mono (by omega) (by omega)) k (by omega) (SOK.cg hs1 (fun j h1 h2 => (hR355 175 j rfl))) (KOK.cg hs2 (fun j h1 h2 => (hR355 177 j rfl))) (KOK.cg hs3 (fun j h1 h2 => (hR355 177 j rfl))) (TPQ.cg hs4 (hR355 0 2 rfl) (hR355 173 2 rfl)) (TBQ.cg hs5 (fun j => (hR355 2 j rfl)) (fun j => (hR355 174 j rfl))) (IMG.cg hs6 (fun j => (hR355 46 j rfl)) (fun j => (hR355 183 j rfl))) (CNQ.cg hs7 (dq_cg (d := 5) (fun j => (hR355 6 j rfl)) (hR355 5 6 rfl) (hR355 5 7 rfl)) (nq_cp (c := 175) (c' := 175) (o := 0) (o' := 0) (fun j hj => (hR355 175 _ rfl)))) (IMQ.cg hs8 (fun j => (hR355 46 j rfl)) (dq_cg (d := 137) (fun j => (hR355 138 j rfl)) (hR355 137 6 rfl) (hR355 137 7 rfl)) (dq_cg (d := 155) (fun j => (hR355 156 j rfl)) (hR355 155 6 rfl) (hR355 155 7 rfl)) (nq_cp (c := 177) (c' := 177) (o := 0) (o' := 0) (fun j hj => (hR355 177 _ rfl))) (nq_cp (c := 177) (c' := 177) (o := 476) (o' := 476) (fun j hj => (hR355 177 _ rfl)))) (by omega)
   by_cases h356 : z17 = 37
   ·
    refine jx_tswI c1 hm 1332 rfl ⟨by omega, by omega⟩ (by rw [h356] <;> rfl) rfl ?_
    refine jx_load c1 hm rfl rfl rfl rfl ?_
    refine jv_i c3 hm rfl (plp pj_X11_sentence rfl) rfl rfl ⟨_, _, _, rfl, sh_0⟩ rfl ((ct_X11_sentence_0t (X + 8000 * b1) (by omega) M4 hH4 ).le (by decide)) (fun z357 M359 ⟨hH359, hR359, lz357, uz357, p358⟩ => ?_)
    obtain ⟨z360, k361, lz360, uz360⟩ := hH359.ld (c := 0) (i := 2) (A := 0) (B := 940) (bs_18_1 _ _ (by omega) (by omega))
    refine jx_pop c1 hm rfl rfl ?_
    refine jx_load c1 hm rfl rfl rfl rfl ?_
    refine jv_i c3 hm rfl (plp pj_X12_sentence rfl) rfl rfl ⟨_, _, _, rfl, sh_173⟩ rfl ((ct_X12_sentence_173t (X + 8000 * b1) (by omega) M359 hH359 (SOK.cg hs1 (fun j h1 h2 => (hR359 175 j rfl)))).le (by decide)) (fun z362 M365 ⟨hH365, hR365, lz362, uz362, p363, p364⟩ => ?_)
    obtain ⟨z366, k367, lz366, uz366⟩ := hH365.ld (c := 173) (i := 2) (A := 0) (B := 940) (bs_28_1 _ _ (by omega) (by omega))
    refine jx_pop c1 hm rfl rfl ?_
    refine jx_goto c1 hm 1445 rfl rfl ?_
    refine jx_iinc c1 hm (v := (b1 + 6)) (L' := [some (.inr (.inr (.inr 0))), some (.inr (.inr (.inl 0))), some (.inr (.inr (.inl 173))), some (.inr (.inr (.inl 198))), some (.inl (b1 + 6)), o2, o3]) rfl rfl (by omega) (by omega) rfl ?_
    refine jx_goto c1 hm 23 rfl rfl ?_
    exact ihW13 (b1 + 6) (by omega) o2 ho2 o3 ho3 M365 (hH365.mono (by omega) (by omega)) k (by omega) p363 (KOK.cg hs2 (fun j h1 h2 => ((hR365 177 j rfl).trans (hR359 177 j rfl)))) (KOK.cg hs3 (fun j h1 h2 => ((hR365 177 j rfl).trans (hR359 177 j rfl)))) (TPQ.of (by have y9 := hs4.e; have y90_0 := hR365 0 2 rfl; have y91_173 := hR359 173 2 rfl; omega)) (TBQ.cg hs5 (fun j => ((hR365 2 j rfl).trans (hR359 2 j rfl))) (fun j => ((hR365 174 j rfl).trans (hR359 174 j rfl)))) (IMG.cg hs6 (fun j => ((hR365 46 j rfl).trans (hR359 46 j rfl))) (fun j => ((hR365 183 j rfl).trans (hR359 183 j rfl)))) (CNQ.cg hs7 (dq_cg (d := 5) (fun j => ((hR365 6 j rfl).trans (hR359 6 j rfl))) ((hR365 5 6 rfl).trans (hR359 5 6 rfl)) ((hR365 5 7 rfl).trans (hR359 5 7 rfl))) (nq_cp (c := 175) (c' := 175) (o := 0) (o' := 0) (fun j hj => ((hR365 175 _ (jin_lo (b := 5) (by decide +kernel) (by omega))).trans (hR359 175 _ rfl))))) (IMQ.cg hs8 (fun j => ((hR365 46 j rfl).trans (hR359 46 j rfl))) (dq_cg (d := 137) (fun j => ((hR365 138 j rfl).trans (hR359 138 j rfl))) ((hR365 137 6 rfl).trans (hR359 137 6 rfl)) ((hR365 137 7 rfl).trans (hR359 137 7 rfl))) (dq_cg (d := 155) (fun j => ((hR365 156 j rfl).trans (hR359 156 j rfl))) ((hR365 155 6 rfl).trans (hR359 155 6 rfl)) ((hR365 155 7 rfl).trans (hR359 155 7 rfl))) (nq_cp (c := 177) (c' := 177) (o := 0) (o' := 0) (fun j hj => ((hR365 177 _ rfl).trans (hR359 177 _ rfl)))) (nq_cp (c := 177) (c' := 177) (o := 476) (o' := 476) (fun j hj => ((hR365 177 _ rfl).trans (hR359 177 _ rfl))))) (by omega)
   by_cases h368 : z17 = 38
   ·
    refine jx_tswI c1 hm 1345 rfl ⟨by omega, by omega⟩ (by rw [h368] <;> rfl) rfl ?_
    refine jx_load c1 hm rfl rfl rfl rfl ?_
    refine jx_load c1 hm rfl rfl rfl rfl ?_
    refine jx_load c1 hm rfl rfl rfl rfl ?_
    refine jy_ic c1 hm rfl (by decide) ?_
    refine jy_add c1 hm (b1 + 1) rfl (by omega) ?_
    obtain ⟨z369, kz369, lz369, uz369⟩ := hf ((b1 + 1)).toNat
    refine jx_sald c1 hm rfl ⟨by omega, by omega⟩ kz369 ?_
    refine jv_i c3 hm rfl (plp pj_X11_said rfl) rfl rfl ⟨_, _, _, rfl, sh_0⟩ rfl ((ct_X11_said_0 (X + 8000 * b1) (by omega) M4 hH4 z369 ⟨by omega, by omega⟩).le (by decide)) (fun z370 M371 ⟨hH371, hR371, lz370, uz370⟩ => ?_)
    refine jx_pop c1 hm rfl rfl ?_
    refine jx_load c1 hm rfl rfl rfl rfl ?_
    refine jx_load c1 hm rfl rfl rfl rfl ?_
    refine jx_load c1 hm rfl rfl rfl rfl ?_
    refine jy_ic c1 hm rfl (by decide) ?_
    refine jy_add c1 hm (b1 + 1) rfl (by omega) ?_
    obtain ⟨z372, kz372, lz372, uz372⟩ := hf ((b1 + 1)).toNat
    refine jx_sald c1 hm rfl ⟨by omega, by omega⟩ kz372 ?_
    refine jv_i c3 hm rfl (plp pj_X12_said rfl) rfl rfl ⟨_, _, _, rfl, sh_173⟩ rfl ((ct_X12_said_173 (X + 8000 * b1) (by omega) M371 hH371 z372 ⟨by omega, by omega⟩ (SOK.cg hs1 (fun j h1 h2 => (hR371 175 j rfl)))).le (by decide)) (fun z373 M374 ⟨hH374, hR374, lz373, uz373⟩ => ?_)
    refine jx_pop c1 hm rfl rfl ?_
    refine jx_goto c1 hm 1445 rfl rfl ?_
    refine jx_iinc c1 hm (v := (b1 + 6)) (L' := [some (.inr (.inr (.inr 0))), some (.inr (.inr (.inl 0))), some (.inr (.inr (.inl 173))), some (.inr (.inr (.inl 198))), some (.inl (b1 + 6)), o2, o3]) rfl rfl (by omega) (by omega) rfl ?_
    refine jx_goto c1 hm 23 rfl rfl ?_
    exact ihW13 (b1 + 6) (by omega) o2 ho2 o3 ho3 M374 (hH374.mono (by omega) (by omega)) k (by omega) (SOK.cg hs1 (fun j h1 h2 => ((hR374 175 j rfl).trans (hR371 175 j rfl)))) (KOK.cg hs2 (fun j h1 h2 => ((hR374 177 j rfl).trans (hR371 177 j rfl)))) (KOK.cg hs3 (fun j h1 h2 => ((hR374 177 j rfl).trans (hR371 177 j rfl)))) (TPQ.cg hs4 ((hR374 0 2 rfl).trans (hR371 0 2 rfl)) ((hR374 173 2 rfl).trans (hR371 173 2 rfl))) (TBQ.cg hs5 (fun j => ((hR374 2 j rfl).trans (hR371 2 j rfl))) (fun j => ((hR374 174 j rfl).trans (hR371 174 j rfl)))) (IMG.cg hs6 (fun j => ((hR374 46 j rfl).trans (hR371 46 j rfl))) (fun j => ((hR374 183 j rfl).trans (hR371 183 j rfl)))) (CNQ.cg hs7 (dq_cg (d := 5) (fun j => ((hR374 6 j rfl).trans (hR371 6 j rfl))) ((hR374 5 6 rfl).trans (hR371 5 6 rfl)) ((hR374 5 7 rfl).trans (hR371 5 7 rfl))) (nq_cp (c := 175) (c' := 175) (o := 0) (o' := 0) (fun j hj => ((hR374 175 _ rfl).trans (hR371 175 _ rfl))))) (IMQ.cg hs8 (fun j => ((hR374 46 j rfl).trans (hR371 46 j rfl))) (dq_cg (d := 137) (fun j => ((hR374 138 j rfl).trans (hR371 138 j rfl))) ((hR374 137 6 rfl).trans (hR371 137 6 rfl)) ((hR374 137 7 rfl).trans (hR371 137 7 rfl))) (dq_cg (d := 155) (fun j => ((hR374 156 j rfl).trans (hR371 156 j rfl))) ((hR374 155 6 rfl).trans (hR371 155 6 rfl)) ((hR374 155 7 rfl).trans (hR371 155 7 rfl))) (nq_cp (c := 177) (c' := 177) (o := 0) (o' := 0) (fun j hj => ((hR374 177 _ rfl).trans (hR371 177 _ rfl)))) (nq_cp (c := 177) (c' := 177) (o := 476) (o' := 476) (fun j hj => ((hR374 177 _ rfl).trans (hR371 177 _ rfl))))) (by omega)
   by_cases h375 : z17 = 39
   ·
    refine jx_tswI c1 hm 1370 rfl ⟨by omega, by omega⟩ (by rw [h375] <;> rfl) rfl ?_
    refine jx_load c1 hm rfl rfl rfl rfl ?_
    refine jx_load c1 hm rfl rfl rfl rfl ?_
    refine jx_load c1 hm rfl rfl rfl rfl ?_
    refine jy_ic c1 hm rfl (by decide) ?_
    refine jy_add c1 hm (b1 + 1) rfl (by omega) ?_
    obtain ⟨z376, kz376, lz376, uz376⟩ := hf ((b1 + 1)).toNat
    refine jx_sald c1 hm rfl ⟨by omega, by omega⟩ kz376 ?_
    refine jv_i c3 hm rfl (plp pj_X11_image rfl) rfl rfl ⟨_, _, _, rfl, sh_0⟩ rfl ((ct_X11_image_0w (X + 8000 * b1) (by omega) M4 hH4 z376 ⟨by omega, by omega⟩).le (by decide)) (fun z377 M382 ⟨hH382, hR382, lz377, uz377, p378, p379, p380, p381⟩ => ?_)
    refine jx_pop c1 hm rfl rfl ?_
    refine jx_load c1 hm rfl rfl rfl rfl ?_
    refine jx_load c1 hm rfl rfl rfl rfl ?_
    refine jx_load c1 hm rfl rfl rfl rfl ?_
    refine jy_ic c1 hm rfl (by decide) ?_
    refine jy_add c1 hm (b1 + 1) rfl (by omega) ?_
    obtain ⟨z383, kz383, lz383, uz383⟩ := hf ((b1 + 1)).toNat
    refine jx_sald c1 hm rfl ⟨by omega, by omega⟩ kz383 ?_
    refine jv_i c3 hm rfl (plp pj_X12_image rfl) rfl rfl ⟨_, _, _, rfl, sh_173⟩ rfl ((ct_X12_image_173w (X + 8000 * b1) (by omega) M382 hH382 z383 ⟨by omega, by omega⟩ (SOK.cg hs1 (fun j h1 h2 => (hR382 175 j rfl))) (KOK.cg hs2 (fun j h1 h2 => (hR382 177 j rfl))) (KOK.cg hs3 (fun j h1 h2 => (hR382 177 j rfl)))).le (by decide)) (fun z384 M391 ⟨hH391, hR391, lz384, uz384, p385, p386, p387, p388, p389, p390⟩ => ?_)
    refine jx_pop c1 hm rfl rfl ?_
    refine jx_goto c1 hm 1445 rfl rfl ?_
    refine jx_iinc c1 hm (v := (b1 + 6)) (L' := [some (.inr (.inr (.inr 0))), some (.inr (.inr (.inl 0))), some (.inr (.inr (.inl 173))), some (.inr (.inr (.inl 198))), some (.inl (b1 + 6)), o2, o3]) rfl rfl (by omega) (by omega) rfl ?_
    refine jx_goto c1 hm 23 rfl rfl ?_
    exact ihW13 (b1 + 6) (by omega) o2 ho2 o3 ho3 M391 (hH391.mono (by omega) (by omega)) k (by omega) (SOK.cg hs1 (fun j h1 h2 => ((hR391 175 j rfl).trans (hR382 175 j rfl)))) p385 p386 (TPQ.cg hs4 ((hR391 0 2 rfl).trans (hR382 0 2 rfl)) ((hR391 173 2 rfl).trans (hR382 173 2 rfl))) (TBQ.cg hs5 (fun j => ((hR391 2 j rfl).trans (hR382 2 j rfl))) (fun j => ((hR391 174 j rfl).trans (hR382 174 j rfl)))) (IMG.im hs6 (kz376.symm.trans kz383) p378 (fun j => hR382 183 j rfl) p387 (fun j => hR391 46 j rfl)) (CNQ.cg hs7 (dq_cg (d := 5) (fun j => ((hR391 6 j rfl).trans (hR382 6 j rfl))) ((hR391 5 6 rfl).trans (hR382 5 6 rfl)) ((hR391 5 7 rfl).trans (hR382 5 7 rfl))) (nq_cp (c := 175) (c' := 175) (o := 0) (o' := 0) (fun j hj => ((hR391 175 _ rfl).trans (hR382 175 _ rfl))))) (IMQ.im hs8 hs7 (kz376.symm.trans kz383) p378 p379 p380 p381 (nq_cp (c := 175) (c' := 175) (o := 0) (o' := 0) (fun j hj => (hR382 175 _ rfl))) (nq_cp (c := 177) (c' := 177) (o := 0) (o' := 0) (fun j hj => (hR382 177 _ rfl))) (nq_cp (c := 177) (c' := 177) (o := 476) (o' := 476) (fun j hj => (hR382 177 _ rfl))) p388 p389 p390 (fun j => hR391 46 j rfl) (dq_cg (d := 137) (fun j => (hR391 138 j rfl)) (hR391 137 6 rfl) (hR391 137 7 rfl)) (dq_cg (d := 155) (fun j => (hR391 156 j rfl)) (hR391 155 6 rfl) (hR391 155 7 rfl))) (by omega)
   by_cases h392 : z17 = 40
   ·
    refine jx_tswI c1 hm 1395 rfl ⟨by omega, by omega⟩ (by rw [h392] <;> rfl) rfl ?_
    refine jx_load c1 hm rfl rfl rfl rfl ?_
    refine jx_load c1 hm rfl rfl rfl rfl ?_
    refine jx_load c1 hm rfl rfl rfl rfl ?_
    refine jy_ic c1 hm rfl (by decide) ?_
    refine jy_add c1 hm (b1 + 1) rfl (by omega) ?_
    obtain ⟨z393, kz393, lz393, uz393⟩ := hf ((b1 + 1)).toNat
    refine jx_sald c1 hm rfl ⟨by omega, by omega⟩ kz393 ?_
    refine jv_i c3 hm rfl (plp pj_X11_restore rfl) rfl rfl ⟨_, _, _, rfl, sh_0⟩ rfl ((ct_X11_restore_0w (X + 8000 * b1) (by omega) M4 hH4 z393 ⟨by omega, by omega⟩).le (by decide)) (fun z394 M397 ⟨hH397, hR397, lz394, uz394, p395, p396⟩ => ?_)
    refine jx_pop c1 hm rfl rfl ?_
    refine jx_load c1 hm rfl rfl rfl rfl ?_
    refine jx_load c1 hm rfl rfl rfl rfl ?_
    refine jx_load c1 hm rfl rfl rfl rfl ?_
    refine jy_ic c1 hm rfl (by decide) ?_
    refine jy_add c1 hm (b1 + 1) rfl (by omega) ?_
    obtain ⟨z398, kz398, lz398, uz398⟩ := hf ((b1 + 1)).toNat
    refine jx_sald c1 hm rfl ⟨by omega, by omega⟩ kz398 ?_
    refine jv_i c3 hm rfl (plp pj_X12_restore rfl) rfl rfl ⟨_, _, _, rfl, sh_173⟩ rfl ((ct_X12_restore_173w (X + 8000 * b1) (by omega) M397 hH397 z398 ⟨by omega, by omega⟩ (SOK.cg hs1 (fun j h1 h2 => (hR397 175 j rfl))) (KOK.cg hs2 (fun j h1 h2 => (hR397 177 j rfl))) (KOK.cg hs3 (fun j h1 h2 => (hR397 177 j rfl)))).le (by decide)) (fun z399 M403 ⟨hH403, hR403, lz399, uz399, p400, p401, p402⟩ => ?_)
    refine jx_pop c1 hm rfl rfl ?_
    refine jx_goto c1 hm 1445 rfl rfl ?_
    refine jx_iinc c1 hm (v := (b1 + 6)) (L' := [some (.inr (.inr (.inr 0))), some (.inr (.inr (.inl 0))), some (.inr (.inr (.inl 173))), some (.inr (.inr (.inl 198))), some (.inl (b1 + 6)), o2, o3]) rfl rfl (by omega) (by omega) rfl ?_
    refine jx_goto c1 hm 23 rfl rfl ?_
    exact ihW13 (b1 + 6) (by omega) o2 ho2 o3 ho3 M403 (hH403.mono (by omega) (by omega)) k (by omega) p400 (KOK.cg hs2 (fun j h1 h2 => ((hR403 177 j rfl).trans (hR397 177 j rfl)))) (KOK.cg hs3 (fun j h1 h2 => ((hR403 177 j rfl).trans (hR397 177 j rfl)))) (TPQ.cg hs4 ((hR403 0 2 rfl).trans (hR397 0 2 rfl)) ((hR403 173 2 rfl).trans (hR397 173 2 rfl))) (TBQ.cg hs5 (fun j => ((hR403 2 j rfl).trans (hR397 2 j rfl))) (fun j => ((hR403 174 j rfl).trans (hR397 174 j rfl)))) (IMG.cg hs6 (fun j => ((hR403 46 j rfl).trans (hR397 46 j rfl))) (fun j => ((hR403 183 j rfl).trans (hR397 183 j rfl)))) (CNQ.re hs7 hs6 hs8 (kz393.symm.trans kz398) p395 p396 (fun j => hR397 183 j rfl) (nq_cp (c := 175) (c' := 175) (o := 0) (o' := 0) (fun j hj => (hR397 175 _ rfl))) (nq_cp (c := 177) (c' := 177) (o := 0) (o' := 0) (fun j hj => (hR397 177 _ rfl))) (nq_cp (c := 177) (c' := 177) (o := 476) (o' := 476) (fun j hj => (hR397 177 _ rfl))) p401 p402 (dq_cg (d := 5) (fun j => (hR403 6 j rfl)) (hR403 5 6 rfl) (hR403 5 7 rfl))) (IMQ.cg hs8 (fun j => ((hR403 46 j rfl).trans (hR397 46 j rfl))) (dq_cg (d := 137) (fun j => ((hR403 138 j rfl).trans (hR397 138 j rfl))) ((hR403 137 6 rfl).trans (hR397 137 6 rfl)) ((hR403 137 7 rfl).trans (hR397 137 7 rfl))) (dq_cg (d := 155) (fun j => ((hR403 156 j rfl).trans (hR397 156 j rfl))) ((hR403 155 6 rfl).trans (hR397 155 6 rfl)) ((hR403 155 7 rfl).trans (hR397 155 7 rfl))) (nq_cp (c := 177) (c' := 177) (o := 0) (o' := 0) (fun j hj => ((hR403 177 _ rfl).trans (hR397 177 _ rfl)))) (nq_cp (c := 177) (c' := 177) (o := 476) (o' := 476) (fun j hj => ((hR403 177 _ rfl).trans (hR397 177 _ rfl))))) (by omega)
   by_cases h404 : z17 = 41
   ·
    refine jx_tswI c1 hm 1420 rfl ⟨by omega, by omega⟩ (by rw [h404] <;> rfl) rfl ?_
    refine jx_load c1 hm rfl rfl rfl rfl ?_
    refine jx_load c1 hm rfl rfl rfl rfl ?_
    refine jx_load c1 hm rfl rfl rfl rfl ?_
    refine jy_ic c1 hm rfl (by decide) ?_
    refine jy_add c1 hm (b1 + 1) rfl (by omega) ?_
    obtain ⟨z405, kz405, lz405, uz405⟩ := hf ((b1 + 1)).toNat
    refine jx_sald c1 hm rfl ⟨by omega, by omega⟩ kz405 ?_
    obtain ⟨z406, k407, lz406, uz406⟩ := hH4.ld (c := 0) (i := 2) (A := 0) (B := 940) (bs_18_1 _ _ (by omega) (by omega))
    refine jv_i c3 hm rfl (plp pj_X11_count rfl) rfl rfl ⟨_, _, _, rfl, sh_0⟩ rfl ((ct_X11_count_0w (X + 8000 * b1) (by omega) M4 hH4 z405 ⟨by omega, by omega⟩).le (by decide)) (fun z408 _ ⟨rfl, lz408, uz408, p409⟩ => ?_)
    refine jx_load c1 hm rfl rfl rfl rfl ?_
    refine jx_load c1 hm rfl rfl rfl rfl ?_
    refine jx_load c1 hm rfl rfl rfl rfl ?_
    refine jy_ic c1 hm rfl (by decide) ?_
    refine jy_add c1 hm (b1 + 1) rfl (by omega) ?_
    obtain ⟨z410, kz410, lz410, uz410⟩ := hf ((b1 + 1)).toNat
    refine jx_sald c1 hm rfl ⟨by omega, by omega⟩ kz410 ?_
    obtain ⟨z411, k412, lz411, uz411⟩ := hH4.ld (c := 173) (i := 2) (A := 0) (B := 940) (bs_28_1 _ _ (by omega) (by omega))
    refine jv_i c3 hm rfl (plp pj_X12_count rfl) rfl rfl ⟨_, _, _, rfl, sh_173⟩ rfl ((ct_X12_count_173w (X + 8000 * b1) (by omega) M4 hH4 z410 ⟨by omega, by omega⟩).le (by decide)) (fun z413 M415 ⟨hH415, hR415, lz413, uz413, p414⟩ => ?_)
    have hq9 : z408 = z413 := p409.trans ((ct_eq (kz405.symm.trans kz410) hs7 hs4).trans p414.symm)
    refine jc_eq c1 hm 1445 rfl rfl (fun h416 => ?_) (fun h416 => ?_)
    ·
     refine jx_iinc c1 hm (v := (b1 + 6)) (L' := [some (.inr (.inr (.inr 0))), some (.inr (.inr (.inl 0))), some (.inr (.inr (.inl 173))), some (.inr (.inr (.inl 198))), some (.inl (b1 + 6)), o2, o3]) rfl rfl (by omega) (by omega) rfl ?_
     refine jx_goto c1 hm 23 rfl rfl ?_
     exact ihW13 (b1 + 6) (by omega) o2 ho2 o3 ho3 M415 (hH415.mono (by omega) (by omega)) k (by omega) (SOK.cg hs1 (fun j h1 h2 => (hR415 175 j rfl))) (KOK.cg hs2 (fun j h1 h2 => (hR415 177 j rfl))) (KOK.cg hs3 (fun j h1 h2 => (hR415 177 j rfl))) (TPQ.cg hs4 (hR415 0 2 rfl) (hR415 173 2 rfl)) (TBQ.cg hs5 (fun j => (hR415 2 j rfl)) (fun j => (hR415 174 j rfl))) (IMG.cg hs6 (fun j => (hR415 46 j rfl)) (fun j => (hR415 183 j rfl))) (CNQ.cg hs7 (dq_cg (d := 5) (fun j => (hR415 6 j rfl)) (hR415 5 6 rfl) (hR415 5 7 rfl)) (nq_cp (c := 175) (c' := 175) (o := 0) (o' := 0) (fun j hj => (hR415 175 _ rfl)))) (IMQ.cg hs8 (fun j => (hR415 46 j rfl)) (dq_cg (d := 137) (fun j => (hR415 138 j rfl)) (hR415 137 6 rfl) (hR415 137 7 rfl)) (dq_cg (d := 155) (fun j => (hR415 156 j rfl)) (hR415 155 6 rfl) (hR415 155 7 rfl)) (nq_cp (c := 177) (c' := 177) (o := 0) (o' := 0) (fun j hj => (hR415 177 _ rfl))) (nq_cp (c := 177) (c' := 177) (o := 476) (o' := 476) (fun j hj => (hR415 177 _ rfl)))) (by omega)
    refine jy_ic c1 hm rfl (by decide) ?_
    exfalso; omega
   refine jx_tswO c1 hm 1445 rfl (by omega) rfl ?_
   refine jx_iinc c1 hm (v := (b1 + 6)) (L' := [some (.inr (.inr (.inr 0))), some (.inr (.inr (.inl 0))), some (.inr (.inr (.inl 173))), some (.inr (.inr (.inl 198))), some (.inl (b1 + 6)), o2, o3]) rfl rfl (by omega) (by omega) rfl ?_
   refine jx_goto c1 hm 23 rfl rfl ?_
   exact ihW13 (b1 + 6) (by omega) o2 ho2 o3 ho3 M4 (hH4.mono (by omega) (by omega)) k (by omega) (SOK.cg hs1 (fun j h1 h2 => rfl)) (KOK.cg hs2 (fun j h1 h2 => rfl)) (KOK.cg hs3 (fun j h1 h2 => rfl)) (TPQ.cg hs4 rfl rfl) (TBQ.cg hs5 (fun j => rfl) (fun j => rfl)) (IMG.cg hs6 (fun j => rfl) (fun j => rfl)) (CNQ.cg hs7 rfl rfl) (IMQ.cg hs8 (fun j => rfl) rfl rfl rfl rfl) (by omega)
 exact W13 (3072 + 1 : Int).toNat 0 (by omega) none (Or.inl rfl) none (Or.inl rfl) M0 (hH0.mono (by omega) (by omega)) 0 (by omega) hs1 hs2 hs3 hs4 hs5 hs6 hs7 hs8 (by omega)
