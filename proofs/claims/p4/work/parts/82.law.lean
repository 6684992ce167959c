/-! The law's loop. -/
theorem law_loop (n : Nat) (nn : Int) (hnn : (n : Int) = nn) (hn : 0 ≤ nn ∧ nn ≤ 3072) (f : Nat → Int) (hf : ∀ j, ∃ z, f j = z ∧ -2147483648 ≤ z ∧ z ≤ 2147483647) (F : Nat → JP) (c1f : ∀ k, k ≤ 512 → jstC shp PL (some (n, f)) 1000 (F k)) (c2f : ∀ k, k ≤ 512 → jreC PL 1000 (fun r _ => r = some (.inl 1)) (F k)) (c3f : ∀ k, k ≤ 512 → jcaC shp PL (JOk shp PJ 94) 1000 (F k))
 (cm : ∀ k : Nat, k < 512 → ∀ (X : Int) (L : JL) (a b : Int) (M : JM), 0 ≤ X → X ≤ 100000000 → HI X M → -2147483648 ≤ a → a ≤ 2147483647 → -2147483648 ≤ b → b ≤ 2147483647 → (∀ (v : Int) (M' : JM), 0 ≤ v → v ≤ 1 → HI X M' → (∀ c i, M'.1 c i = M.1 c i) → F (k + 1) 365 L [.inl v] M') → F k 362 L [.inr (.inr (.inl 198)), .inl b, .inl a, .inr (.inr (.inl 0))] M)
 (X : Int) (hX : 0 ≤ X ∧ X ≤ 0) (M0 : JM) (hH0 : HI X M0) (hs1 : SOK M0) (hs2 : KOK M0 0) (hs3 : KOK M0 1) (hs4 : TPQ M0) (hs5 : TBQ M0) : F 0 23 [some (.inr (.inr (.inr 0))), some (.inr (.inr (.inl 0))), some (.inr (.inr (.inl 173))), some (.inr (.inr (.inl 198))), some (.inl 0), none, none] [] M0 := by
 have hm := pl_law
 have W10 : ∀ (n11 : Nat) (b1 : Int) (hb1 : 0 ≤ b1 ∧ b1 ≤ 3072) (o2 : Option JV) (ho2 : o2 = none ∨ (∃ z, o2 = some (.inl z)) ∨ ∃ r, o2 = some (.inr (.inr r))) (o3 : Option JV) (ho3 : o3 = none ∨ (∃ z, o3 = some (.inl z)) ∨ ∃ r, o3 = some (.inr (.inr r))) (M4 : JM) (hH4 : HI (X + 8000 * b1) M4) (k : Nat) (hk : 6 * (k : Int) ≤ b1) (hs1 : SOK M4) (hs2 : KOK M4 0) (hs3 : KOK M4 1) (hs4 : TPQ M4) (hs5 : TBQ M4), (-b1 + 3072) < (n11 : Int) → F k 23 [some (.inr (.inr (.inr 0))), some (.inr (.inr (.inl 0))), some (.inr (.inr (.inl 173))), some (.inr (.inr (.inl 198))), some (.inl b1), o2, o3] [] M4 := by
  intro n11
  induction n11 with
  | zero => intros; omega
  | succ n11 ihW10 =>
   intro b1 hb1 o2 ho2 o3 ho3 M4 hH4 k hk hs1 hs2 hs3 hs4 hs5 hrW10
   have c1 := c1f k (by omega)
   have c2 := c2f k (by omega)
   have c3 := c3f k (by omega)
   refine jx_load c1 hm rfl rfl rfl rfl ?_
   refine jx_load c1 hm rfl rfl rfl rfl ?_
   refine jx_slen c1 hm rfl hnn ?_
   refine jy_bp c1 hm rfl (by decide) ?_
   refine jy_sub c1 hm (nn - 6) rfl (by omega) ?_
   refine jc_gt c1 hm 1451 rfl rfl (fun h12 => ?_) (fun h12 => ?_)
   ·
    refine jy_ic c1 hm rfl (by decide) ?_
    exact jx_retz c2 hm rfl rfl ⟨by omega, by omega⟩ rfl
   refine jx_load c1 hm rfl rfl rfl rfl ?_
   refine jx_load c1 hm rfl rfl rfl rfl ?_
   obtain ⟨z13, kz13, lz13, uz13⟩ := hf (b1).toNat
   refine jx_sald c1 hm rfl ⟨by omega, by omega⟩ kz13 ?_
   refine jy_bp c1 hm rfl (by decide) ?_
   refine jy_anr c1 hm rfl ⟨by omega, by omega⟩ (fun z14 lz14 uz14 => ?_)
   by_cases h15 : z14 = 0
   ·
    refine jx_tswI c1 hm 224 rfl ⟨by omega, by omega⟩ (by rw [h15] <;> rfl) rfl ?_
    refine jx_load c1 hm rfl rfl rfl rfl ?_
    refine jx_load c1 hm rfl rfl rfl rfl ?_
    refine jx_load c1 hm rfl rfl rfl rfl ?_
    refine jy_ic c1 hm rfl (by decide) ?_
    refine jy_add c1 hm (b1 + 1) rfl (by omega) ?_
    obtain ⟨z16, kz16, lz16, uz16⟩ := hf ((b1 + 1)).toNat
    refine jx_sald c1 hm rfl ⟨by omega, by omega⟩ kz16 ?_
    refine jx_load c1 hm rfl rfl rfl rfl ?_
    refine jx_load c1 hm rfl rfl rfl rfl ?_
    refine jy_ic c1 hm rfl (by decide) ?_
    refine jy_add c1 hm (b1 + 2) rfl (by omega) ?_
    obtain ⟨z17, kz17, lz17, uz17⟩ := hf ((b1 + 2)).toNat
    refine jx_sald c1 hm rfl ⟨by omega, by omega⟩ kz17 ?_
    refine jx_load c1 hm rfl rfl rfl rfl ?_
    refine jx_load c1 hm rfl rfl rfl rfl ?_
    refine jy_ic c1 hm rfl (by decide) ?_
    refine jy_add c1 hm (b1 + 3) rfl (by omega) ?_
    obtain ⟨z18, kz18, lz18, uz18⟩ := hf ((b1 + 3)).toNat
    refine jx_sald c1 hm rfl ⟨by omega, by omega⟩ kz18 ?_
    refine jx_load c1 hm rfl rfl rfl rfl ?_
    refine jx_load c1 hm rfl rfl rfl rfl ?_
    refine jy_ic c1 hm rfl (by decide) ?_
    refine jy_add c1 hm (b1 + 4) rfl (by omega) ?_
    obtain ⟨z19, kz19, lz19, uz19⟩ := hf ((b1 + 4)).toNat
    refine jx_sald c1 hm rfl ⟨by omega, by omega⟩ kz19 ?_
    refine jx_load c1 hm rfl rfl rfl rfl ?_
    refine jx_load c1 hm rfl rfl rfl rfl ?_
    refine jy_ic c1 hm rfl (by decide) ?_
    refine jy_add c1 hm (b1 + 5) rfl (by omega) ?_
    obtain ⟨z20, kz20, lz20, uz20⟩ := hf ((b1 + 5)).toNat
    refine jx_sald c1 hm rfl ⟨by omega, by omega⟩ kz20 ?_
    obtain ⟨z21, k22, lz21, uz21⟩ := hH4.ld (c := 0) (i := 2) (A := 0) (B := 940) (bs_18_1 _ _ (by omega) (by omega))
    refine jv_i c3 hm rfl (plp pj_X11_feed rfl) rfl rfl ⟨_, _, _, rfl, sh_0⟩ rfl ((ct_X11_feed_0t (X + 8000 * b1) (by omega) M4 hH4 z16 ⟨by omega, by omega⟩ z17 ⟨by omega, by omega⟩ z18 ⟨by omega, by omega⟩ z19 ⟨by omega, by omega⟩ z20 ⟨by omega, by omega⟩).le (by decide)) (fun z23 M28 ⟨hH28, hR28, lz23, uz23, p24, p25, p26, p27⟩ => ?_)
    obtain ⟨z29, k30, lz29, uz29⟩ := hH28.ld (c := 0) (i := 2) (A := 0) (B := 940) (bs_18_1 _ _ (by omega) (by omega))
    refine jx_pop c1 hm rfl rfl ?_
    refine jx_load c1 hm rfl rfl rfl rfl ?_
    refine jx_load c1 hm rfl rfl rfl rfl ?_
    refine jx_load c1 hm rfl rfl rfl rfl ?_
    refine jy_ic c1 hm rfl (by decide) ?_
    refine jy_add c1 hm (b1 + 1) rfl (by omega) ?_
    obtain ⟨z31, kz31, lz31, uz31⟩ := hf ((b1 + 1)).toNat
    refine jx_sald c1 hm rfl ⟨by omega, by omega⟩ kz31 ?_
    refine jx_load c1 hm rfl rfl rfl rfl ?_
    refine jx_load c1 hm rfl rfl rfl rfl ?_
    refine jy_ic c1 hm rfl (by decide) ?_
    refine jy_add c1 hm (b1 + 2) rfl (by omega) ?_
    obtain ⟨z32, kz32, lz32, uz32⟩ := hf ((b1 + 2)).toNat
    refine jx_sald c1 hm rfl ⟨by omega, by omega⟩ kz32 ?_
    refine jx_load c1 hm rfl rfl rfl rfl ?_
    refine jx_load c1 hm rfl rfl rfl rfl ?_
    refine jy_ic c1 hm rfl (by decide) ?_
    refine jy_add c1 hm (b1 + 3) rfl (by omega) ?_
    obtain ⟨z33, kz33, lz33, uz33⟩ := hf ((b1 + 3)).toNat
    refine jx_sald c1 hm rfl ⟨by omega, by omega⟩ kz33 ?_
    refine jx_load c1 hm rfl rfl rfl rfl ?_
    refine jx_load c1 hm rfl rfl rfl rfl ?_
    refine jy_ic c1 hm rfl (by decide) ?_
    refine jy_add c1 hm (b1 + 4) rfl (by omega) ?_
    obtain ⟨z34, kz34, lz34, uz34⟩ := hf ((b1 + 4)).toNat
    refine jx_sald c1 hm rfl ⟨by omega, by omega⟩ kz34 ?_
    refine jx_load c1 hm rfl rfl rfl rfl ?_
    refine jx_load c1 hm rfl rfl rfl rfl ?_
    refine jy_ic c1 hm rfl (by decide) ?_
    refine jy_add c1 hm (b1 + 5) rfl (by omega) ?_
    obtain ⟨z35, kz35, lz35, uz35⟩ := hf ((b1 + 5)).toNat
    refine jx_sald c1 hm rfl ⟨by omega, by omega⟩ kz35 ?_
    obtain ⟨z36, k37, lz36, uz36⟩ := hH28.ld (c := 173) (i := 2) (A := 0) (B := 940) (bs_28_1 _ _ (by omega) (by omega))
    refine jv_i c3 hm rfl (plp pj_X12_feed rfl) rfl rfl ⟨_, _, _, rfl, sh_173⟩ rfl ((ct_X12_feed_173t (X + 8000 * b1) (by omega) M28 hH28 z31 ⟨by omega, by omega⟩ z32 ⟨by omega, by omega⟩ z33 ⟨by omega, by omega⟩ z34 ⟨by omega, by omega⟩ z35 ⟨by omega, by omega⟩).le (by decide)) (fun z38 M43 ⟨hH43, hR43, lz38, uz38, p39, p40, p41, p42⟩ => ?_)
    obtain ⟨z44, k45, lz44, uz44⟩ := hH43.ld (c := 173) (i := 2) (A := 0) (B := 940) (bs_28_1 _ _ (by omega) (by omega))
    refine jx_pop c1 hm rfl rfl ?_
    refine jx_goto c1 hm 1445 rfl rfl ?_
    refine jx_iinc c1 hm (v := (b1 + 6)) (L' := [some (.inr (.inr (.inr 0))), some (.inr (.inr (.inl 0))), some (.inr (.inr (.inl 173))), some (.inr (.inr (.inl 198))), some (.inl (b1 + 6)), o2, o3]) rfl rfl (by omega) (by omega) rfl ?_
    refine jx_goto c1 hm 23 rfl rfl ?_
    exact ihW10 (b1 + 6) (by omega) o2 ho2 o3 ho3 M43 (hH43.mono (by omega) (by omega)) k (by omega) (SOK.cg hs1 (fun j h1 h2 => ((hR43 175 j rfl).trans (hR28 175 j rfl)))) (KOK.cg hs2 (fun j h1 h2 => ((hR43 177 j rfl).trans (hR28 177 j rfl)))) (KOK.cg hs3 (fun j h1 h2 => ((hR43 177 j rfl).trans (hR28 177 j rfl)))) (TPQ.of (by have y9 := hs4.e; have y90_0 := hR43 0 2 rfl; have y91_173 := hR28 173 2 rfl; omega)) (TBQ.feed hs5 hs4 (kz16.symm.trans kz31) (kz17.symm.trans kz32) (kz18.symm.trans kz33) (kz19.symm.trans kz34) (kz20.symm.trans kz35) p26 p27 (fun j => hR28 174 j rfl) (hR28 173 2 rfl) p41 p42 (fun j => hR43 2 j rfl) (hR43 0 2 rfl)) (by omega)
   by_cases h46 : z14 = 1
   ·
    refine jx_tswI c1 hm 297 rfl ⟨by omega, by omega⟩ (by rw [h46] <;> rfl) rfl ?_
    refine jx_load c1 hm rfl rfl rfl rfl ?_
    refine jx_load c1 hm rfl rfl rfl rfl ?_
    refine jx_load c1 hm rfl rfl rfl rfl ?_
    refine jy_ic c1 hm rfl (by decide) ?_
    refine jy_add c1 hm (b1 + 1) rfl (by omega) ?_
    obtain ⟨z47, kz47, lz47, uz47⟩ := hf ((b1 + 1)).toNat
    refine jx_sald c1 hm rfl ⟨by omega, by omega⟩ kz47 ?_
    obtain ⟨z48, k49, lz48, uz48⟩ := hH4.ld (c := 0) (i := 2) (A := 0) (B := 940) (bs_18_1 _ _ (by omega) (by omega))
    refine jv_i c3 hm rfl (plp pj_X11_end rfl) rfl rfl ⟨_, _, _, rfl, sh_0⟩ rfl ((ct_X11_end_0t (X + 8000 * b1) (by omega) M4 hH4 z47 ⟨by omega, by omega⟩).le (by decide)) (fun z50 M53 ⟨hH53, hR53, lz50, uz50, p51, p52⟩ => ?_)
    obtain ⟨z54, k55, lz54, uz54⟩ := hH53.ld (c := 0) (i := 2) (A := 0) (B := 940) (bs_18_1 _ _ (by omega) (by omega))
    refine jx_pop c1 hm rfl rfl ?_
    refine jx_load c1 hm rfl rfl rfl rfl ?_
    refine jx_load c1 hm rfl rfl rfl rfl ?_
    refine jx_load c1 hm rfl rfl rfl rfl ?_
    refine jy_ic c1 hm rfl (by decide) ?_
    refine jy_add c1 hm (b1 + 1) rfl (by omega) ?_
    obtain ⟨z56, kz56, lz56, uz56⟩ := hf ((b1 + 1)).toNat
    refine jx_sald c1 hm rfl ⟨by omega, by omega⟩ kz56 ?_
    obtain ⟨z57, k58, lz57, uz57⟩ := hH53.ld (c := 173) (i := 2) (A := 0) (B := 940) (bs_28_1 _ _ (by omega) (by omega))
    refine jv_i c3 hm rfl (plp pj_X12_end rfl) rfl rfl ⟨_, _, _, rfl, sh_173⟩ rfl ((ct_X12_end_173t (X + 8000 * b1) (by omega) M53 hH53 z56 ⟨by omega, by omega⟩).le (by decide)) (fun z59 M62 ⟨hH62, hR62, lz59, uz59, p60, p61⟩ => ?_)
    obtain ⟨z63, k64, lz63, uz63⟩ := hH62.ld (c := 173) (i := 2) (A := 0) (B := 940) (bs_28_1 _ _ (by omega) (by omega))
    refine jx_pop c1 hm rfl rfl ?_
    refine jx_goto c1 hm 1445 rfl rfl ?_
    refine jx_iinc c1 hm (v := (b1 + 6)) (L' := [some (.inr (.inr (.inr 0))), some (.inr (.inr (.inl 0))), some (.inr (.inr (.inl 173))), some (.inr (.inr (.inl 198))), some (.inl (b1 + 6)), o2, o3]) rfl rfl (by omega) (by omega) rfl ?_
    refine jx_goto c1 hm 23 rfl rfl ?_
    exact ihW10 (b1 + 6) (by omega) o2 ho2 o3 ho3 M62 (hH62.mono (by omega) (by omega)) k (by omega) (SOK.cg hs1 (fun j h1 h2 => ((hR62 175 j rfl).trans (hR53 175 j rfl)))) (KOK.cg hs2 (fun j h1 h2 => ((hR62 177 j rfl).trans (hR53 177 j rfl)))) (KOK.cg hs3 (fun j h1 h2 => ((hR62 177 j rfl).trans (hR53 177 j rfl)))) (TPQ.of (by have y9 := hs4.e; have y90_0 := hR62 0 2 rfl; have y91_173 := hR53 173 2 rfl; omega)) (TBQ.cg hs5 (fun j => ((hR62 2 j rfl).trans (hR53 2 j rfl))) (fun j => ((hR62 174 j rfl).trans (hR53 174 j rfl)))) (by omega)
   by_cases h65 : z14 = 2
   ·
    refine jx_tswI c1 hm 322 rfl ⟨by omega, by omega⟩ (by rw [h65] <;> rfl) rfl ?_
    refine jx_load c1 hm rfl rfl rfl rfl ?_
    obtain ⟨z66, k67, lz66, uz66⟩ := hH4.ld (c := 0) (i := 2) (A := 0) (B := 940) (bs_18_1 _ _ (by omega) (by omega))
    refine jv_i c3 hm rfl (plp pj_X11_duchy rfl) rfl rfl ⟨_, _, _, rfl, sh_0⟩ rfl ((ct_X11_duchy_0p (X + 8000 * b1) (by omega) M4 hH4 ).le (by decide)) (fun z68 M71 ⟨hH71, hR71, lz68, uz68, p69, p70⟩ => ?_)
    obtain ⟨z72, k73, lz72, uz72⟩ := hH71.ld (c := 0) (i := 2) (A := 0) (B := 940) (bs_18_1 _ _ (by omega) (by omega))
    refine jx_load c1 hm rfl rfl rfl rfl ?_
    obtain ⟨z74, k75, lz74, uz74⟩ := hH71.ld (c := 173) (i := 2) (A := 0) (B := 940) (bs_28_1 _ _ (by omega) (by omega))
    refine jv_i c3 hm rfl (plp pj_X12_duchy rfl) rfl rfl ⟨_, _, _, rfl, sh_173⟩ rfl ((ct_X12_duchy_173p (X + 8000 * b1) (by omega) M71 hH71 (SOK.cg hs1 (fun j h1 h2 => (hR71 175 j rfl)))).le (by decide)) (fun z76 M81 ⟨hH81, hR81, lz76, uz76, p77, p78, p79, p80⟩ => ?_)
    obtain ⟨z82, k83, lz82, uz82⟩ := hH81.ld (c := 175) (i := 234) (A := (-2147483648)) (B := 2147483647) (bs_11_11 _ _ (by omega) (by omega))
    obtain ⟨z84, k85, lz84, uz84⟩ := hH81.ld (c := 173) (i := 2) (A := 0) (B := 940) (bs_28_1 _ _ (by omega) (by omega))
    have hq9 : z68 = z76 := p69.trans ((du_eq hs5 hs4 (fun j => hR71 174 j rfl) (hR71 173 2 rfl)).trans p79.symm)
    refine jc_eq c1 hm 1445 rfl rfl (fun h86 => ?_) (fun h86 => ?_)
    ·
     refine jx_iinc c1 hm (v := (b1 + 6)) (L' := [some (.inr (.inr (.inr 0))), some (.inr (.inr (.inl 0))), some (.inr (.inr (.inl 173))), some (.inr (.inr (.inl 198))), some (.inl (b1 + 6)), o2, o3]) rfl rfl (by omega) (by omega) rfl ?_
     refine jx_goto c1 hm 23 rfl rfl ?_
     exact ihW10 (b1 + 6) (by omega) o2 ho2 o3 ho3 M81 (hH81.mono (by omega) (by omega)) k (by omega) p77 (KOK.cg hs2 (fun j h1 h2 => ((hR81 177 j rfl).trans (hR71 177 j rfl)))) (KOK.cg hs3 (fun j h1 h2 => ((hR81 177 j rfl).trans (hR71 177 j rfl)))) (TPQ.of (by have y9 := hs4.e; have y90_0 := hR81 0 2 rfl; have y91_173 := hR71 173 2 rfl; omega)) (TBQ.cg hs5 (fun j => ((hR81 2 j rfl).trans (hR71 2 j rfl))) (fun j => ((hR81 174 j rfl).trans (hR71 174 j rfl)))) (by omega)
    refine jy_ic c1 hm rfl (by decide) ?_
    exfalso; omega
   by_cases h87 : z14 = 3
   ·
    refine jx_tswI c1 hm 335 rfl ⟨by omega, by omega⟩ (by rw [h87] <;> rfl) rfl ?_
    refine jx_load c1 hm rfl rfl rfl rfl ?_
    refine jv_i c3 hm rfl (plp pj_X11_fault rfl) rfl rfl ⟨_, _, _, rfl, sh_0⟩ rfl ((ct_X11_fault_0 (X + 8000 * b1) (by omega) M4 hH4 ).le (by decide)) (fun z88 _ ⟨rfl, lz88, uz88⟩ => ?_)
    refine jx_pop c1 hm rfl rfl ?_
    refine jx_load c1 hm rfl rfl rfl rfl ?_
    refine jv_i c3 hm rfl (plp pj_X12_fault rfl) rfl rfl ⟨_, _, _, rfl, sh_173⟩ rfl ((ct_X12_fault_173 (X + 8000 * b1) (by omega) M4 hH4 ).le (by decide)) (fun z89 M90 ⟨hH90, hR90, lz89, uz89⟩ => ?_)
    refine jx_pop c1 hm rfl rfl ?_
    refine jx_goto c1 hm 1445 rfl rfl ?_
    refine jx_iinc c1 hm (v := (b1 + 6)) (L' := [some (.inr (.inr (.inr 0))), some (.inr (.inr (.inl 0))), some (.inr (.inr (.inl 173))), some (.inr (.inr (.inl 198))), some (.inl (b1 + 6)), o2, o3]) rfl rfl (by omega) (by omega) rfl ?_
    refine jx_goto c1 hm 23 rfl rfl ?_
    exact ihW10 (b1 + 6) (by omega) o2 ho2 o3 ho3 M90 (hH90.mono (by omega) (by omega)) k (by omega) (SOK.cg hs1 (fun j h1 h2 => (hR90 175 j rfl))) (KOK.cg hs2 (fun j h1 h2 => (hR90 177 j rfl))) (KOK.cg hs3 (fun j h1 h2 => (hR90 177 j rfl))) (TPQ.cg hs4 (hR90 0 2 rfl) (hR90 173 2 rfl)) (TBQ.cg hs5 (fun j => (hR90 2 j rfl)) (fun j => (hR90 174 j rfl))) (by omega)
   by_cases h91 : z14 = 4
   ·
    refine jx_tswI c1 hm 348 rfl ⟨by omega, by omega⟩ (by rw [h91] <;> rfl) rfl ?_
    refine jx_load c1 hm rfl rfl rfl rfl ?_
    refine jx_load c1 hm rfl rfl rfl rfl ?_
    refine jx_load c1 hm rfl rfl rfl rfl ?_
    refine jy_ic c1 hm rfl (by decide) ?_
    refine jy_add c1 hm (b1 + 1) rfl (by omega) ?_
    obtain ⟨z92, kz92, lz92, uz92⟩ := hf ((b1 + 1)).toNat
    refine jx_sald c1 hm rfl ⟨by omega, by omega⟩ kz92 ?_
    refine jx_load c1 hm rfl rfl rfl rfl ?_
    refine jx_load c1 hm rfl rfl rfl rfl ?_
    refine jy_ic c1 hm rfl (by decide) ?_
    refine jy_add c1 hm (b1 + 2) rfl (by omega) ?_
    obtain ⟨z93, kz93, lz93, uz93⟩ := hf ((b1 + 2)).toNat
    refine jx_sald c1 hm rfl ⟨by omega, by omega⟩ kz93 ?_
    refine jx_load c1 hm rfl rfl rfl rfl ?_
    refine cm k (by omega) (X + 8000 * b1) _ z92 z93 M4 (by omega) (by omega) hH4 (by omega) (by omega) (by omega) (by omega) (fun z94 M95 lz94 uz94 hH95 y95 => ?_)
    have c1 := c1f (k + 1) (by omega)
    have c2 := c2f (k + 1) (by omega)
    have c3 := c3f (k + 1) (by omega)
    refine jx_stor c1 hm (L' := [some (.inr (.inr (.inr 0))), some (.inr (.inr (.inl 0))), some (.inr (.inr (.inl 173))), some (.inr (.inr (.inl 198))), some (.inl b1), some (.inl z94), o3]) rfl rfl rfl rfl rfl ?_
    refine jx_load c1 hm rfl rfl rfl rfl ?_
    refine jx_load c1 hm rfl rfl rfl rfl ?_
    refine jx_load c1 hm rfl rfl rfl rfl ?_
    refine jy_ic c1 hm rfl (by decide) ?_
    refine jy_add c1 hm (b1 + 1) rfl (by omega) ?_
    obtain ⟨z96, kz96, lz96, uz96⟩ := hf ((b1 + 1)).toNat
    refine jx_sald c1 hm rfl ⟨by omega, by omega⟩ kz96 ?_
    refine jx_load c1 hm rfl rfl rfl rfl ?_
    refine jx_load c1 hm rfl rfl rfl rfl ?_
    refine jy_ic c1 hm rfl (by decide) ?_
    refine jy_add c1 hm (b1 + 2) rfl (by omega) ?_
    obtain ⟨z97, kz97, lz97, uz97⟩ := hf ((b1 + 2)).toNat
    refine jx_sald c1 hm rfl ⟨by omega, by omega⟩ kz97 ?_
    refine jv_i c3 hm rfl (plp pj_X12_man rfl) rfl rfl ⟨_, _, _, rfl, sh_173⟩ rfl ((ct_X12_man_173 (X + 8000 * b1) (by omega) M95 hH95 z96 ⟨by omega, by omega⟩ z97 ⟨by omega, by omega⟩).le (by decide)) (fun z98 M99 ⟨hH99, hR99, lz98, uz98⟩ => ?_)
    refine jx_stor c1 hm (L' := [some (.inr (.inr (.inr 0))), some (.inr (.inr (.inl 0))), some (.inr (.inr (.inl 173))), some (.inr (.inr (.inl 198))), some (.inl b1), some (.inl z94), some (.inl z98)]) rfl rfl rfl rfl rfl ?_
    refine jx_goto c1 hm 1445 rfl rfl ?_
    refine jx_iinc c1 hm (v := (b1 + 6)) (L' := [some (.inr (.inr (.inr 0))), some (.inr (.inr (.inl 0))), some (.inr (.inr (.inl 173))), some (.inr (.inr (.inl 198))), some (.inl (b1 + 6)), some (.inl z94), some (.inl z98)]) rfl rfl (by omega) (by omega) rfl ?_
    refine jx_goto c1 hm 23 rfl rfl ?_
    exact ihW10 (b1 + 6) (by omega) (some (.inl z94)) (Or.inr (Or.inl ⟨_, rfl⟩)) (some (.inl z98)) (Or.inr (Or.inl ⟨_, rfl⟩)) M99 (hH99.mono (by omega) (by omega)) (k + 1) (by omega) (SOK.cg hs1 (fun j h1 h2 => ((hR99 175 j rfl).trans (y95 175 j)))) (KOK.cg hs2 (fun j h1 h2 => ((hR99 177 j rfl).trans (y95 177 j)))) (KOK.cg hs3 (fun j h1 h2 => ((hR99 177 j rfl).trans (y95 177 j)))) (TPQ.cg hs4 ((hR99 0 2 rfl).trans (y95 0 2)) ((hR99 173 2 rfl).trans (y95 173 2))) (TBQ.cg hs5 (fun j => ((hR99 2 j rfl).trans (y95 2 j))) (fun j => ((hR99 174 j rfl).trans (y95 174 j)))) (by omega)
   by_cases h100 : z14 = 5
   ·
    refine jx_tswI c1 hm 388 rfl ⟨by omega, by omega⟩ (by rw [h100] <;> rfl) rfl ?_
    refine jx_load c1 hm rfl rfl rfl rfl ?_
    refine jx_load c1 hm rfl rfl rfl rfl ?_
    refine jx_load c1 hm rfl rfl rfl rfl ?_
    refine jy_ic c1 hm rfl (by decide) ?_
    refine jy_add c1 hm (b1 + 1) rfl (by omega) ?_
    obtain ⟨z101, kz101, lz101, uz101⟩ := hf ((b1 + 1)).toNat
    refine jx_sald c1 hm rfl ⟨by omega, by omega⟩ kz101 ?_
    refine jx_load c1 hm rfl rfl rfl rfl ?_
    refine jx_load c1 hm rfl rfl rfl rfl ?_
    refine jy_ic c1 hm rfl (by decide) ?_
    refine jy_add c1 hm (b1 + 2) rfl (by omega) ?_
    obtain ⟨z102, kz102, lz102, uz102⟩ := hf ((b1 + 2)).toNat
    refine jx_sald c1 hm rfl ⟨by omega, by omega⟩ kz102 ?_
    refine jv_i c3 hm rfl (plp pj_X11_cost rfl) rfl rfl ⟨_, _, _, rfl, sh_0⟩ rfl ((ct_X11_cost_0 (X + 8000 * b1) (by omega) M4 hH4 z101 ⟨by omega, by omega⟩ z102 ⟨by omega, by omega⟩).le (by decide)) (fun z103 _ ⟨rfl, lz103, uz103⟩ => ?_)
    refine jx_pop c1 hm rfl rfl ?_
    refine jx_load c1 hm rfl rfl rfl rfl ?_
    refine jx_load c1 hm rfl rfl rfl rfl ?_
    refine jx_load c1 hm rfl rfl rfl rfl ?_
    refine jy_ic c1 hm rfl (by decide) ?_
    refine jy_add c1 hm (b1 + 1) rfl (by omega) ?_
    obtain ⟨z104, kz104, lz104, uz104⟩ := hf ((b1 + 1)).toNat
    refine jx_sald c1 hm rfl ⟨by omega, by omega⟩ kz104 ?_
    refine jx_load c1 hm rfl rfl rfl rfl ?_
    refine jx_load c1 hm rfl rfl rfl rfl ?_
    refine jy_ic c1 hm rfl (by decide) ?_
    refine jy_add c1 hm (b1 + 2) rfl (by omega) ?_
    obtain ⟨z105, kz105, lz105, uz105⟩ := hf ((b1 + 2)).toNat
    refine jx_sald c1 hm rfl ⟨by omega, by omega⟩ kz105 ?_
    refine jv_i c3 hm rfl (plp pj_X12_cost rfl) rfl rfl ⟨_, _, _, rfl, sh_173⟩ rfl ((ct_X12_cost_173 (X + 8000 * b1) (by omega) M4 hH4 z104 ⟨by omega, by omega⟩ z105 ⟨by omega, by omega⟩).le (by decide)) (fun z106 M107 ⟨hH107, hR107, lz106, uz106⟩ => ?_)
    refine jx_pop c1 hm rfl rfl ?_
    refine jx_goto c1 hm 1445 rfl rfl ?_
    refine jx_iinc c1 hm (v := (b1 + 6)) (L' := [some (.inr (.inr (.inr 0))), some (.inr (.inr (.inl 0))), some (.inr (.inr (.inl 173))), some (.inr (.inr (.inl 198))), some (.inl (b1 + 6)), o2, o3]) rfl rfl (by omega) (by omega) rfl ?_
    refine jx_goto c1 hm 23 rfl rfl ?_
    exact ihW10 (b1 + 6) (by omega) o2 ho2 o3 ho3 M107 (hH107.mono (by omega) (by omega)) k (by omega) (SOK.cg hs1 (fun j h1 h2 => (hR107 175 j rfl))) (KOK.cg hs2 (fun j h1 h2 => (hR107 177 j rfl))) (KOK.cg hs3 (fun j h1 h2 => (hR107 177 j rfl))) (TPQ.cg hs4 (hR107 0 2 rfl) (hR107 173 2 rfl)) (TBQ.cg hs5 (fun j => (hR107 2 j rfl)) (fun j => (hR107 174 j rfl))) (by omega)
   by_cases h108 : z14 = 6
   ·
    refine jx_tswI c1 hm 425 rfl ⟨by omega, by omega⟩ (by rw [h108] <;> rfl) rfl ?_
    refine jx_load c1 hm rfl rfl rfl rfl ?_
    refine jx_load c1 hm rfl rfl rfl rfl ?_
    refine jx_load c1 hm rfl rfl rfl rfl ?_
    refine jy_ic c1 hm rfl (by decide) ?_
    refine jy_add c1 hm (b1 + 1) rfl (by omega) ?_
    obtain ⟨z109, kz109, lz109, uz109⟩ := hf ((b1 + 1)).toNat
    refine jx_sald c1 hm rfl ⟨by omega, by omega⟩ kz109 ?_
    refine jx_load c1 hm rfl rfl rfl rfl ?_
    refine jx_load c1 hm rfl rfl rfl rfl ?_
    refine jy_ic c1 hm rfl (by decide) ?_
    refine jy_add c1 hm (b1 + 2) rfl (by omega) ?_
    obtain ⟨z110, kz110, lz110, uz110⟩ := hf ((b1 + 2)).toNat
    refine jx_sald c1 hm rfl ⟨by omega, by omega⟩ kz110 ?_
    refine jv_i c3 hm rfl (plp pj_X11_times rfl) rfl rfl ⟨_, _, _, rfl, sh_0⟩ rfl ((ct_X11_times_0 (X + 8000 * b1) (by omega) M4 hH4 z109 ⟨by omega, by omega⟩ z110 ⟨by omega, by omega⟩).le (by decide)) (fun z111 _ ⟨rfl, lz111, uz111⟩ => ?_)
    refine jx_pop c1 hm rfl rfl ?_
    refine jx_load c1 hm rfl rfl rfl rfl ?_
    refine jx_load c1 hm rfl rfl rfl rfl ?_
    refine jx_load c1 hm rfl rfl rfl rfl ?_
    refine jy_ic c1 hm rfl (by decide) ?_
    refine jy_add c1 hm (b1 + 1) rfl (by omega) ?_
    obtain ⟨z112, kz112, lz112, uz112⟩ := hf ((b1 + 1)).toNat
    refine jx_sald c1 hm rfl ⟨by omega, by omega⟩ kz112 ?_
    refine jx_load c1 hm rfl rfl rfl rfl ?_
    refine jx_load c1 hm rfl rfl rfl rfl ?_
    refine jy_ic c1 hm rfl (by decide) ?_
    refine jy_add c1 hm (b1 + 2) rfl (by omega) ?_
    obtain ⟨z113, kz113, lz113, uz113⟩ := hf ((b1 + 2)).toNat
    refine jx_sald c1 hm rfl ⟨by omega, by omega⟩ kz113 ?_
    refine jv_i c3 hm rfl (plp pj_X12_times rfl) rfl rfl ⟨_, _, _, rfl, sh_173⟩ rfl ((ct_X12_times_173 (X + 8000 * b1) (by omega) M4 hH4 z112 ⟨by omega, by omega⟩ z113 ⟨by omega, by omega⟩).le (by decide)) (fun z114 M115 ⟨hH115, hR115, lz114, uz114⟩ => ?_)
    refine jx_pop c1 hm rfl rfl ?_
    refine jx_goto c1 hm 1445 rfl rfl ?_
    refine jx_iinc c1 hm (v := (b1 + 6)) (L' := [some (.inr (.inr (.inr 0))), some (.inr (.inr (.inl 0))), some (.inr (.inr (.inl 173))), some (.inr (.inr (.inl 198))), some (.inl (b1 + 6)), o2, o3]) rfl rfl (by omega) (by omega) rfl ?_
    refine jx_goto c1 hm 23 rfl rfl ?_
    exact ihW10 (b1 + 6) (by omega) o2 ho2 o3 ho3 M115 (hH115.mono (by omega) (by omega)) k (by omega) (SOK.cg hs1 (fun j h1 h2 => (hR115 175 j rfl))) (KOK.cg hs2 (fun j h1 h2 => (hR115 177 j rfl))) (KOK.cg hs3 (fun j h1 h2 => (hR115 177 j rfl))) (TPQ.cg hs4 (hR115 0 2 rfl) (hR115 173 2 rfl)) (TBQ.cg hs5 (fun j => (hR115 2 j rfl)) (fun j => (hR115 174 j rfl))) (by omega)
   by_cases h116 : z14 = 7
   ·
    refine jx_tswI c1 hm 462 rfl ⟨by omega, by omega⟩ (by rw [h116] <;> rfl) rfl ?_
    refine jx_load c1 hm rfl rfl rfl rfl ?_
    refine jx_load c1 hm rfl rfl rfl rfl ?_
    refine jx_load c1 hm rfl rfl rfl rfl ?_
    refine jy_ic c1 hm rfl (by decide) ?_
    refine jy_add c1 hm (b1 + 1) rfl (by omega) ?_
    obtain ⟨z117, kz117, lz117, uz117⟩ := hf ((b1 + 1)).toNat
    refine jx_sald c1 hm rfl ⟨by omega, by omega⟩ kz117 ?_
    refine jx_load c1 hm rfl rfl rfl rfl ?_
    refine jx_load c1 hm rfl rfl rfl rfl ?_
    refine jy_ic c1 hm rfl (by decide) ?_
    refine jy_add c1 hm (b1 + 2) rfl (by omega) ?_
    obtain ⟨z118, kz118, lz118, uz118⟩ := hf ((b1 + 2)).toNat
    refine jx_sald c1 hm rfl ⟨by omega, by omega⟩ kz118 ?_
    refine jv_i c3 hm rfl (plp pj_X11_bought rfl) rfl rfl ⟨_, _, _, rfl, sh_0⟩ rfl ((ct_X11_bought_0 (X + 8000 * b1) (by omega) M4 hH4 z117 ⟨by omega, by omega⟩ z118 ⟨by omega, by omega⟩).le (by decide)) (fun z119 _ ⟨rfl, lz119, uz119⟩ => ?_)
    refine jx_pop c1 hm rfl rfl ?_
    refine jx_load c1 hm rfl rfl rfl rfl ?_
    refine jx_load c1 hm rfl rfl rfl rfl ?_
    refine jx_load c1 hm rfl rfl rfl rfl ?_
    refine jy_ic c1 hm rfl (by decide) ?_
    refine jy_add c1 hm (b1 + 1) rfl (by omega) ?_
    obtain ⟨z120, kz120, lz120, uz120⟩ := hf ((b1 + 1)).toNat
    refine jx_sald c1 hm rfl ⟨by omega, by omega⟩ kz120 ?_
    refine jx_load c1 hm rfl rfl rfl rfl ?_
    refine jx_load c1 hm rfl rfl rfl rfl ?_
    refine jy_ic c1 hm rfl (by decide) ?_
    refine jy_add c1 hm (b1 + 2) rfl (by omega) ?_
    obtain ⟨z121, kz121, lz121, uz121⟩ := hf ((b1 + 2)).toNat
    refine jx_sald c1 hm rfl ⟨by omega, by omega⟩ kz121 ?_
    refine jv_i c3 hm rfl (plp pj_X12_bought rfl) rfl rfl ⟨_, _, _, rfl, sh_173⟩ rfl ((ct_X12_bought_173 (X + 8000 * b1) (by omega) M4 hH4 z120 ⟨by omega, by omega⟩ z121 ⟨by omega, by omega⟩).le (by decide)) (fun z122 M123 ⟨hH123, hR123, lz122, uz122⟩ => ?_)
    refine jx_pop c1 hm rfl rfl ?_
    refine jx_goto c1 hm 1445 rfl rfl ?_
    refine jx_iinc c1 hm (v := (b1 + 6)) (L' := [some (.inr (.inr (.inr 0))), some (.inr (.inr (.inl 0))), some (.inr (.inr (.inl 173))), some (.inr (.inr (.inl 198))), some (.inl (b1 + 6)), o2, o3]) rfl rfl (by omega) (by omega) rfl ?_
    refine jx_goto c1 hm 23 rfl rfl ?_
    exact ihW10 (b1 + 6) (by omega) o2 ho2 o3 ho3 M123 (hH123.mono (by omega) (by omega)) k (by omega) (SOK.cg hs1 (fun j h1 h2 => (hR123 175 j rfl))) (KOK.cg hs2 (fun j h1 h2 => (hR123 177 j rfl))) (KOK.cg hs3 (fun j h1 h2 => (hR123 177 j rfl))) (TPQ.cg hs4 (hR123 0 2 rfl) (hR123 173 2 rfl)) (TBQ.cg hs5 (fun j => (hR123 2 j rfl)) (fun j => (hR123 174 j rfl))) (by omega)
   by_cases h124 : z14 = 8
   ·
    refine jx_tswI c1 hm 499 rfl ⟨by omega, by omega⟩ (by rw [h124] <;> rfl) rfl ?_
    refine jx_load c1 hm rfl rfl rfl rfl ?_
    refine jx_load c1 hm rfl rfl rfl rfl ?_
    refine jx_load c1 hm rfl rfl rfl rfl ?_
    refine jy_ic c1 hm rfl (by decide) ?_
    refine jy_add c1 hm (b1 + 1) rfl (by omega) ?_
    obtain ⟨z125, kz125, lz125, uz125⟩ := hf ((b1 + 1)).toNat
    refine jx_sald c1 hm rfl ⟨by omega, by omega⟩ kz125 ?_
    refine jx_load c1 hm rfl rfl rfl rfl ?_
    refine jx_load c1 hm rfl rfl rfl rfl ?_
    refine jy_ic c1 hm rfl (by decide) ?_
    refine jy_add c1 hm (b1 + 2) rfl (by omega) ?_
    obtain ⟨z126, kz126, lz126, uz126⟩ := hf ((b1 + 2)).toNat
    refine jx_sald c1 hm rfl ⟨by omega, by omega⟩ kz126 ?_
    refine jv_i c3 hm rfl (plp pj_X11_good rfl) rfl rfl ⟨_, _, _, rfl, sh_0⟩ rfl ((ct_X11_good_0 (X + 8000 * b1) (by omega) M4 hH4 z125 ⟨by omega, by omega⟩ z126 ⟨by omega, by omega⟩).le (by decide)) (fun z127 _ ⟨rfl, lz127, uz127⟩ => ?_)
    refine jx_pop c1 hm rfl rfl ?_
    refine jx_load c1 hm rfl rfl rfl rfl ?_
    refine jx_load c1 hm rfl rfl rfl rfl ?_
    refine jx_load c1 hm rfl rfl rfl rfl ?_
    refine jy_ic c1 hm rfl (by decide) ?_
    refine jy_add c1 hm (b1 + 1) rfl (by omega) ?_
    obtain ⟨z128, kz128, lz128, uz128⟩ := hf ((b1 + 1)).toNat
    refine jx_sald c1 hm rfl ⟨by omega, by omega⟩ kz128 ?_
    refine jx_load c1 hm rfl rfl rfl rfl ?_
    refine jx_load c1 hm rfl rfl rfl rfl ?_
    refine jy_ic c1 hm rfl (by decide) ?_
    refine jy_add c1 hm (b1 + 2) rfl (by omega) ?_
    obtain ⟨z129, kz129, lz129, uz129⟩ := hf ((b1 + 2)).toNat
    refine jx_sald c1 hm rfl ⟨by omega, by omega⟩ kz129 ?_
    refine jv_i c3 hm rfl (plp pj_X12_good rfl) rfl rfl ⟨_, _, _, rfl, sh_173⟩ rfl ((ct_X12_good_173 (X + 8000 * b1) (by omega) M4 hH4 z128 ⟨by omega, by omega⟩ z129 ⟨by omega, by omega⟩).le (by decide)) (fun z130 M131 ⟨hH131, hR131, lz130, uz130⟩ => ?_)
    refine jx_pop c1 hm rfl rfl ?_
    refine jx_goto c1 hm 1445 rfl rfl ?_
    refine jx_iinc c1 hm (v := (b1 + 6)) (L' := [some (.inr (.inr (.inr 0))), some (.inr (.inr (.inl 0))), some (.inr (.inr (.inl 173))), some (.inr (.inr (.inl 198))), some (.inl (b1 + 6)), o2, o3]) rfl rfl (by omega) (by omega) rfl ?_
    refine jx_goto c1 hm 23 rfl rfl ?_
    exact ihW10 (b1 + 6) (by omega) o2 ho2 o3 ho3 M131 (hH131.mono (by omega) (by omega)) k (by omega) (SOK.cg hs1 (fun j h1 h2 => (hR131 175 j rfl))) (KOK.cg hs2 (fun j h1 h2 => (hR131 177 j rfl))) (KOK.cg hs3 (fun j h1 h2 => (hR131 177 j rfl))) (TPQ.cg hs4 (hR131 0 2 rfl) (hR131 173 2 rfl)) (TBQ.cg hs5 (fun j => (hR131 2 j rfl)) (fun j => (hR131 174 j rfl))) (by omega)
   by_cases h132 : z14 = 9
   ·
    refine jx_tswI c1 hm 536 rfl ⟨by omega, by omega⟩ (by rw [h132] <;> rfl) rfl ?_
    refine jx_load c1 hm rfl rfl rfl rfl ?_
    refine jx_load c1 hm rfl rfl rfl rfl ?_
    refine jx_load c1 hm rfl rfl rfl rfl ?_
    refine jy_ic c1 hm rfl (by decide) ?_
    refine jy_add c1 hm (b1 + 1) rfl (by omega) ?_
    obtain ⟨z133, kz133, lz133, uz133⟩ := hf ((b1 + 1)).toNat
    refine jx_sald c1 hm rfl ⟨by omega, by omega⟩ kz133 ?_
    refine jx_load c1 hm rfl rfl rfl rfl ?_
    refine jx_load c1 hm rfl rfl rfl rfl ?_
    refine jy_ic c1 hm rfl (by decide) ?_
    refine jy_add c1 hm (b1 + 2) rfl (by omega) ?_
    obtain ⟨z134, kz134, lz134, uz134⟩ := hf ((b1 + 2)).toNat
    refine jx_sald c1 hm rfl ⟨by omega, by omega⟩ kz134 ?_
    refine jv_i c3 hm rfl (plp pj_X11_owes rfl) rfl rfl ⟨_, _, _, rfl, sh_0⟩ rfl ((ct_X11_owes_0 (X + 8000 * b1) (by omega) M4 hH4 z133 ⟨by omega, by omega⟩ z134 ⟨by omega, by omega⟩).le (by decide)) (fun z135 _ ⟨rfl, lz135, uz135⟩ => ?_)
    refine jx_pop c1 hm rfl rfl ?_
    refine jx_load c1 hm rfl rfl rfl rfl ?_
    refine jx_load c1 hm rfl rfl rfl rfl ?_
    refine jx_load c1 hm rfl rfl rfl rfl ?_
    refine jy_ic c1 hm rfl (by decide) ?_
    refine jy_add c1 hm (b1 + 1) rfl (by omega) ?_
    obtain ⟨z136, kz136, lz136, uz136⟩ := hf ((b1 + 1)).toNat
    refine jx_sald c1 hm rfl ⟨by omega, by omega⟩ kz136 ?_
    refine jx_load c1 hm rfl rfl rfl rfl ?_
    refine jx_load c1 hm rfl rfl rfl rfl ?_
    refine jy_ic c1 hm rfl (by decide) ?_
    refine jy_add c1 hm (b1 + 2) rfl (by omega) ?_
    obtain ⟨z137, kz137, lz137, uz137⟩ := hf ((b1 + 2)).toNat
    refine jx_sald c1 hm rfl ⟨by omega, by omega⟩ kz137 ?_
    refine jv_i c3 hm rfl (plp pj_X12_owes rfl) rfl rfl ⟨_, _, _, rfl, sh_173⟩ rfl ((ct_X12_owes_173 (X + 8000 * b1) (by omega) M4 hH4 z136 ⟨by omega, by omega⟩ z137 ⟨by omega, by omega⟩).le (by decide)) (fun z138 M139 ⟨hH139, hR139, lz138, uz138⟩ => ?_)
    refine jx_pop c1 hm rfl rfl ?_
    refine jx_goto c1 hm 1445 rfl rfl ?_
    refine jx_iinc c1 hm (v := (b1 + 6)) (L' := [some (.inr (.inr (.inr 0))), some (.inr (.inr (.inl 0))), some (.inr (.inr (.inl 173))), some (.inr (.inr (.inl 198))), some (.inl (b1 + 6)), o2, o3]) rfl rfl (by omega) (by omega) rfl ?_
    refine jx_goto c1 hm 23 rfl rfl ?_
    exact ihW10 (b1 + 6) (by omega) o2 ho2 o3 ho3 M139 (hH139.mono (by omega) (by omega)) k (by omega) (SOK.cg hs1 (fun j h1 h2 => (hR139 175 j rfl))) (KOK.cg hs2 (fun j h1 h2 => (hR139 177 j rfl))) (KOK.cg hs3 (fun j h1 h2 => (hR139 177 j rfl))) (TPQ.cg hs4 (hR139 0 2 rfl) (hR139 173 2 rfl)) (TBQ.cg hs5 (fun j => (hR139 2 j rfl)) (fun j => (hR139 174 j rfl))) (by omega)
   by_cases h140 : z14 = 10
   ·
    refine jx_tswI c1 hm 573 rfl ⟨by omega, by omega⟩ (by rw [h140] <;> rfl) rfl ?_
    refine jx_load c1 hm rfl rfl rfl rfl ?_
    refine jx_load c1 hm rfl rfl rfl rfl ?_
    refine jx_load c1 hm rfl rfl rfl rfl ?_
    refine jy_ic c1 hm rfl (by decide) ?_
    refine jy_add c1 hm (b1 + 1) rfl (by omega) ?_
    obtain ⟨z141, kz141, lz141, uz141⟩ := hf ((b1 + 1)).toNat
    refine jx_sald c1 hm rfl ⟨by omega, by omega⟩ kz141 ?_
    refine jv_i c3 hm rfl (plp pj_X11_now rfl) rfl rfl ⟨_, _, _, rfl, sh_0⟩ rfl ((ct_X11_now_0 (X + 8000 * b1) (by omega) M4 hH4 z141 ⟨by omega, by omega⟩).le (by decide)) (fun z142 _ ⟨rfl, lz142, uz142⟩ => ?_)
    refine jx_pop c1 hm rfl rfl ?_
    refine jx_load c1 hm rfl rfl rfl rfl ?_
    refine jx_load c1 hm rfl rfl rfl rfl ?_
    refine jx_load c1 hm rfl rfl rfl rfl ?_
    refine jy_ic c1 hm rfl (by decide) ?_
    refine jy_add c1 hm (b1 + 1) rfl (by omega) ?_
    obtain ⟨z143, kz143, lz143, uz143⟩ := hf ((b1 + 1)).toNat
    refine jx_sald c1 hm rfl ⟨by omega, by omega⟩ kz143 ?_
    refine jv_i c3 hm rfl (plp pj_X12_now rfl) rfl rfl ⟨_, _, _, rfl, sh_173⟩ rfl ((ct_X12_now_173 (X + 8000 * b1) (by omega) M4 hH4 z143 ⟨by omega, by omega⟩).le (by decide)) (fun z144 M145 ⟨hH145, hR145, lz144, uz144⟩ => ?_)
    refine jx_pop c1 hm rfl rfl ?_
    refine jx_goto c1 hm 1445 rfl rfl ?_
    refine jx_iinc c1 hm (v := (b1 + 6)) (L' := [some (.inr (.inr (.inr 0))), some (.inr (.inr (.inl 0))), some (.inr (.inr (.inl 173))), some (.inr (.inr (.inl 198))), some (.inl (b1 + 6)), o2, o3]) rfl rfl (by omega) (by omega) rfl ?_
    refine jx_goto c1 hm 23 rfl rfl ?_
    exact ihW10 (b1 + 6) (by omega) o2 ho2 o3 ho3 M145 (hH145.mono (by omega) (by omega)) k (by omega) (SOK.cg hs1 (fun j h1 h2 => (hR145 175 j rfl))) (KOK.cg hs2 (fun j h1 h2 => (hR145 177 j rfl))) (KOK.cg hs3 (fun j h1 h2 => (hR145 177 j rfl))) (TPQ.cg hs4 (hR145 0 2 rfl) (hR145 173 2 rfl)) (TBQ.cg hs5 (fun j => (hR145 2 j rfl)) (fun j => (hR145 174 j rfl))) (by omega)
   by_cases h146 : z14 = 11
   ·
    refine jx_tswI c1 hm 598 rfl ⟨by omega, by omega⟩ (by rw [h146] <;> rfl) rfl ?_
    refine jx_load c1 hm rfl rfl rfl rfl ?_
    refine jx_load c1 hm rfl rfl rfl rfl ?_
    refine jx_load c1 hm rfl rfl rfl rfl ?_
    refine jy_ic c1 hm rfl (by decide) ?_
    refine jy_add c1 hm (b1 + 1) rfl (by omega) ?_
    obtain ⟨z147, kz147, lz147, uz147⟩ := hf ((b1 + 1)).toNat
    refine jx_sald c1 hm rfl ⟨by omega, by omega⟩ kz147 ?_
    refine jx_load c1 hm rfl rfl rfl rfl ?_
    refine jx_load c1 hm rfl rfl rfl rfl ?_
    refine jy_ic c1 hm rfl (by decide) ?_
    refine jy_add c1 hm (b1 + 2) rfl (by omega) ?_
    obtain ⟨z148, kz148, lz148, uz148⟩ := hf ((b1 + 2)).toNat
    refine jx_sald c1 hm rfl ⟨by omega, by omega⟩ kz148 ?_
    refine jv_i c3 hm rfl (plp pj_X11_forfeit rfl) rfl rfl ⟨_, _, _, rfl, sh_0⟩ rfl ((ct_X11_forfeit_0 (X + 8000 * b1) (by omega) M4 hH4 z147 ⟨by omega, by omega⟩ z148 ⟨by omega, by omega⟩).le (by decide)) (fun z149 M150 ⟨hH150, hR150, lz149, uz149⟩ => ?_)
    refine jx_pop c1 hm rfl rfl ?_
    refine jx_load c1 hm rfl rfl rfl rfl ?_
    refine jx_load c1 hm rfl rfl rfl rfl ?_
    refine jx_load c1 hm rfl rfl rfl rfl ?_
    refine jy_ic c1 hm rfl (by decide) ?_
    refine jy_add c1 hm (b1 + 1) rfl (by omega) ?_
    obtain ⟨z151, kz151, lz151, uz151⟩ := hf ((b1 + 1)).toNat
    refine jx_sald c1 hm rfl ⟨by omega, by omega⟩ kz151 ?_
    refine jx_load c1 hm rfl rfl rfl rfl ?_
    refine jx_load c1 hm rfl rfl rfl rfl ?_
    refine jy_ic c1 hm rfl (by decide) ?_
    refine jy_add c1 hm (b1 + 2) rfl (by omega) ?_
    obtain ⟨z152, kz152, lz152, uz152⟩ := hf ((b1 + 2)).toNat
    refine jx_sald c1 hm rfl ⟨by omega, by omega⟩ kz152 ?_
    refine jv_i c3 hm rfl (plp pj_X12_forfeit rfl) rfl rfl ⟨_, _, _, rfl, sh_173⟩ rfl ((ct_X12_forfeit_173 (X + 8000 * b1 + 1) (by omega) M150 hH150 z151 ⟨by omega, by omega⟩ z152 ⟨by omega, by omega⟩).le (by decide)) (fun z153 M154 ⟨hH154, hR154, lz153, uz153⟩ => ?_)
    rw [show X + 8000 * b1 + 1 + 1 = X + 8000 * b1 + 2 by omega] at hH154
    refine jx_pop c1 hm rfl rfl ?_
    refine jx_goto c1 hm 1445 rfl rfl ?_
    refine jx_iinc c1 hm (v := (b1 + 6)) (L' := [some (.inr (.inr (.inr 0))), some (.inr (.inr (.inl 0))), some (.inr (.inr (.inl 173))), some (.inr (.inr (.inl 198))), some (.inl (b1 + 6)), o2, o3]) rfl rfl (by omega) (by omega) rfl ?_
    refine jx_goto c1 hm 23 rfl rfl ?_
    exact ihW10 (b1 + 6) (by omega) o2 ho2 o3 ho3 M154 (hH154.mono (by omega) (by omega)) k (by omega) (SOK.cg hs1 (fun j h1 h2 => ((hR154 175 j (jin_hi (b := 234) (by decide +kernel) h1)).trans (hR150 175 j rfl)))) (KOK.cg hs2 (fun j h1 h2 => ((hR154 177 j rfl).trans (hR150 177 j rfl)))) (KOK.cg hs3 (fun j h1 h2 => ((hR154 177 j rfl).trans (hR150 177 j rfl)))) (TPQ.cg hs4 ((hR154 0 2 rfl).trans (hR150 0 2 rfl)) ((hR154 173 2 rfl).trans (hR150 173 2 rfl))) (TBQ.cg hs5 (fun j => ((hR154 2 j rfl).trans (hR150 2 j rfl))) (fun j => ((hR154 174 j rfl).trans (hR150 174 j rfl)))) (by omega)
   by_cases h155 : z14 = 12
   ·
    refine jx_tswI c1 hm 635 rfl ⟨by omega, by omega⟩ (by rw [h155] <;> rfl) rfl ?_
    refine jx_load c1 hm rfl rfl rfl rfl ?_
    refine jx_load c1 hm rfl rfl rfl rfl ?_
    refine jx_load c1 hm rfl rfl rfl rfl ?_
    refine jy_ic c1 hm rfl (by decide) ?_
    refine jy_add c1 hm (b1 + 1) rfl (by omega) ?_
    obtain ⟨z156, kz156, lz156, uz156⟩ := hf ((b1 + 1)).toNat
    refine jx_sald c1 hm rfl ⟨by omega, by omega⟩ kz156 ?_
    refine jx_load c1 hm rfl rfl rfl rfl ?_
    refine jx_load c1 hm rfl rfl rfl rfl ?_
    refine jy_ic c1 hm rfl (by decide) ?_
    refine jy_add c1 hm (b1 + 2) rfl (by omega) ?_
    obtain ⟨z157, kz157, lz157, uz157⟩ := hf ((b1 + 2)).toNat
    refine jx_sald c1 hm rfl ⟨by omega, by omega⟩ kz157 ?_
    refine jv_i c3 hm rfl (plp pj_X11_buy rfl) rfl rfl ⟨_, _, _, rfl, sh_0⟩ rfl ((ct_X11_buy_0 (X + 8000 * b1) (by omega) M4 hH4 z156 ⟨by omega, by omega⟩ z157 ⟨by omega, by omega⟩).le (by decide)) (fun z158 M159 ⟨hH159, hR159, lz158, uz158⟩ => ?_)
    refine jx_pop c1 hm rfl rfl ?_
    refine jx_load c1 hm rfl rfl rfl rfl ?_
    refine jx_load c1 hm rfl rfl rfl rfl ?_
    refine jx_load c1 hm rfl rfl rfl rfl ?_
    refine jy_ic c1 hm rfl (by decide) ?_
    refine jy_add c1 hm (b1 + 1) rfl (by omega) ?_
    obtain ⟨z160, kz160, lz160, uz160⟩ := hf ((b1 + 1)).toNat
    refine jx_sald c1 hm rfl ⟨by omega, by omega⟩ kz160 ?_
    refine jx_load c1 hm rfl rfl rfl rfl ?_
    refine jx_load c1 hm rfl rfl rfl rfl ?_
    refine jy_ic c1 hm rfl (by decide) ?_
    refine jy_add c1 hm (b1 + 2) rfl (by omega) ?_
    obtain ⟨z161, kz161, lz161, uz161⟩ := hf ((b1 + 2)).toNat
    refine jx_sald c1 hm rfl ⟨by omega, by omega⟩ kz161 ?_
    refine jv_i c3 hm rfl (plp pj_X12_buy rfl) rfl rfl ⟨_, _, _, rfl, sh_173⟩ rfl ((ct_X12_buy_173 (X + 8000 * b1 + 1) (by omega) M159 hH159 z160 ⟨by omega, by omega⟩ z161 ⟨by omega, by omega⟩).le (by decide)) (fun z162 M163 ⟨hH163, hR163, lz162, uz162⟩ => ?_)
    rw [show X + 8000 * b1 + 1 + 1 = X + 8000 * b1 + 2 by omega] at hH163
    refine jx_pop c1 hm rfl rfl ?_
    refine jx_goto c1 hm 1445 rfl rfl ?_
    refine jx_iinc c1 hm (v := (b1 + 6)) (L' := [some (.inr (.inr (.inr 0))), some (.inr (.inr (.inl 0))), some (.inr (.inr (.inl 173))), some (.inr (.inr (.inl 198))), some (.inl (b1 + 6)), o2, o3]) rfl rfl (by omega) (by omega) rfl ?_
    refine jx_goto c1 hm 23 rfl rfl ?_
    exact ihW10 (b1 + 6) (by omega) o2 ho2 o3 ho3 M163 (hH163.mono (by omega) (by omega)) k (by omega) (SOK.cg hs1 (fun j h1 h2 => ((hR163 175 j (jin_hi (b := 234) (by decide +kernel) h1)).trans (hR159 175 j rfl)))) (KOK.cg hs2 (fun j h1 h2 => ((hR163 177 j rfl).trans (hR159 177 j rfl)))) (KOK.cg hs3 (fun j h1 h2 => ((hR163 177 j rfl).trans (hR159 177 j rfl)))) (TPQ.cg hs4 ((hR163 0 2 rfl).trans (hR159 0 2 rfl)) ((hR163 173 2 rfl).trans (hR159 173 2 rfl))) (TBQ.cg hs5 (fun j => ((hR163 2 j rfl).trans (hR159 2 j rfl))) (fun j => ((hR163 174 j rfl).trans (hR159 174 j rfl)))) (by omega)
   by_cases h164 : z14 = 13
   ·
    refine jx_tswI c1 hm 672 rfl ⟨by omega, by omega⟩ (by rw [h164] <;> rfl) rfl ?_
    refine jx_load c1 hm rfl rfl rfl rfl ?_
    refine jx_load c1 hm rfl rfl rfl rfl ?_
    refine jx_load c1 hm rfl rfl rfl rfl ?_
    refine jy_ic c1 hm rfl (by decide) ?_
    refine jy_add c1 hm (b1 + 1) rfl (by omega) ?_
    obtain ⟨z165, kz165, lz165, uz165⟩ := hf ((b1 + 1)).toNat
    refine jx_sald c1 hm rfl ⟨by omega, by omega⟩ kz165 ?_
    refine jx_load c1 hm rfl rfl rfl rfl ?_
    refine jx_load c1 hm rfl rfl rfl rfl ?_
    refine jy_ic c1 hm rfl (by decide) ?_
    refine jy_add c1 hm (b1 + 2) rfl (by omega) ?_
    obtain ⟨z166, kz166, lz166, uz166⟩ := hf ((b1 + 2)).toNat
    refine jx_sald c1 hm rfl ⟨by omega, by omega⟩ kz166 ?_
    refine jx_load c1 hm rfl rfl rfl rfl ?_
    refine jx_load c1 hm rfl rfl rfl rfl ?_
    refine jy_ic c1 hm rfl (by decide) ?_
    refine jy_add c1 hm (b1 + 3) rfl (by omega) ?_
    obtain ⟨z167, kz167, lz167, uz167⟩ := hf ((b1 + 3)).toNat
    refine jx_sald c1 hm rfl ⟨by omega, by omega⟩ kz167 ?_
    refine jv_i c3 hm rfl (plp pj_X11_lend rfl) rfl rfl ⟨_, _, _, rfl, sh_0⟩ rfl ((ct_X11_lend_0 (X + 8000 * b1) (by omega) M4 hH4 z165 ⟨by omega, by omega⟩ z166 ⟨by omega, by omega⟩ z167 ⟨by omega, by omega⟩).le (by decide)) (fun z168 M169 ⟨hH169, hR169, lz168, uz168⟩ => ?_)
    refine jx_pop c1 hm rfl rfl ?_
    refine jx_load c1 hm rfl rfl rfl rfl ?_
    refine jx_load c1 hm rfl rfl rfl rfl ?_
    refine jx_load c1 hm rfl rfl rfl rfl ?_
    refine jy_ic c1 hm rfl (by decide) ?_
    refine jy_add c1 hm (b1 + 1) rfl (by omega) ?_
    obtain ⟨z170, kz170, lz170, uz170⟩ := hf ((b1 + 1)).toNat
    refine jx_sald c1 hm rfl ⟨by omega, by omega⟩ kz170 ?_
    refine jx_load c1 hm rfl rfl rfl rfl ?_
    refine jx_load c1 hm rfl rfl rfl rfl ?_
    refine jy_ic c1 hm rfl (by decide) ?_
    refine jy_add c1 hm (b1 + 2) rfl (by omega) ?_
    obtain ⟨z171, kz171, lz171, uz171⟩ := hf ((b1 + 2)).toNat
    refine jx_sald c1 hm rfl ⟨by omega, by omega⟩ kz171 ?_
    refine jx_load c1 hm rfl rfl rfl rfl ?_
    refine jx_load c1 hm rfl rfl rfl rfl ?_
    refine jy_ic c1 hm rfl (by decide) ?_
    refine jy_add c1 hm (b1 + 3) rfl (by omega) ?_
    obtain ⟨z172, kz172, lz172, uz172⟩ := hf ((b1 + 3)).toNat
    refine jx_sald c1 hm rfl ⟨by omega, by omega⟩ kz172 ?_
    refine jv_i c3 hm rfl (plp pj_X12_lend rfl) rfl rfl ⟨_, _, _, rfl, sh_173⟩ rfl ((ct_X12_lend_173 (X + 8000 * b1 + 1) (by omega) M169 hH169 z170 ⟨by omega, by omega⟩ z171 ⟨by omega, by omega⟩ z172 ⟨by omega, by omega⟩).le (by decide)) (fun z173 M174 ⟨hH174, hR174, lz173, uz173⟩ => ?_)
    rw [show X + 8000 * b1 + 1 + 1 = X + 8000 * b1 + 2 by omega] at hH174
    refine jx_pop c1 hm rfl rfl ?_
    refine jx_goto c1 hm 1445 rfl rfl ?_
    refine jx_iinc c1 hm (v := (b1 + 6)) (L' := [some (.inr (.inr (.inr 0))), some (.inr (.inr (.inl 0))), some (.inr (.inr (.inl 173))), some (.inr (.inr (.inl 198))), some (.inl (b1 + 6)), o2, o3]) rfl rfl (by omega) (by omega) rfl ?_
    refine jx_goto c1 hm 23 rfl rfl ?_
    exact ihW10 (b1 + 6) (by omega) o2 ho2 o3 ho3 M174 (hH174.mono (by omega) (by omega)) k (by omega) (SOK.cg hs1 (fun j h1 h2 => ((hR174 175 j (jin_hi (b := 234) (by decide +kernel) h1)).trans (hR169 175 j rfl)))) (KOK.cg hs2 (fun j h1 h2 => ((hR174 177 j rfl).trans (hR169 177 j rfl)))) (KOK.cg hs3 (fun j h1 h2 => ((hR174 177 j rfl).trans (hR169 177 j rfl)))) (TPQ.cg hs4 ((hR174 0 2 rfl).trans (hR169 0 2 rfl)) ((hR174 173 2 rfl).trans (hR169 173 2 rfl))) (TBQ.cg hs5 (fun j => ((hR174 2 j rfl).trans (hR169 2 j rfl))) (fun j => ((hR174 174 j rfl).trans (hR169 174 j rfl)))) (by omega)
   by_cases h175 : z14 = 14
   ·
    refine jx_tswI c1 hm 721 rfl ⟨by omega, by omega⟩ (by rw [h175] <;> rfl) rfl ?_
    refine jx_load c1 hm rfl rfl rfl rfl ?_
    refine jx_load c1 hm rfl rfl rfl rfl ?_
    refine jx_load c1 hm rfl rfl rfl rfl ?_
    refine jy_ic c1 hm rfl (by decide) ?_
    refine jy_add c1 hm (b1 + 1) rfl (by omega) ?_
    obtain ⟨z176, kz176, lz176, uz176⟩ := hf ((b1 + 1)).toNat
    refine jx_sald c1 hm rfl ⟨by omega, by omega⟩ kz176 ?_
    refine jx_load c1 hm rfl rfl rfl rfl ?_
    refine jx_load c1 hm rfl rfl rfl rfl ?_
    refine jy_ic c1 hm rfl (by decide) ?_
    refine jy_add c1 hm (b1 + 2) rfl (by omega) ?_
    obtain ⟨z177, kz177, lz177, uz177⟩ := hf ((b1 + 2)).toNat
    refine jx_sald c1 hm rfl ⟨by omega, by omega⟩ kz177 ?_
    refine jx_load c1 hm rfl rfl rfl rfl ?_
    refine jx_load c1 hm rfl rfl rfl rfl ?_
    refine jy_ic c1 hm rfl (by decide) ?_
    refine jy_add c1 hm (b1 + 3) rfl (by omega) ?_
    obtain ⟨z178, kz178, lz178, uz178⟩ := hf ((b1 + 3)).toNat
    refine jx_sald c1 hm rfl ⟨by omega, by omega⟩ kz178 ?_
    refine jv_i c3 hm rfl (plp pj_X11_repay rfl) rfl rfl ⟨_, _, _, rfl, sh_0⟩ rfl ((ct_X11_repay_0 (X + 8000 * b1) (by omega) M4 hH4 z176 ⟨by omega, by omega⟩ z177 ⟨by omega, by omega⟩ z178 ⟨by omega, by omega⟩).le (by decide)) (fun z179 M180 ⟨hH180, hR180, lz179, uz179⟩ => ?_)
    refine jx_pop c1 hm rfl rfl ?_
    refine jx_load c1 hm rfl rfl rfl rfl ?_
    refine jx_load c1 hm rfl rfl rfl rfl ?_
    refine jx_load c1 hm rfl rfl rfl rfl ?_
    refine jy_ic c1 hm rfl (by decide) ?_
    refine jy_add c1 hm (b1 + 1) rfl (by omega) ?_
    obtain ⟨z181, kz181, lz181, uz181⟩ := hf ((b1 + 1)).toNat
    refine jx_sald c1 hm rfl ⟨by omega, by omega⟩ kz181 ?_
    refine jx_load c1 hm rfl rfl rfl rfl ?_
    refine jx_load c1 hm rfl rfl rfl rfl ?_
    refine jy_ic c1 hm rfl (by decide) ?_
    refine jy_add c1 hm (b1 + 2) rfl (by omega) ?_
    obtain ⟨z182, kz182, lz182, uz182⟩ := hf ((b1 + 2)).toNat
    refine jx_sald c1 hm rfl ⟨by omega, by omega⟩ kz182 ?_
    refine jx_load c1 hm rfl rfl rfl rfl ?_
    refine jx_load c1 hm rfl rfl rfl rfl ?_
    refine jy_ic c1 hm rfl (by decide) ?_
    refine jy_add c1 hm (b1 + 3) rfl (by omega) ?_
    obtain ⟨z183, kz183, lz183, uz183⟩ := hf ((b1 + 3)).toNat
    refine jx_sald c1 hm rfl ⟨by omega, by omega⟩ kz183 ?_
    refine jv_i c3 hm rfl (plp pj_X12_repay rfl) rfl rfl ⟨_, _, _, rfl, sh_173⟩ rfl ((ct_X12_repay_173 (X + 8000 * b1 + 1) (by omega) M180 hH180 z181 ⟨by omega, by omega⟩ z182 ⟨by omega, by omega⟩ z183 ⟨by omega, by omega⟩).le (by decide)) (fun z184 M185 ⟨hH185, hR185, lz184, uz184⟩ => ?_)
    rw [show X + 8000 * b1 + 1 + 1 = X + 8000 * b1 + 2 by omega] at hH185
    refine jx_pop c1 hm rfl rfl ?_
    refine jx_goto c1 hm 1445 rfl rfl ?_
    refine jx_iinc c1 hm (v := (b1 + 6)) (L' := [some (.inr (.inr (.inr 0))), some (.inr (.inr (.inl 0))), some (.inr (.inr (.inl 173))), some (.inr (.inr (.inl 198))), some (.inl (b1 + 6)), o2, o3]) rfl rfl (by omega) (by omega) rfl ?_
    refine jx_goto c1 hm 23 rfl rfl ?_
    exact ihW10 (b1 + 6) (by omega) o2 ho2 o3 ho3 M185 (hH185.mono (by omega) (by omega)) k (by omega) (SOK.cg hs1 (fun j h1 h2 => ((hR185 175 j (jin_hi (b := 234) (by decide +kernel) h1)).trans (hR180 175 j rfl)))) (KOK.cg hs2 (fun j h1 h2 => ((hR185 177 j rfl).trans (hR180 177 j rfl)))) (KOK.cg hs3 (fun j h1 h2 => ((hR185 177 j rfl).trans (hR180 177 j rfl)))) (TPQ.cg hs4 ((hR185 0 2 rfl).trans (hR180 0 2 rfl)) ((hR185 173 2 rfl).trans (hR180 173 2 rfl))) (TBQ.cg hs5 (fun j => ((hR185 2 j rfl).trans (hR180 2 j rfl))) (fun j => ((hR185 174 j rfl).trans (hR180 174 j rfl)))) (by omega)
   by_cases h186 : z14 = 15
   ·
    refine jx_tswI c1 hm 770 rfl ⟨by omega, by omega⟩ (by rw [h186] <;> rfl) rfl ?_
    refine jx_load c1 hm rfl rfl rfl rfl ?_
    refine jv_i c3 hm rfl (plp pj_X11_strike rfl) rfl rfl ⟨_, _, _, rfl, sh_0⟩ rfl ((ct_X11_strike_0 (X + 8000 * b1) (by omega) M4 hH4 ).le (by decide)) (fun z187 M188 ⟨hH188, hR188, lz187, uz187⟩ => ?_)
    refine jx_pop c1 hm rfl rfl ?_
    refine jx_load c1 hm rfl rfl rfl rfl ?_
    refine jv_i c3 hm rfl (plp pj_X12_strike rfl) rfl rfl ⟨_, _, _, rfl, sh_173⟩ rfl ((ct_X12_strike_173 (X + 8000 * b1 + 1) (by omega) M188 hH188 ).le (by decide)) (fun z189 M190 ⟨hH190, hR190, lz189, uz189⟩ => ?_)
    refine jx_pop c1 hm rfl rfl ?_
    refine jx_goto c1 hm 1445 rfl rfl ?_
    refine jx_iinc c1 hm (v := (b1 + 6)) (L' := [some (.inr (.inr (.inr 0))), some (.inr (.inr (.inl 0))), some (.inr (.inr (.inl 173))), some (.inr (.inr (.inl 198))), some (.inl (b1 + 6)), o2, o3]) rfl rfl (by omega) (by omega) rfl ?_
    refine jx_goto c1 hm 23 rfl rfl ?_
    exact ihW10 (b1 + 6) (by omega) o2 ho2 o3 ho3 M190 (hH190.mono (by omega) (by omega)) k (by omega) (SOK.cg hs1 (fun j h1 h2 => ((hR190 175 j (jin_hi (b := 234) (by decide +kernel) h1)).trans (hR188 175 j rfl)))) (KOK.cg hs2 (fun j h1 h2 => ((hR190 177 j rfl).trans (hR188 177 j rfl)))) (KOK.cg hs3 (fun j h1 h2 => ((hR190 177 j rfl).trans (hR188 177 j rfl)))) (TPQ.cg hs4 ((hR190 0 2 rfl).trans (hR188 0 2 rfl)) ((hR190 173 2 rfl).trans (hR188 173 2 rfl))) (TBQ.cg hs5 (fun j => ((hR190 2 j rfl).trans (hR188 2 j rfl))) (fun j => ((hR190 174 j rfl).trans (hR188 174 j rfl)))) (by omega)
   by_cases h191 : z14 = 16
   ·
    refine jx_tswI c1 hm 783 rfl ⟨by omega, by omega⟩ (by rw [h191] <;> rfl) rfl ?_
    refine jx_load c1 hm rfl rfl rfl rfl ?_
    refine jx_load c1 hm rfl rfl rfl rfl ?_
    refine jx_load c1 hm rfl rfl rfl rfl ?_
    refine jy_ic c1 hm rfl (by decide) ?_
    refine jy_add c1 hm (b1 + 1) rfl (by omega) ?_
    obtain ⟨z192, kz192, lz192, uz192⟩ := hf ((b1 + 1)).toNat
    refine jx_sald c1 hm rfl ⟨by omega, by omega⟩ kz192 ?_
    refine jv_i c3 hm rfl (plp pj_X11_weeks rfl) rfl rfl ⟨_, _, _, rfl, sh_0⟩ rfl ((ct_X11_weeks_0 (X + 8000 * b1) (by omega) M4 hH4 z192 ⟨by omega, by omega⟩).le (by decide)) (fun z193 M194 ⟨hH194, hR194, lz193, uz193⟩ => ?_)
    refine jx_pop c1 hm rfl rfl ?_
    refine jx_load c1 hm rfl rfl rfl rfl ?_
    refine jx_load c1 hm rfl rfl rfl rfl ?_
    refine jx_load c1 hm rfl rfl rfl rfl ?_
    refine jy_ic c1 hm rfl (by decide) ?_
    refine jy_add c1 hm (b1 + 1) rfl (by omega) ?_
    obtain ⟨z195, kz195, lz195, uz195⟩ := hf ((b1 + 1)).toNat
    refine jx_sald c1 hm rfl ⟨by omega, by omega⟩ kz195 ?_
    refine jv_i c3 hm rfl (plp pj_X12_weeks rfl) rfl rfl ⟨_, _, _, rfl, sh_173⟩ rfl ((ct_X12_weeks_173 (X + 8000 * b1 + 1) (by omega) M194 hH194 z195 ⟨by omega, by omega⟩).le (by decide)) (fun z196 M197 ⟨hH197, hR197, lz196, uz196⟩ => ?_)
    refine jx_pop c1 hm rfl rfl ?_
    refine jx_goto c1 hm 1445 rfl rfl ?_
    refine jx_iinc c1 hm (v := (b1 + 6)) (L' := [some (.inr (.inr (.inr 0))), some (.inr (.inr (.inl 0))), some (.inr (.inr (.inl 173))), some (.inr (.inr (.inl 198))), some (.inl (b1 + 6)), o2, o3]) rfl rfl (by omega) (by omega) rfl ?_
    refine jx_goto c1 hm 23 rfl rfl ?_
    exact ihW10 (b1 + 6) (by omega) o2 ho2 o3 ho3 M197 (hH197.mono (by omega) (by omega)) k (by omega) (SOK.cg hs1 (fun j h1 h2 => ((hR197 175 j (jin_hi (b := 234) (by decide +kernel) h1)).trans (hR194 175 j rfl)))) (KOK.cg hs2 (fun j h1 h2 => ((hR197 177 j rfl).trans (hR194 177 j rfl)))) (KOK.cg hs3 (fun j h1 h2 => ((hR197 177 j rfl).trans (hR194 177 j rfl)))) (TPQ.cg hs4 ((hR197 0 2 rfl).trans (hR194 0 2 rfl)) ((hR197 173 2 rfl).trans (hR194 173 2 rfl))) (TBQ.cg hs5 (fun j => ((hR197 2 j rfl).trans (hR194 2 j rfl))) (fun j => ((hR197 174 j rfl).trans (hR194 174 j rfl)))) (by omega)
   by_cases h198 : z14 = 17
   ·
    refine jx_tswI c1 hm 808 rfl ⟨by omega, by omega⟩ (by rw [h198] <;> rfl) rfl ?_
    refine jx_load c1 hm rfl rfl rfl rfl ?_
    refine jv_i c3 hm rfl (plp pj_X11_undo rfl) rfl rfl ⟨_, _, _, rfl, sh_0⟩ rfl ((ct_X11_undo_0 (X + 8000 * b1) (by omega) M4 hH4 ).le (by decide)) (fun z199 M200 ⟨hH200, hR200, lz199, uz199⟩ => ?_)
    refine jx_pop c1 hm rfl rfl ?_
    refine jx_load c1 hm rfl rfl rfl rfl ?_
    refine jv_i c3 hm rfl (plp pj_X12_undo rfl) rfl rfl ⟨_, _, _, rfl, sh_173⟩ rfl ((ct_X12_undo_173 (X + 8000 * b1) (by omega) M200 hH200 ).le (by decide)) (fun z201 M202 ⟨hH202, hR202, lz201, uz201⟩ => ?_)
    refine jx_pop c1 hm rfl rfl ?_
    refine jx_goto c1 hm 1445 rfl rfl ?_
    refine jx_iinc c1 hm (v := (b1 + 6)) (L' := [some (.inr (.inr (.inr 0))), some (.inr (.inr (.inl 0))), some (.inr (.inr (.inl 173))), some (.inr (.inr (.inl 198))), some (.inl (b1 + 6)), o2, o3]) rfl rfl (by omega) (by omega) rfl ?_
    refine jx_goto c1 hm 23 rfl rfl ?_
    exact ihW10 (b1 + 6) (by omega) o2 ho2 o3 ho3 M202 (hH202.mono (by omega) (by omega)) k (by omega) (SOK.cg hs1 (fun j h1 h2 => ((hR202 175 j (jin_hi (b := 234) (by decide +kernel) h1)).trans (hR200 175 j rfl)))) (KOK.cg hs2 (fun j h1 h2 => ((hR202 177 j rfl).trans (hR200 177 j rfl)))) (KOK.cg hs3 (fun j h1 h2 => ((hR202 177 j rfl).trans (hR200 177 j rfl)))) (TPQ.cg hs4 ((hR202 0 2 rfl).trans (hR200 0 2 rfl)) ((hR202 173 2 rfl).trans (hR200 173 2 rfl))) (TBQ.cg hs5 (fun j => ((hR202 2 j rfl).trans (hR200 2 j rfl))) (fun j => ((hR202 174 j rfl).trans (hR200 174 j rfl)))) (by omega)
   by_cases h203 : z14 = 18
   ·
    refine jx_tswI c1 hm 821 rfl ⟨by omega, by omega⟩ (by rw [h203] <;> rfl) rfl ?_
    refine jx_load c1 hm rfl rfl rfl rfl ?_
    refine jv_i c3 hm rfl (plp pj_X11_ring rfl) rfl rfl ⟨_, _, _, rfl, sh_0⟩ rfl ((ct_X11_ring_0 (X + 8000 * b1) (by omega) M4 hH4 ).le (by decide)) (fun z204 M205 ⟨hH205, hR205, lz204, uz204⟩ => ?_)
    refine jx_pop c1 hm rfl rfl ?_
    refine jx_load c1 hm rfl rfl rfl rfl ?_
    refine jv_i c3 hm rfl (plp pj_X12_ring rfl) rfl rfl ⟨_, _, _, rfl, sh_173⟩ rfl ((ct_X12_ring_173 (X + 8000 * b1) (by omega) M205 hH205 ).le (by decide)) (fun z206 M207 ⟨hH207, hR207, lz206, uz206⟩ => ?_)
    refine jx_pop c1 hm rfl rfl ?_
    refine jx_goto c1 hm 1445 rfl rfl ?_
    refine jx_iinc c1 hm (v := (b1 + 6)) (L' := [some (.inr (.inr (.inr 0))), some (.inr (.inr (.inl 0))), some (.inr (.inr (.inl 173))), some (.inr (.inr (.inl 198))), some (.inl (b1 + 6)), o2, o3]) rfl rfl (by omega) (by omega) rfl ?_
    refine jx_goto c1 hm 23 rfl rfl ?_
    exact ihW10 (b1 + 6) (by omega) o2 ho2 o3 ho3 M207 (hH207.mono (by omega) (by omega)) k (by omega) (SOK.cg hs1 (fun j h1 h2 => ((hR207 175 j rfl).trans (hR205 175 j rfl)))) (KOK.cg hs2 (fun j h1 h2 => ((hR207 177 j rfl).trans (hR205 177 j rfl)))) (KOK.cg hs3 (fun j h1 h2 => ((hR207 177 j rfl).trans (hR205 177 j rfl)))) (TPQ.cg hs4 ((hR207 0 2 rfl).trans (hR205 0 2 rfl)) ((hR207 173 2 rfl).trans (hR205 173 2 rfl))) (TBQ.cg hs5 (fun j => ((hR207 2 j rfl).trans (hR205 2 j rfl))) (fun j => ((hR207 174 j rfl).trans (hR205 174 j rfl)))) (by omega)
   by_cases h208 : z14 = 19
   ·
    refine jx_tswI c1 hm 834 rfl ⟨by omega, by omega⟩ (by rw [h208] <;> rfl) rfl ?_
    refine jx_load c1 hm rfl rfl rfl rfl ?_
    refine jx_load c1 hm rfl rfl rfl rfl ?_
    refine jx_load c1 hm rfl rfl rfl rfl ?_
    refine jy_ic c1 hm rfl (by decide) ?_
    refine jy_add c1 hm (b1 + 1) rfl (by omega) ?_
    obtain ⟨z209, kz209, lz209, uz209⟩ := hf ((b1 + 1)).toNat
    refine jx_sald c1 hm rfl ⟨by omega, by omega⟩ kz209 ?_
    refine jv_i c3 hm rfl (plp pj_X11_ringAt rfl) rfl rfl ⟨_, _, _, rfl, sh_0⟩ rfl ((ct_X11_ringAt_0 (X + 8000 * b1) (by omega) M4 hH4 z209 ⟨by omega, by omega⟩).le (by decide)) (fun z210 _ ⟨rfl, lz210, uz210⟩ => ?_)
    refine jx_pop c1 hm rfl rfl ?_
    refine jx_load c1 hm rfl rfl rfl rfl ?_
    refine jx_load c1 hm rfl rfl rfl rfl ?_
    refine jx_load c1 hm rfl rfl rfl rfl ?_
    refine jy_ic c1 hm rfl (by decide) ?_
    refine jy_add c1 hm (b1 + 1) rfl (by omega) ?_
    obtain ⟨z211, kz211, lz211, uz211⟩ := hf ((b1 + 1)).toNat
    refine jx_sald c1 hm rfl ⟨by omega, by omega⟩ kz211 ?_
    refine jv_i c3 hm rfl (plp pj_X12_ringAt rfl) rfl rfl ⟨_, _, _, rfl, sh_173⟩ rfl ((ct_X12_ringAt_173 (X + 8000 * b1) (by omega) M4 hH4 z211 ⟨by omega, by omega⟩).le (by decide)) (fun z212 M213 ⟨hH213, hR213, lz212, uz212⟩ => ?_)
    refine jx_pop c1 hm rfl rfl ?_
    refine jx_goto c1 hm 1445 rfl rfl ?_
    refine jx_iinc c1 hm (v := (b1 + 6)) (L' := [some (.inr (.inr (.inr 0))), some (.inr (.inr (.inl 0))), some (.inr (.inr (.inl 173))), some (.inr (.inr (.inl 198))), some (.inl (b1 + 6)), o2, o3]) rfl rfl (by omega) (by omega) rfl ?_
    refine jx_goto c1 hm 23 rfl rfl ?_
    exact ihW10 (b1 + 6) (by omega) o2 ho2 o3 ho3 M213 (hH213.mono (by omega) (by omega)) k (by omega) (SOK.cg hs1 (fun j h1 h2 => (hR213 175 j rfl))) (KOK.cg hs2 (fun j h1 h2 => (hR213 177 j rfl))) (KOK.cg hs3 (fun j h1 h2 => (hR213 177 j rfl))) (TPQ.cg hs4 (hR213 0 2 rfl) (hR213 173 2 rfl)) (TBQ.cg hs5 (fun j => (hR213 2 j rfl)) (fun j => (hR213 174 j rfl))) (by omega)
   by_cases h214 : z14 = 20
   ·
    refine jx_tswI c1 hm 859 rfl ⟨by omega, by omega⟩ (by rw [h214] <;> rfl) rfl ?_
    refine jx_load c1 hm rfl rfl rfl rfl ?_
    refine jx_load c1 hm rfl rfl rfl rfl ?_
    refine jx_load c1 hm rfl rfl rfl rfl ?_
    refine jy_ic c1 hm rfl (by decide) ?_
    refine jy_add c1 hm (b1 + 1) rfl (by omega) ?_
    obtain ⟨z215, kz215, lz215, uz215⟩ := hf ((b1 + 1)).toNat
    refine jx_sald c1 hm rfl ⟨by omega, by omega⟩ kz215 ?_
    refine jx_load c1 hm rfl rfl rfl rfl ?_
    refine jx_load c1 hm rfl rfl rfl rfl ?_
    refine jy_ic c1 hm rfl (by decide) ?_
    refine jy_add c1 hm (b1 + 2) rfl (by omega) ?_
    obtain ⟨z216, kz216, lz216, uz216⟩ := hf ((b1 + 2)).toNat
    refine jx_sald c1 hm rfl ⟨by omega, by omega⟩ kz216 ?_
    refine jv_i c3 hm rfl (plp pj_X11_plan rfl) rfl rfl ⟨_, _, _, rfl, sh_0⟩ rfl ((ct_X11_plan_0 (X + 8000 * b1) (by omega) M4 hH4 z215 ⟨by omega, by omega⟩ z216 ⟨by omega, by omega⟩).le (by decide)) (fun z217 M218 ⟨hH218, hR218, lz217, uz217⟩ => ?_)
    refine jx_pop c1 hm rfl rfl ?_
    refine jx_load c1 hm rfl rfl rfl rfl ?_
    refine jx_load c1 hm rfl rfl rfl rfl ?_
    refine jx_load c1 hm rfl rfl rfl rfl ?_
    refine jy_ic c1 hm rfl (by decide) ?_
    refine jy_add c1 hm (b1 + 1) rfl (by omega) ?_
    obtain ⟨z219, kz219, lz219, uz219⟩ := hf ((b1 + 1)).toNat
    refine jx_sald c1 hm rfl ⟨by omega, by omega⟩ kz219 ?_
    refine jx_load c1 hm rfl rfl rfl rfl ?_
    refine jx_load c1 hm rfl rfl rfl rfl ?_
    refine jy_ic c1 hm rfl (by decide) ?_
    refine jy_add c1 hm (b1 + 2) rfl (by omega) ?_
    obtain ⟨z220, kz220, lz220, uz220⟩ := hf ((b1 + 2)).toNat
    refine jx_sald c1 hm rfl ⟨by omega, by omega⟩ kz220 ?_
    refine jv_i c3 hm rfl (plp pj_X12_plan rfl) rfl rfl ⟨_, _, _, rfl, sh_173⟩ rfl ((ct_X12_plan_173 (X + 8000 * b1) (by omega) M218 hH218 z219 ⟨by omega, by omega⟩ z220 ⟨by omega, by omega⟩).le (by decide)) (fun z221 M222 ⟨hH222, hR222, lz221, uz221⟩ => ?_)
    refine jx_pop c1 hm rfl rfl ?_
    refine jx_goto c1 hm 1445 rfl rfl ?_
    refine jx_iinc c1 hm (v := (b1 + 6)) (L' := [some (.inr (.inr (.inr 0))), some (.inr (.inr (.inl 0))), some (.inr (.inr (.inl 173))), some (.inr (.inr (.inl 198))), some (.inl (b1 + 6)), o2, o3]) rfl rfl (by omega) (by omega) rfl ?_
    refine jx_goto c1 hm 23 rfl rfl ?_
    exact ihW10 (b1 + 6) (by omega) o2 ho2 o3 ho3 M222 (hH222.mono (by omega) (by omega)) k (by omega) (SOK.cg hs1 (fun j h1 h2 => ((hR222 175 j rfl).trans (hR218 175 j rfl)))) (KOK.cg hs2 (fun j h1 h2 => ((hR222 177 j rfl).trans (hR218 177 j rfl)))) (KOK.cg hs3 (fun j h1 h2 => ((hR222 177 j rfl).trans (hR218 177 j rfl)))) (TPQ.cg hs4 ((hR222 0 2 rfl).trans (hR218 0 2 rfl)) ((hR222 173 2 rfl).trans (hR218 173 2 rfl))) (TBQ.cg hs5 (fun j => ((hR222 2 j rfl).trans (hR218 2 j rfl))) (fun j => ((hR222 174 j rfl).trans (hR218 174 j rfl)))) (by omega)
   by_cases h223 : z14 = 21
   ·
    refine jx_tswI c1 hm 896 rfl ⟨by omega, by omega⟩ (by rw [h223] <;> rfl) rfl ?_
    refine jx_load c1 hm rfl rfl rfl rfl ?_
    refine jx_load c1 hm rfl rfl rfl rfl ?_
    refine jx_load c1 hm rfl rfl rfl rfl ?_
    refine jy_ic c1 hm rfl (by decide) ?_
    refine jy_add c1 hm (b1 + 1) rfl (by omega) ?_
    obtain ⟨z224, kz224, lz224, uz224⟩ := hf ((b1 + 1)).toNat
    refine jx_sald c1 hm rfl ⟨by omega, by omega⟩ kz224 ?_
    refine jv_i c3 hm rfl (plp pj_X11_planned rfl) rfl rfl ⟨_, _, _, rfl, sh_0⟩ rfl ((ct_X11_planned_0 (X + 8000 * b1) (by omega) M4 hH4 z224 ⟨by omega, by omega⟩).le (by decide)) (fun z225 _ ⟨rfl, lz225, uz225⟩ => ?_)
    refine jx_pop c1 hm rfl rfl ?_
    refine jx_load c1 hm rfl rfl rfl rfl ?_
    refine jx_load c1 hm rfl rfl rfl rfl ?_
    refine jx_load c1 hm rfl rfl rfl rfl ?_
    refine jy_ic c1 hm rfl (by decide) ?_
    refine jy_add c1 hm (b1 + 1) rfl (by omega) ?_
    obtain ⟨z226, kz226, lz226, uz226⟩ := hf ((b1 + 1)).toNat
    refine jx_sald c1 hm rfl ⟨by omega, by omega⟩ kz226 ?_
    refine jv_i c3 hm rfl (plp pj_X12_planned rfl) rfl rfl ⟨_, _, _, rfl, sh_173⟩ rfl ((ct_X12_planned_173 (X + 8000 * b1) (by omega) M4 hH4 z226 ⟨by omega, by omega⟩).le (by decide)) (fun z227 M228 ⟨hH228, hR228, lz227, uz227⟩ => ?_)
    refine jx_pop c1 hm rfl rfl ?_
    refine jx_goto c1 hm 1445 rfl rfl ?_
    refine jx_iinc c1 hm (v := (b1 + 6)) (L' := [some (.inr (.inr (.inr 0))), some (.inr (.inr (.inl 0))), some (.inr (.inr (.inl 173))), some (.inr (.inr (.inl 198))), some (.inl (b1 + 6)), o2, o3]) rfl rfl (by omega) (by omega) rfl ?_
    refine jx_goto c1 hm 23 rfl rfl ?_
    exact ihW10 (b1 + 6) (by omega) o2 ho2 o3 ho3 M228 (hH228.mono (by omega) (by omega)) k (by omega) (SOK.cg hs1 (fun j h1 h2 => (hR228 175 j rfl))) (KOK.cg hs2 (fun j h1 h2 => (hR228 177 j rfl))) (KOK.cg hs3 (fun j h1 h2 => (hR228 177 j rfl))) (TPQ.cg hs4 (hR228 0 2 rfl) (hR228 173 2 rfl)) (TBQ.cg hs5 (fun j => (hR228 2 j rfl)) (fun j => (hR228 174 j rfl))) (by omega)
   by_cases h229 : z14 = 22
   ·
    refine jx_tswI c1 hm 921 rfl ⟨by omega, by omega⟩ (by rw [h229] <;> rfl) rfl ?_
    refine jx_load c1 hm rfl rfl rfl rfl ?_
    refine jx_load c1 hm rfl rfl rfl rfl ?_
    refine jx_load c1 hm rfl rfl rfl rfl ?_
    refine jy_ic c1 hm rfl (by decide) ?_
    refine jy_add c1 hm (b1 + 1) rfl (by omega) ?_
    obtain ⟨z230, kz230, lz230, uz230⟩ := hf ((b1 + 1)).toNat
    refine jx_sald c1 hm rfl ⟨by omega, by omega⟩ kz230 ?_
    refine jx_load c1 hm rfl rfl rfl rfl ?_
    refine jx_load c1 hm rfl rfl rfl rfl ?_
    refine jy_ic c1 hm rfl (by decide) ?_
    refine jy_add c1 hm (b1 + 2) rfl (by omega) ?_
    obtain ⟨z231, kz231, lz231, uz231⟩ := hf ((b1 + 2)).toNat
    refine jx_sald c1 hm rfl ⟨by omega, by omega⟩ kz231 ?_
    refine jv_i c3 hm rfl (plp pj_X11_lasts rfl) rfl rfl ⟨_, _, _, rfl, sh_0⟩ rfl ((ct_X11_lasts_0 (X + 8000 * b1) (by omega) M4 hH4 z230 ⟨by omega, by omega⟩ z231 ⟨by omega, by omega⟩).le (by decide)) (fun z232 _ ⟨rfl, lz232, uz232⟩ => ?_)
    refine jx_pop c1 hm rfl rfl ?_
    refine jx_load c1 hm rfl rfl rfl rfl ?_
    refine jx_load c1 hm rfl rfl rfl rfl ?_
    refine jx_load c1 hm rfl rfl rfl rfl ?_
    refine jy_ic c1 hm rfl (by decide) ?_
    refine jy_add c1 hm (b1 + 1) rfl (by omega) ?_
    obtain ⟨z233, kz233, lz233, uz233⟩ := hf ((b1 + 1)).toNat
    refine jx_sald c1 hm rfl ⟨by omega, by omega⟩ kz233 ?_
    refine jx_load c1 hm rfl rfl rfl rfl ?_
    refine jx_load c1 hm rfl rfl rfl rfl ?_
    refine jy_ic c1 hm rfl (by decide) ?_
    refine jy_add c1 hm (b1 + 2) rfl (by omega) ?_
    obtain ⟨z234, kz234, lz234, uz234⟩ := hf ((b1 + 2)).toNat
    refine jx_sald c1 hm rfl ⟨by omega, by omega⟩ kz234 ?_
    refine jv_i c3 hm rfl (plp pj_X12_lasts rfl) rfl rfl ⟨_, _, _, rfl, sh_173⟩ rfl ((ct_X12_lasts_173 (X + 8000 * b1) (by omega) M4 hH4 z233 ⟨by omega, by omega⟩ z234 ⟨by omega, by omega⟩).le (by decide)) (fun z235 M236 ⟨hH236, hR236, lz235, uz235⟩ => ?_)
    refine jx_pop c1 hm rfl rfl ?_
    refine jx_goto c1 hm 1445 rfl rfl ?_
    refine jx_iinc c1 hm (v := (b1 + 6)) (L' := [some (.inr (.inr (.inr 0))), some (.inr (.inr (.inl 0))), some (.inr (.inr (.inl 173))), some (.inr (.inr (.inl 198))), some (.inl (b1 + 6)), o2, o3]) rfl rfl (by omega) (by omega) rfl ?_
    refine jx_goto c1 hm 23 rfl rfl ?_
    exact ihW10 (b1 + 6) (by omega) o2 ho2 o3 ho3 M236 (hH236.mono (by omega) (by omega)) k (by omega) (SOK.cg hs1 (fun j h1 h2 => (hR236 175 j rfl))) (KOK.cg hs2 (fun j h1 h2 => (hR236 177 j rfl))) (KOK.cg hs3 (fun j h1 h2 => (hR236 177 j rfl))) (TPQ.cg hs4 (hR236 0 2 rfl) (hR236 173 2 rfl)) (TBQ.cg hs5 (fun j => (hR236 2 j rfl)) (fun j => (hR236 174 j rfl))) (by omega)
   by_cases h237 : z14 = 23
   ·
    refine jx_tswI c1 hm 958 rfl ⟨by omega, by omega⟩ (by rw [h237] <;> rfl) rfl ?_
    refine jx_load c1 hm rfl rfl rfl rfl ?_
    refine jx_load c1 hm rfl rfl rfl rfl ?_
    refine jx_load c1 hm rfl rfl rfl rfl ?_
    refine jy_ic c1 hm rfl (by decide) ?_
    refine jy_add c1 hm (b1 + 1) rfl (by omega) ?_
    obtain ⟨z238, kz238, lz238, uz238⟩ := hf ((b1 + 1)).toNat
    refine jx_sald c1 hm rfl ⟨by omega, by omega⟩ kz238 ?_
    refine jx_load c1 hm rfl rfl rfl rfl ?_
    refine jx_load c1 hm rfl rfl rfl rfl ?_
    refine jy_ic c1 hm rfl (by decide) ?_
    refine jy_add c1 hm (b1 + 2) rfl (by omega) ?_
    obtain ⟨z239, kz239, lz239, uz239⟩ := hf ((b1 + 2)).toNat
    refine jx_sald c1 hm rfl ⟨by omega, by omega⟩ kz239 ?_
    refine jv_i c3 hm rfl (plp pj_X11_worth rfl) rfl rfl ⟨_, _, _, rfl, sh_0⟩ rfl ((ct_X11_worth_0 (X + 8000 * b1) (by omega) M4 hH4 z238 ⟨by omega, by omega⟩ z239 ⟨by omega, by omega⟩).le (by decide)) (fun z240 _ ⟨rfl, lz240, uz240⟩ => ?_)
    refine jx_pop c1 hm rfl rfl ?_
    refine jx_load c1 hm rfl rfl rfl rfl ?_
    refine jx_load c1 hm rfl rfl rfl rfl ?_
    refine jx_load c1 hm rfl rfl rfl rfl ?_
    refine jy_ic c1 hm rfl (by decide) ?_
    refine jy_add c1 hm (b1 + 1) rfl (by omega) ?_
    obtain ⟨z241, kz241, lz241, uz241⟩ := hf ((b1 + 1)).toNat
    refine jx_sald c1 hm rfl ⟨by omega, by omega⟩ kz241 ?_
    refine jx_load c1 hm rfl rfl rfl rfl ?_
    refine jx_load c1 hm rfl rfl rfl rfl ?_
    refine jy_ic c1 hm rfl (by decide) ?_
    refine jy_add c1 hm (b1 + 2) rfl (by omega) ?_
    obtain ⟨z242, kz242, lz242, uz242⟩ := hf ((b1 + 2)).toNat
    refine jx_sald c1 hm rfl ⟨by omega, by omega⟩ kz242 ?_
    refine jv_i c3 hm rfl (plp pj_X12_worth rfl) rfl rfl ⟨_, _, _, rfl, sh_173⟩ rfl ((ct_X12_worth_173 (X + 8000 * b1) (by omega) M4 hH4 z241 ⟨by omega, by omega⟩ z242 ⟨by omega, by omega⟩).le (by decide)) (fun z243 M244 ⟨hH244, hR244, lz243, uz243⟩ => ?_)
    refine jx_pop c1 hm rfl rfl ?_
    refine jx_goto c1 hm 1445 rfl rfl ?_
    refine jx_iinc c1 hm (v := (b1 + 6)) (L' := [some (.inr (.inr (.inr 0))), some (.inr (.inr (.inl 0))), some (.inr (.inr (.inl 173))), some (.inr (.inr (.inl 198))), some (.inl (b1 + 6)), o2, o3]) rfl rfl (by omega) (by omega) rfl ?_
    refine jx_goto c1 hm 23 rfl rfl ?_
    exact ihW10 (b1 + 6) (by omega) o2 ho2 o3 ho3 M244 (hH244.mono (by omega) (by omega)) k (by omega) (SOK.cg hs1 (fun j h1 h2 => (hR244 175 j rfl))) (KOK.cg hs2 (fun j h1 h2 => (hR244 177 j rfl))) (KOK.cg hs3 (fun j h1 h2 => (hR244 177 j rfl))) (TPQ.cg hs4 (hR244 0 2 rfl) (hR244 173 2 rfl)) (TBQ.cg hs5 (fun j => (hR244 2 j rfl)) (fun j => (hR244 174 j rfl))) (by omega)
   by_cases h245 : z14 = 24
   ·
    refine jx_tswI c1 hm 995 rfl ⟨by omega, by omega⟩ (by rw [h245] <;> rfl) rfl ?_
    refine jx_load c1 hm rfl rfl rfl rfl ?_
    refine jv_i c3 hm rfl (plp pj_X11_even rfl) rfl rfl ⟨_, _, _, rfl, sh_0⟩ rfl ((ct_X11_even_0 (X + 8000 * b1) (by omega) M4 hH4 ).le (by decide)) (fun z246 M247 ⟨hH247, hR247, lz246, uz246⟩ => ?_)
    refine jx_pop c1 hm rfl rfl ?_
    refine jx_load c1 hm rfl rfl rfl rfl ?_
    refine jv_i c3 hm rfl (plp pj_X12_even rfl) rfl rfl ⟨_, _, _, rfl, sh_173⟩ rfl ((ct_X12_even_173 (X + 8000 * b1) (by omega) M247 hH247 ).le (by decide)) (fun z248 M249 ⟨hH249, hR249, lz248, uz248⟩ => ?_)
    refine jx_pop c1 hm rfl rfl ?_
    refine jx_goto c1 hm 1445 rfl rfl ?_
    refine jx_iinc c1 hm (v := (b1 + 6)) (L' := [some (.inr (.inr (.inr 0))), some (.inr (.inr (.inl 0))), some (.inr (.inr (.inl 173))), some (.inr (.inr (.inl 198))), some (.inl (b1 + 6)), o2, o3]) rfl rfl (by omega) (by omega) rfl ?_
    refine jx_goto c1 hm 23 rfl rfl ?_
    exact ihW10 (b1 + 6) (by omega) o2 ho2 o3 ho3 M249 (hH249.mono (by omega) (by omega)) k (by omega) (SOK.cg hs1 (fun j h1 h2 => ((hR249 175 j rfl).trans (hR247 175 j rfl)))) (KOK.cg hs2 (fun j h1 h2 => ((hR249 177 j rfl).trans (hR247 177 j rfl)))) (KOK.cg hs3 (fun j h1 h2 => ((hR249 177 j rfl).trans (hR247 177 j rfl)))) (TPQ.cg hs4 ((hR249 0 2 rfl).trans (hR247 0 2 rfl)) ((hR249 173 2 rfl).trans (hR247 173 2 rfl))) (TBQ.cg hs5 (fun j => ((hR249 2 j rfl).trans (hR247 2 j rfl))) (fun j => ((hR249 174 j rfl).trans (hR247 174 j rfl)))) (by omega)
   by_cases h250 : z14 = 25
   ·
    refine jx_tswI c1 hm 1008 rfl ⟨by omega, by omega⟩ (by rw [h250] <;> rfl) rfl ?_
    refine jx_load c1 hm rfl rfl rfl rfl ?_
    refine jv_i c3 hm rfl (plp pj_X11_fits rfl) rfl rfl ⟨_, _, _, rfl, sh_0⟩ rfl ((ct_X11_fits_0t (X + 8000 * b1) (by omega) M4 hH4 ).le (by decide)) (fun z251 M253 ⟨hH253, hR253, lz251, uz251, p252⟩ => ?_)
    obtain ⟨z254, k255, lz254, uz254⟩ := hH253.ld (c := 0) (i := 2) (A := 0) (B := 940) (bs_18_1 _ _ (by omega) (by omega))
    refine jx_pop c1 hm rfl rfl ?_
    refine jx_load c1 hm rfl rfl rfl rfl ?_
    refine jv_i c3 hm rfl (plp pj_X12_fits rfl) rfl rfl ⟨_, _, _, rfl, sh_173⟩ rfl ((ct_X12_fits_173t (X + 8000 * b1) (by omega) M253 hH253 ).le (by decide)) (fun z256 M258 ⟨hH258, hR258, lz256, uz256, p257⟩ => ?_)
    obtain ⟨z259, k260, lz259, uz259⟩ := hH258.ld (c := 173) (i := 2) (A := 0) (B := 940) (bs_28_1 _ _ (by omega) (by omega))
    refine jx_pop c1 hm rfl rfl ?_
    refine jx_goto c1 hm 1445 rfl rfl ?_
    refine jx_iinc c1 hm (v := (b1 + 6)) (L' := [some (.inr (.inr (.inr 0))), some (.inr (.inr (.inl 0))), some (.inr (.inr (.inl 173))), some (.inr (.inr (.inl 198))), some (.inl (b1 + 6)), o2, o3]) rfl rfl (by omega) (by omega) rfl ?_
    refine jx_goto c1 hm 23 rfl rfl ?_
    exact ihW10 (b1 + 6) (by omega) o2 ho2 o3 ho3 M258 (hH258.mono (by omega) (by omega)) k (by omega) (SOK.cg hs1 (fun j h1 h2 => ((hR258 175 j rfl).trans (hR253 175 j rfl)))) (KOK.cg hs2 (fun j h1 h2 => ((hR258 177 j rfl).trans (hR253 177 j rfl)))) (KOK.cg hs3 (fun j h1 h2 => ((hR258 177 j rfl).trans (hR253 177 j rfl)))) (TPQ.of (by have y9 := hs4.e; have y90_0 := hR258 0 2 rfl; have y91_173 := hR253 173 2 rfl; omega)) (TBQ.cg hs5 (fun j => ((hR258 2 j rfl).trans (hR253 2 j rfl))) (fun j => ((hR258 174 j rfl).trans (hR253 174 j rfl)))) (by omega)
   by_cases h261 : z14 = 26
   ·
    refine jx_tswI c1 hm 1021 rfl ⟨by omega, by omega⟩ (by rw [h261] <;> rfl) rfl ?_
    refine jx_load c1 hm rfl rfl rfl rfl ?_
    refine jv_i c3 hm rfl (plp pj_X11_tells rfl) rfl rfl ⟨_, _, _, rfl, sh_0⟩ rfl ((ct_X11_tells_0 (X + 8000 * b1) (by omega) M4 hH4 ).le (by decide)) (fun z262 _ ⟨rfl, lz262, uz262⟩ => ?_)
    refine jx_pop c1 hm rfl rfl ?_
    refine jx_load c1 hm rfl rfl rfl rfl ?_
    refine jv_i c3 hm rfl (plp pj_X12_tells rfl) rfl rfl ⟨_, _, _, rfl, sh_173⟩ rfl ((ct_X12_tells_173 (X + 8000 * b1) (by omega) M4 hH4 ).le (by decide)) (fun z263 M264 ⟨hH264, hR264, lz263, uz263⟩ => ?_)
    refine jx_pop c1 hm rfl rfl ?_
    refine jx_goto c1 hm 1445 rfl rfl ?_
    refine jx_iinc c1 hm (v := (b1 + 6)) (L' := [some (.inr (.inr (.inr 0))), some (.inr (.inr (.inl 0))), some (.inr (.inr (.inl 173))), some (.inr (.inr (.inl 198))), some (.inl (b1 + 6)), o2, o3]) rfl rfl (by omega) (by omega) rfl ?_
    refine jx_goto c1 hm 23 rfl rfl ?_
    exact ihW10 (b1 + 6) (by omega) o2 ho2 o3 ho3 M264 (hH264.mono (by omega) (by omega)) k (by omega) (SOK.cg hs1 (fun j h1 h2 => (hR264 175 j rfl))) (KOK.cg hs2 (fun j h1 h2 => (hR264 177 j rfl))) (KOK.cg hs3 (fun j h1 h2 => (hR264 177 j rfl))) (TPQ.cg hs4 (hR264 0 2 rfl) (hR264 173 2 rfl)) (TBQ.cg hs5 (fun j => (hR264 2 j rfl)) (fun j => (hR264 174 j rfl))) (by omega)
   by_cases h265 : z14 = 27
   ·
    refine jx_tswI c1 hm 1034 rfl ⟨by omega, by omega⟩ (by rw [h265] <;> rfl) rfl ?_
    refine jx_load c1 hm rfl rfl rfl rfl ?_
    refine jx_load c1 hm rfl rfl rfl rfl ?_
    refine jx_load c1 hm rfl rfl rfl rfl ?_
    refine jy_ic c1 hm rfl (by decide) ?_
    refine jy_add c1 hm (b1 + 1) rfl (by omega) ?_
    obtain ⟨z266, kz266, lz266, uz266⟩ := hf ((b1 + 1)).toNat
    refine jx_sald c1 hm rfl ⟨by omega, by omega⟩ kz266 ?_
    refine jx_load c1 hm rfl rfl rfl rfl ?_
    refine jx_load c1 hm rfl rfl rfl rfl ?_
    refine jy_ic c1 hm rfl (by decide) ?_
    refine jy_add c1 hm (b1 + 2) rfl (by omega) ?_
    obtain ⟨z267, kz267, lz267, uz267⟩ := hf ((b1 + 2)).toNat
    refine jx_sald c1 hm rfl ⟨by omega, by omega⟩ kz267 ?_
    refine jx_load c1 hm rfl rfl rfl rfl ?_
    refine jx_load c1 hm rfl rfl rfl rfl ?_
    refine jy_ic c1 hm rfl (by decide) ?_
    refine jy_add c1 hm (b1 + 3) rfl (by omega) ?_
    obtain ⟨z268, kz268, lz268, uz268⟩ := hf ((b1 + 3)).toNat
    refine jx_sald c1 hm rfl ⟨by omega, by omega⟩ kz268 ?_
    refine jv_i c3 hm rfl (plp pj_X11_share rfl) rfl rfl ⟨_, _, _, rfl, sh_0⟩ rfl ((ct_X11_share_0 (X + 8000 * b1) (by omega) M4 hH4 z266 ⟨by omega, by omega⟩ z267 ⟨by omega, by omega⟩ z268 ⟨by omega, by omega⟩).le (by decide)) (fun z269 _ ⟨rfl, lz269, uz269⟩ => ?_)
    refine jx_pop c1 hm rfl rfl ?_
    refine jx_load c1 hm rfl rfl rfl rfl ?_
    refine jx_load c1 hm rfl rfl rfl rfl ?_
    refine jx_load c1 hm rfl rfl rfl rfl ?_
    refine jy_ic c1 hm rfl (by decide) ?_
    refine jy_add c1 hm (b1 + 1) rfl (by omega) ?_
    obtain ⟨z270, kz270, lz270, uz270⟩ := hf ((b1 + 1)).toNat
    refine jx_sald c1 hm rfl ⟨by omega, by omega⟩ kz270 ?_
    refine jx_load c1 hm rfl rfl rfl rfl ?_
    refine jx_load c1 hm rfl rfl rfl rfl ?_
    refine jy_ic c1 hm rfl (by decide) ?_
    refine jy_add c1 hm (b1 + 2) rfl (by omega) ?_
    obtain ⟨z271, kz271, lz271, uz271⟩ := hf ((b1 + 2)).toNat
    refine jx_sald c1 hm rfl ⟨by omega, by omega⟩ kz271 ?_
    refine jx_load c1 hm rfl rfl rfl rfl ?_
    refine jx_load c1 hm rfl rfl rfl rfl ?_
    refine jy_ic c1 hm rfl (by decide) ?_
    refine jy_add c1 hm (b1 + 3) rfl (by omega) ?_
    obtain ⟨z272, kz272, lz272, uz272⟩ := hf ((b1 + 3)).toNat
    refine jx_sald c1 hm rfl ⟨by omega, by omega⟩ kz272 ?_
    refine jv_i c3 hm rfl (plp pj_X12_share rfl) rfl rfl ⟨_, _, _, rfl, sh_173⟩ rfl ((ct_X12_share_173 (X + 8000 * b1) (by omega) M4 hH4 z270 ⟨by omega, by omega⟩ z271 ⟨by omega, by omega⟩ z272 ⟨by omega, by omega⟩).le (by decide)) (fun z273 M274 ⟨hH274, hR274, lz273, uz273⟩ => ?_)
    refine jx_pop c1 hm rfl rfl ?_
    refine jx_goto c1 hm 1445 rfl rfl ?_
    refine jx_iinc c1 hm (v := (b1 + 6)) (L' := [some (.inr (.inr (.inr 0))), some (.inr (.inr (.inl 0))), some (.inr (.inr (.inl 173))), some (.inr (.inr (.inl 198))), some (.inl (b1 + 6)), o2, o3]) rfl rfl (by omega) (by omega) rfl ?_
    refine jx_goto c1 hm 23 rfl rfl ?_
    exact ihW10 (b1 + 6) (by omega) o2 ho2 o3 ho3 M274 (hH274.mono (by omega) (by omega)) k (by omega) (SOK.cg hs1 (fun j h1 h2 => (hR274 175 j rfl))) (KOK.cg hs2 (fun j h1 h2 => (hR274 177 j rfl))) (KOK.cg hs3 (fun j h1 h2 => (hR274 177 j rfl))) (TPQ.cg hs4 (hR274 0 2 rfl) (hR274 173 2 rfl)) (TBQ.cg hs5 (fun j => (hR274 2 j rfl)) (fun j => (hR274 174 j rfl))) (by omega)
   by_cases h275 : z14 = 28
   ·
    refine jx_tswI c1 hm 1083 rfl ⟨by omega, by omega⟩ (by rw [h275] <;> rfl) rfl ?_
    refine jx_load c1 hm rfl rfl rfl rfl ?_
    refine jx_load c1 hm rfl rfl rfl rfl ?_
    refine jx_load c1 hm rfl rfl rfl rfl ?_
    refine jy_ic c1 hm rfl (by decide) ?_
    refine jy_add c1 hm (b1 + 1) rfl (by omega) ?_
    obtain ⟨z276, kz276, lz276, uz276⟩ := hf ((b1 + 1)).toNat
    refine jx_sald c1 hm rfl ⟨by omega, by omega⟩ kz276 ?_
    refine jv_i c3 hm rfl (plp pj_X11_tax rfl) rfl rfl ⟨_, _, _, rfl, sh_0⟩ rfl ((ct_X11_tax_0 (X + 8000 * b1) (by omega) M4 hH4 z276 ⟨by omega, by omega⟩).le (by decide)) (fun z277 M278 ⟨hH278, hR278, lz277, uz277⟩ => ?_)
    refine jx_pop c1 hm rfl rfl ?_
    refine jx_load c1 hm rfl rfl rfl rfl ?_
    refine jx_load c1 hm rfl rfl rfl rfl ?_
    refine jx_load c1 hm rfl rfl rfl rfl ?_
    refine jy_ic c1 hm rfl (by decide) ?_
    refine jy_add c1 hm (b1 + 1) rfl (by omega) ?_
    obtain ⟨z279, kz279, lz279, uz279⟩ := hf ((b1 + 1)).toNat
    refine jx_sald c1 hm rfl ⟨by omega, by omega⟩ kz279 ?_
    refine jv_i c3 hm rfl (plp pj_X12_tax rfl) rfl rfl ⟨_, _, _, rfl, sh_173⟩ rfl ((ct_X12_tax_173 (X + 8000 * b1) (by omega) M278 hH278 z279 ⟨by omega, by omega⟩).le (by decide)) (fun z280 M281 ⟨hH281, hR281, lz280, uz280⟩ => ?_)
    refine jx_pop c1 hm rfl rfl ?_
    refine jx_goto c1 hm 1445 rfl rfl ?_
    refine jx_iinc c1 hm (v := (b1 + 6)) (L' := [some (.inr (.inr (.inr 0))), some (.inr (.inr (.inl 0))), some (.inr (.inr (.inl 173))), some (.inr (.inr (.inl 198))), some (.inl (b1 + 6)), o2, o3]) rfl rfl (by omega) (by omega) rfl ?_
    refine jx_goto c1 hm 23 rfl rfl ?_
    exact ihW10 (b1 + 6) (by omega) o2 ho2 o3 ho3 M281 (hH281.mono (by omega) (by omega)) k (by omega) (SOK.cg hs1 (fun j h1 h2 => ((hR281 175 j rfl).trans (hR278 175 j rfl)))) (KOK.cg hs2 (fun j h1 h2 => ((hR281 177 j rfl).trans (hR278 177 j rfl)))) (KOK.cg hs3 (fun j h1 h2 => ((hR281 177 j rfl).trans (hR278 177 j rfl)))) (TPQ.cg hs4 ((hR281 0 2 rfl).trans (hR278 0 2 rfl)) ((hR281 173 2 rfl).trans (hR278 173 2 rfl))) (TBQ.cg hs5 (fun j => ((hR281 2 j rfl).trans (hR278 2 j rfl))) (fun j => ((hR281 174 j rfl).trans (hR278 174 j rfl)))) (by omega)
   by_cases h282 : z14 = 29
   ·
    refine jx_tswI c1 hm 1108 rfl ⟨by omega, by omega⟩ (by rw [h282] <;> rfl) rfl ?_
    refine jx_load c1 hm rfl rfl rfl rfl ?_
    refine jx_load c1 hm rfl rfl rfl rfl ?_
    refine jx_load c1 hm rfl rfl rfl rfl ?_
    refine jy_ic c1 hm rfl (by decide) ?_
    refine jy_add c1 hm (b1 + 1) rfl (by omega) ?_
    obtain ⟨z283, kz283, lz283, uz283⟩ := hf ((b1 + 1)).toNat
    refine jx_sald c1 hm rfl ⟨by omega, by omega⟩ kz283 ?_
    refine jv_i c3 hm rfl (plp pj_X11_taxOf rfl) rfl rfl ⟨_, _, _, rfl, sh_0⟩ rfl ((ct_X11_taxOf_0 (X + 8000 * b1) (by omega) M4 hH4 z283 ⟨by omega, by omega⟩).le (by decide)) (fun z284 _ ⟨rfl, lz284, uz284⟩ => ?_)
    refine jx_pop c1 hm rfl rfl ?_
    refine jx_load c1 hm rfl rfl rfl rfl ?_
    refine jx_load c1 hm rfl rfl rfl rfl ?_
    refine jx_load c1 hm rfl rfl rfl rfl ?_
    refine jy_ic c1 hm rfl (by decide) ?_
    refine jy_add c1 hm (b1 + 1) rfl (by omega) ?_
    obtain ⟨z285, kz285, lz285, uz285⟩ := hf ((b1 + 1)).toNat
    refine jx_sald c1 hm rfl ⟨by omega, by omega⟩ kz285 ?_
    refine jv_i c3 hm rfl (plp pj_X12_taxOf rfl) rfl rfl ⟨_, _, _, rfl, sh_173⟩ rfl ((ct_X12_taxOf_173 (X + 8000 * b1) (by omega) M4 hH4 z285 ⟨by omega, by omega⟩).le (by decide)) (fun z286 M287 ⟨hH287, hR287, lz286, uz286⟩ => ?_)
    refine jx_pop c1 hm rfl rfl ?_
    refine jx_goto c1 hm 1445 rfl rfl ?_
    refine jx_iinc c1 hm (v := (b1 + 6)) (L' := [some (.inr (.inr (.inr 0))), some (.inr (.inr (.inl 0))), some (.inr (.inr (.inl 173))), some (.inr (.inr (.inl 198))), some (.inl (b1 + 6)), o2, o3]) rfl rfl (by omega) (by omega) rfl ?_
    refine jx_goto c1 hm 23 rfl rfl ?_
    exact ihW10 (b1 + 6) (by omega) o2 ho2 o3 ho3 M287 (hH287.mono (by omega) (by omega)) k (by omega) (SOK.cg hs1 (fun j h1 h2 => (hR287 175 j rfl))) (KOK.cg hs2 (fun j h1 h2 => (hR287 177 j rfl))) (KOK.cg hs3 (fun j h1 h2 => (hR287 177 j rfl))) (TPQ.cg hs4 (hR287 0 2 rfl) (hR287 173 2 rfl)) (TBQ.cg hs5 (fun j => (hR287 2 j rfl)) (fun j => (hR287 174 j rfl))) (by omega)
   by_cases h288 : z14 = 30
   ·
    refine jx_tswI c1 hm 1133 rfl ⟨by omega, by omega⟩ (by rw [h288] <;> rfl) rfl ?_
    refine jx_load c1 hm rfl rfl rfl rfl ?_
    refine jv_i c3 hm rfl (plp pj_X11_proudest rfl) rfl rfl ⟨_, _, _, rfl, sh_0⟩ rfl ((ct_X11_proudest_0 (X + 8000 * b1) (by omega) M4 hH4 ).le (by decide)) (fun z289 _ ⟨rfl, lz289, uz289⟩ => ?_)
    refine jx_pop c1 hm rfl rfl ?_
    refine jx_load c1 hm rfl rfl rfl rfl ?_
    refine jv_i c3 hm rfl (plp pj_X12_proudest rfl) rfl rfl ⟨_, _, _, rfl, sh_173⟩ rfl ((ct_X12_proudest_173 (X + 8000 * b1) (by omega) M4 hH4 ).le (by decide)) (fun z290 M291 ⟨hH291, hR291, lz290, uz290⟩ => ?_)
    refine jx_pop c1 hm rfl rfl ?_
    refine jx_goto c1 hm 1445 rfl rfl ?_
    refine jx_iinc c1 hm (v := (b1 + 6)) (L' := [some (.inr (.inr (.inr 0))), some (.inr (.inr (.inl 0))), some (.inr (.inr (.inl 173))), some (.inr (.inr (.inl 198))), some (.inl (b1 + 6)), o2, o3]) rfl rfl (by omega) (by omega) rfl ?_
    refine jx_goto c1 hm 23 rfl rfl ?_
    exact ihW10 (b1 + 6) (by omega) o2 ho2 o3 ho3 M291 (hH291.mono (by omega) (by omega)) k (by omega) (SOK.cg hs1 (fun j h1 h2 => (hR291 175 j rfl))) (KOK.cg hs2 (fun j h1 h2 => (hR291 177 j rfl))) (KOK.cg hs3 (fun j h1 h2 => (hR291 177 j rfl))) (TPQ.cg hs4 (hR291 0 2 rfl) (hR291 173 2 rfl)) (TBQ.cg hs5 (fun j => (hR291 2 j rfl)) (fun j => (hR291 174 j rfl))) (by omega)
   by_cases h292 : z14 = 31
   ·
    refine jx_tswI c1 hm 1146 rfl ⟨by omega, by omega⟩ (by rw [h292] <;> rfl) rfl ?_
    refine jx_load c1 hm rfl rfl rfl rfl ?_
    refine jx_load c1 hm rfl rfl rfl rfl ?_
    refine jx_load c1 hm rfl rfl rfl rfl ?_
    refine jy_ic c1 hm rfl (by decide) ?_
    refine jy_add c1 hm (b1 + 1) rfl (by omega) ?_
    obtain ⟨z293, kz293, lz293, uz293⟩ := hf ((b1 + 1)).toNat
    refine jx_sald c1 hm rfl ⟨by omega, by omega⟩ kz293 ?_
    refine jv_i c3 hm rfl (plp pj_X11_list rfl) rfl rfl ⟨_, _, _, rfl, sh_0⟩ rfl ((ct_X11_list_0 (X + 8000 * b1) (by omega) M4 hH4 z293 ⟨by omega, by omega⟩).le (by decide)) (fun z294 M295 ⟨hH295, hR295, lz294, uz294⟩ => ?_)
    refine jx_pop c1 hm rfl rfl ?_
    refine jx_load c1 hm rfl rfl rfl rfl ?_
    refine jx_load c1 hm rfl rfl rfl rfl ?_
    refine jx_load c1 hm rfl rfl rfl rfl ?_
    refine jy_ic c1 hm rfl (by decide) ?_
    refine jy_add c1 hm (b1 + 1) rfl (by omega) ?_
    obtain ⟨z296, kz296, lz296, uz296⟩ := hf ((b1 + 1)).toNat
    refine jx_sald c1 hm rfl ⟨by omega, by omega⟩ kz296 ?_
    refine jv_i c3 hm rfl (plp pj_X12_list rfl) rfl rfl ⟨_, _, _, rfl, sh_173⟩ rfl ((ct_X12_list_173 (X + 8000 * b1) (by omega) M295 hH295 z296 ⟨by omega, by omega⟩).le (by decide)) (fun z297 M298 ⟨hH298, hR298, lz297, uz297⟩ => ?_)
    refine jx_pop c1 hm rfl rfl ?_
    refine jx_goto c1 hm 1445 rfl rfl ?_
    refine jx_iinc c1 hm (v := (b1 + 6)) (L' := [some (.inr (.inr (.inr 0))), some (.inr (.inr (.inl 0))), some (.inr (.inr (.inl 173))), some (.inr (.inr (.inl 198))), some (.inl (b1 + 6)), o2, o3]) rfl rfl (by omega) (by omega) rfl ?_
    refine jx_goto c1 hm 23 rfl rfl ?_
    exact ihW10 (b1 + 6) (by omega) o2 ho2 o3 ho3 M298 (hH298.mono (by omega) (by omega)) k (by omega) (SOK.cg hs1 (fun j h1 h2 => ((hR298 175 j rfl).trans (hR295 175 j rfl)))) (KOK.cg hs2 (fun j h1 h2 => ((hR298 177 j rfl).trans (hR295 177 j rfl)))) (KOK.cg hs3 (fun j h1 h2 => ((hR298 177 j rfl).trans (hR295 177 j rfl)))) (TPQ.cg hs4 ((hR298 0 2 rfl).trans (hR295 0 2 rfl)) ((hR298 173 2 rfl).trans (hR295 173 2 rfl))) (TBQ.cg hs5 (fun j => ((hR298 2 j rfl).trans (hR295 2 j rfl))) (fun j => ((hR298 174 j rfl).trans (hR295 174 j rfl)))) (by omega)
   by_cases h299 : z14 = 32
   ·
    refine jx_tswI c1 hm 1171 rfl ⟨by omega, by omega⟩ (by rw [h299] <;> rfl) rfl ?_
    refine jx_load c1 hm rfl rfl rfl rfl ?_
    refine jx_load c1 hm rfl rfl rfl rfl ?_
    refine jx_load c1 hm rfl rfl rfl rfl ?_
    refine jy_ic c1 hm rfl (by decide) ?_
    refine jy_add c1 hm (b1 + 1) rfl (by omega) ?_
    obtain ⟨z300, kz300, lz300, uz300⟩ := hf ((b1 + 1)).toNat
    refine jx_sald c1 hm rfl ⟨by omega, by omega⟩ kz300 ?_
    refine jv_i c3 hm rfl (plp pj_X11_byteAt rfl) rfl rfl ⟨_, _, _, rfl, sh_0⟩ rfl ((ct_X11_byteAt_0 (X + 8000 * b1) (by omega) M4 hH4 z300 ⟨by omega, by omega⟩).le (by decide)) (fun z301 _ ⟨rfl, lz301, uz301⟩ => ?_)
    refine jx_pop c1 hm rfl rfl ?_
    refine jx_load c1 hm rfl rfl rfl rfl ?_
    refine jx_load c1 hm rfl rfl rfl rfl ?_
    refine jx_load c1 hm rfl rfl rfl rfl ?_
    refine jy_ic c1 hm rfl (by decide) ?_
    refine jy_add c1 hm (b1 + 1) rfl (by omega) ?_
    obtain ⟨z302, kz302, lz302, uz302⟩ := hf ((b1 + 1)).toNat
    refine jx_sald c1 hm rfl ⟨by omega, by omega⟩ kz302 ?_
    refine jv_i c3 hm rfl (plp pj_X12_byteAt rfl) rfl rfl ⟨_, _, _, rfl, sh_173⟩ rfl ((ct_X12_byteAt_173 (X + 8000 * b1) (by omega) M4 hH4 z302 ⟨by omega, by omega⟩).le (by decide)) (fun z303 M304 ⟨hH304, hR304, lz303, uz303⟩ => ?_)
    refine jx_pop c1 hm rfl rfl ?_
    refine jx_goto c1 hm 1445 rfl rfl ?_
    refine jx_iinc c1 hm (v := (b1 + 6)) (L' := [some (.inr (.inr (.inr 0))), some (.inr (.inr (.inl 0))), some (.inr (.inr (.inl 173))), some (.inr (.inr (.inl 198))), some (.inl (b1 + 6)), o2, o3]) rfl rfl (by omega) (by omega) rfl ?_
    refine jx_goto c1 hm 23 rfl rfl ?_
    exact ihW10 (b1 + 6) (by omega) o2 ho2 o3 ho3 M304 (hH304.mono (by omega) (by omega)) k (by omega) (SOK.cg hs1 (fun j h1 h2 => (hR304 175 j rfl))) (KOK.cg hs2 (fun j h1 h2 => (hR304 177 j rfl))) (KOK.cg hs3 (fun j h1 h2 => (hR304 177 j rfl))) (TPQ.cg hs4 (hR304 0 2 rfl) (hR304 173 2 rfl)) (TBQ.cg hs5 (fun j => (hR304 2 j rfl)) (fun j => (hR304 174 j rfl))) (by omega)
   by_cases h305 : z14 = 33
   ·
    refine jx_tswI c1 hm 1196 rfl ⟨by omega, by omega⟩ (by rw [h305] <;> rfl) rfl ?_
    refine jx_load c1 hm rfl rfl rfl rfl ?_
    refine jx_load c1 hm rfl rfl rfl rfl ?_
    refine jx_load c1 hm rfl rfl rfl rfl ?_
    refine jy_ic c1 hm rfl (by decide) ?_
    refine jy_add c1 hm (b1 + 1) rfl (by omega) ?_
    obtain ⟨z306, kz306, lz306, uz306⟩ := hf ((b1 + 1)).toNat
    refine jx_sald c1 hm rfl ⟨by omega, by omega⟩ kz306 ?_
    refine jx_load c1 hm rfl rfl rfl rfl ?_
    refine jx_load c1 hm rfl rfl rfl rfl ?_
    refine jy_ic c1 hm rfl (by decide) ?_
    refine jy_add c1 hm (b1 + 2) rfl (by omega) ?_
    obtain ⟨z307, kz307, lz307, uz307⟩ := hf ((b1 + 2)).toNat
    refine jx_sald c1 hm rfl ⟨by omega, by omega⟩ kz307 ?_
    refine jv_i c3 hm rfl (plp pj_X11_drawn rfl) rfl rfl ⟨_, _, _, rfl, sh_0⟩ rfl ((ct_X11_drawn_0 (X + 8000 * b1) (by omega) M4 hH4 z306 ⟨by omega, by omega⟩ z307 ⟨by omega, by omega⟩).le (by decide)) (fun z308 M309 ⟨hH309, hR309, lz308, uz308⟩ => ?_)
    refine jx_pop c1 hm rfl rfl ?_
    refine jx_load c1 hm rfl rfl rfl rfl ?_
    refine jx_load c1 hm rfl rfl rfl rfl ?_
    refine jx_load c1 hm rfl rfl rfl rfl ?_
    refine jy_ic c1 hm rfl (by decide) ?_
    refine jy_add c1 hm (b1 + 1) rfl (by omega) ?_
    obtain ⟨z310, kz310, lz310, uz310⟩ := hf ((b1 + 1)).toNat
    refine jx_sald c1 hm rfl ⟨by omega, by omega⟩ kz310 ?_
    refine jx_load c1 hm rfl rfl rfl rfl ?_
    refine jx_load c1 hm rfl rfl rfl rfl ?_
    refine jy_ic c1 hm rfl (by decide) ?_
    refine jy_add c1 hm (b1 + 2) rfl (by omega) ?_
    obtain ⟨z311, kz311, lz311, uz311⟩ := hf ((b1 + 2)).toNat
    refine jx_sald c1 hm rfl ⟨by omega, by omega⟩ kz311 ?_
    refine jv_i c3 hm rfl (plp pj_X12_drawn rfl) rfl rfl ⟨_, _, _, rfl, sh_173⟩ rfl ((ct_X12_drawn_173 (X + 8000 * b1 + 360) (by omega) M309 hH309 z310 ⟨by omega, by omega⟩ z311 ⟨by omega, by omega⟩).le (by decide)) (fun z312 M313 ⟨hH313, hR313, lz312, uz312⟩ => ?_)
    rw [show X + 8000 * b1 + 360 + 1080 = X + 8000 * b1 + 1440 by omega] at hH313
    refine jx_pop c1 hm rfl rfl ?_
    refine jx_goto c1 hm 1445 rfl rfl ?_
    refine jx_iinc c1 hm (v := (b1 + 6)) (L' := [some (.inr (.inr (.inr 0))), some (.inr (.inr (.inl 0))), some (.inr (.inr (.inl 173))), some (.inr (.inr (.inl 198))), some (.inl (b1 + 6)), o2, o3]) rfl rfl (by omega) (by omega) rfl ?_
    refine jx_goto c1 hm 23 rfl rfl ?_
    exact ihW10 (b1 + 6) (by omega) o2 ho2 o3 ho3 M313 (hH313.mono (by omega) (by omega)) k (by omega) (SOK.cg hs1 (fun j h1 h2 => ((hR313 175 j (jin_hi (b := 234) (by decide +kernel) h1)).trans (hR309 175 j rfl)))) (KOK.cg hs2 (fun j h1 h2 => ((hR313 177 j rfl).trans (hR309 177 j rfl)))) (KOK.cg hs3 (fun j h1 h2 => ((hR313 177 j rfl).trans (hR309 177 j rfl)))) (TPQ.cg hs4 ((hR313 0 2 rfl).trans (hR309 0 2 rfl)) ((hR313 173 2 rfl).trans (hR309 173 2 rfl))) (TBQ.cg hs5 (fun j => ((hR313 2 j rfl).trans (hR309 2 j rfl))) (fun j => ((hR313 174 j rfl).trans (hR309 174 j rfl)))) (by omega)
   by_cases h314 : z14 = 34
   ·
    refine jx_tswI c1 hm 1233 rfl ⟨by omega, by omega⟩ (by rw [h314] <;> rfl) rfl ?_
    refine jx_load c1 hm rfl rfl rfl rfl ?_
    refine jx_load c1 hm rfl rfl rfl rfl ?_
    refine jx_load c1 hm rfl rfl rfl rfl ?_
    refine jy_ic c1 hm rfl (by decide) ?_
    refine jy_add c1 hm (b1 + 1) rfl (by omega) ?_
    obtain ⟨z315, kz315, lz315, uz315⟩ := hf ((b1 + 1)).toNat
    refine jx_sald c1 hm rfl ⟨by omega, by omega⟩ kz315 ?_
    refine jx_load c1 hm rfl rfl rfl rfl ?_
    refine jx_load c1 hm rfl rfl rfl rfl ?_
    refine jy_ic c1 hm rfl (by decide) ?_
    refine jy_add c1 hm (b1 + 2) rfl (by omega) ?_
    obtain ⟨z316, kz316, lz316, uz316⟩ := hf ((b1 + 2)).toNat
    refine jx_sald c1 hm rfl ⟨by omega, by omega⟩ kz316 ?_
    refine jx_load c1 hm rfl rfl rfl rfl ?_
    refine jx_load c1 hm rfl rfl rfl rfl ?_
    refine jy_ic c1 hm rfl (by decide) ?_
    refine jy_add c1 hm (b1 + 3) rfl (by omega) ?_
    obtain ⟨z317, kz317, lz317, uz317⟩ := hf ((b1 + 3)).toNat
    refine jx_sald c1 hm rfl ⟨by omega, by omega⟩ kz317 ?_
    refine jv_i c3 hm rfl (plp pj_X11_odds rfl) rfl rfl ⟨_, _, _, rfl, sh_0⟩ rfl ((ct_X11_odds_0 (X + 8000 * b1) (by omega) M4 hH4 z315 ⟨by omega, by omega⟩ z316 ⟨by omega, by omega⟩ z317 ⟨by omega, by omega⟩).le (by decide)) (fun z318 M319 ⟨hH319, hR319, lz318, uz318⟩ => ?_)
    refine jx_pop c1 hm rfl rfl ?_
    refine jx_load c1 hm rfl rfl rfl rfl ?_
    refine jx_load c1 hm rfl rfl rfl rfl ?_
    refine jx_load c1 hm rfl rfl rfl rfl ?_
    refine jy_ic c1 hm rfl (by decide) ?_
    refine jy_add c1 hm (b1 + 1) rfl (by omega) ?_
    obtain ⟨z320, kz320, lz320, uz320⟩ := hf ((b1 + 1)).toNat
    refine jx_sald c1 hm rfl ⟨by omega, by omega⟩ kz320 ?_
    refine jx_load c1 hm rfl rfl rfl rfl ?_
    refine jx_load c1 hm rfl rfl rfl rfl ?_
    refine jy_ic c1 hm rfl (by decide) ?_
    refine jy_add c1 hm (b1 + 2) rfl (by omega) ?_
    obtain ⟨z321, kz321, lz321, uz321⟩ := hf ((b1 + 2)).toNat
    refine jx_sald c1 hm rfl ⟨by omega, by omega⟩ kz321 ?_
    refine jx_load c1 hm rfl rfl rfl rfl ?_
    refine jx_load c1 hm rfl rfl rfl rfl ?_
    refine jy_ic c1 hm rfl (by decide) ?_
    refine jy_add c1 hm (b1 + 3) rfl (by omega) ?_
    obtain ⟨z322, kz322, lz322, uz322⟩ := hf ((b1 + 3)).toNat
    refine jx_sald c1 hm rfl ⟨by omega, by omega⟩ kz322 ?_
    refine jv_i c3 hm rfl (plp pj_X12_odds rfl) rfl rfl ⟨_, _, _, rfl, sh_173⟩ rfl ((ct_X12_odds_173 (X + 8000 * b1 + 10800) (by omega) M319 hH319 z320 ⟨by omega, by omega⟩ z321 ⟨by omega, by omega⟩ z322 ⟨by omega, by omega⟩).le (by decide)) (fun z323 M324 ⟨hH324, hR324, lz323, uz323⟩ => ?_)
    rw [show X + 8000 * b1 + 10800 + 32400 = X + 8000 * b1 + 43200 by omega] at hH324
    refine jx_pop c1 hm rfl rfl ?_
    refine jx_goto c1 hm 1445 rfl rfl ?_
    refine jx_iinc c1 hm (v := (b1 + 6)) (L' := [some (.inr (.inr (.inr 0))), some (.inr (.inr (.inl 0))), some (.inr (.inr (.inl 173))), some (.inr (.inr (.inl 198))), some (.inl (b1 + 6)), o2, o3]) rfl rfl (by omega) (by omega) rfl ?_
    refine jx_goto c1 hm 23 rfl rfl ?_
    exact ihW10 (b1 + 6) (by omega) o2 ho2 o3 ho3 M324 (hH324.mono (by omega) (by omega)) k (by omega) (SOK.cg hs1 (fun j h1 h2 => ((hR324 175 j (jin_hi (b := 234) (by decide +kernel) h1)).trans (hR319 175 j rfl)))) (KOK.cg hs2 (fun j h1 h2 => ((hR324 177 j rfl).trans (hR319 177 j rfl)))) (KOK.cg hs3 (fun j h1 h2 => ((hR324 177 j rfl).trans (hR319 177 j rfl)))) (TPQ.cg hs4 ((hR324 0 2 rfl).trans (hR319 0 2 rfl)) ((hR324 173 2 rfl).trans (hR319 173 2 rfl))) (TBQ.cg hs5 (fun j => ((hR324 2 j rfl).trans (hR319 2 j rfl))) (fun j => ((hR324 174 j rfl).trans (hR319 174 j rfl)))) (by omega)
   by_cases h325 : z14 = 35
   ·
    refine jx_tswI c1 hm 1282 rfl ⟨by omega, by omega⟩ (by rw [h325] <;> rfl) rfl ?_
    refine jx_load c1 hm rfl rfl rfl rfl ?_
    refine jx_load c1 hm rfl rfl rfl rfl ?_
    refine jx_load c1 hm rfl rfl rfl rfl ?_
    refine jy_ic c1 hm rfl (by decide) ?_
    refine jy_add c1 hm (b1 + 1) rfl (by omega) ?_
    obtain ⟨z326, kz326, lz326, uz326⟩ := hf ((b1 + 1)).toNat
    refine jx_sald c1 hm rfl ⟨by omega, by omega⟩ kz326 ?_
    obtain ⟨z327, k328, lz327, uz327⟩ := hH4.ld (c := 0) (i := 2) (A := 0) (B := 940) (bs_18_1 _ _ (by omega) (by omega))
    refine jv_i c3 hm rfl (plp pj_X11_book rfl) rfl rfl ⟨_, _, _, rfl, sh_0⟩ rfl ((ct_X11_book_0t (X + 8000 * b1) (by omega) M4 hH4 z326 ⟨by omega, by omega⟩).le (by decide)) (fun z329 M332 ⟨hH332, hR332, lz329, uz329, p330, p331⟩ => ?_)
    obtain ⟨z333, k334, lz333, uz333⟩ := hH332.ld (c := 0) (i := 2) (A := 0) (B := 940) (bs_18_1 _ _ (by omega) (by omega))
    refine jx_pop c1 hm rfl rfl ?_
    refine jx_load c1 hm rfl rfl rfl rfl ?_
    refine jx_load c1 hm rfl rfl rfl rfl ?_
    refine jx_load c1 hm rfl rfl rfl rfl ?_
    refine jy_ic c1 hm rfl (by decide) ?_
    refine jy_add c1 hm (b1 + 1) rfl (by omega) ?_
    obtain ⟨z335, kz335, lz335, uz335⟩ := hf ((b1 + 1)).toNat
    refine jx_sald c1 hm rfl ⟨by omega, by omega⟩ kz335 ?_
    obtain ⟨z336, k337, lz336, uz336⟩ := hH332.ld (c := 173) (i := 2) (A := 0) (B := 940) (bs_28_1 _ _ (by omega) (by omega))
    refine jv_i c3 hm rfl (plp pj_X12_book rfl) rfl rfl ⟨_, _, _, rfl, sh_173⟩ rfl ((ct_X12_book_173t (X + 8000 * b1 + 40) (by omega) M332 hH332 z335 ⟨by omega, by omega⟩).le (by decide)) (fun z338 M341 ⟨hH341, hR341, lz338, uz338, p339, p340⟩ => ?_)
    rw [show X + 8000 * b1 + 40 + 92 = X + 8000 * b1 + 132 by omega] at hH341
    obtain ⟨z342, k343, lz342, uz342⟩ := hH341.ld (c := 173) (i := 2) (A := 0) (B := 940) (bs_28_1 _ _ (by omega) (by omega))
    refine jx_pop c1 hm rfl rfl ?_
    refine jx_goto c1 hm 1445 rfl rfl ?_
    refine jx_iinc c1 hm (v := (b1 + 6)) (L' := [some (.inr (.inr (.inr 0))), some (.inr (.inr (.inl 0))), some (.inr (.inr (.inl 173))), some (.inr (.inr (.inl 198))), some (.inl (b1 + 6)), o2, o3]) rfl rfl (by omega) (by omega) rfl ?_
    refine jx_goto c1 hm 23 rfl rfl ?_
    exact ihW10 (b1 + 6) (by omega) o2 ho2 o3 ho3 M341 (hH341.mono (by omega) (by omega)) k (by omega) (SOK.cg hs1 (fun j h1 h2 => ((hR341 175 j (jin_hi (b := 234) (by decide +kernel) h1)).trans (hR332 175 j rfl)))) (KOK.cg hs2 (fun j h1 h2 => ((hR341 177 j rfl).trans (hR332 177 j rfl)))) (KOK.cg hs3 (fun j h1 h2 => ((hR341 177 j rfl).trans (hR332 177 j rfl)))) (TPQ.of (by have y9 := hs4.e; have y90_0 := hR341 0 2 rfl; have y91_173 := hR332 173 2 rfl; omega)) (TBQ.cg hs5 (fun j => ((hR341 2 j rfl).trans (hR332 2 j rfl))) (fun j => ((hR341 174 j rfl).trans (hR332 174 j rfl)))) (by omega)
   by_cases h344 : z14 = 36
   ·
    refine jx_tswI c1 hm 1307 rfl ⟨by omega, by omega⟩ (by rw [h344] <;> rfl) rfl ?_
    refine jx_load c1 hm rfl rfl rfl rfl ?_
    refine jx_load c1 hm rfl rfl rfl rfl ?_
    refine jx_load c1 hm rfl rfl rfl rfl ?_
    refine jy_ic c1 hm rfl (by decide) ?_
    refine jy_add c1 hm (b1 + 1) rfl (by omega) ?_
    obtain ⟨z345, kz345, lz345, uz345⟩ := hf ((b1 + 1)).toNat
    refine jx_sald c1 hm rfl ⟨by omega, by omega⟩ kz345 ?_
    refine jv_i c3 hm rfl (plp pj_X11_told rfl) rfl rfl ⟨_, _, _, rfl, sh_0⟩ rfl ((ct_X11_told_0 (X + 8000 * b1) (by omega) M4 hH4 z345 ⟨by omega, by omega⟩).le (by decide)) (fun z346 _ ⟨rfl, lz346, uz346⟩ => ?_)
    refine jx_pop c1 hm rfl rfl ?_
    refine jx_load c1 hm rfl rfl rfl rfl ?_
    refine jx_load c1 hm rfl rfl rfl rfl ?_
    refine jx_load c1 hm rfl rfl rfl rfl ?_
    refine jy_ic c1 hm rfl (by decide) ?_
    refine jy_add c1 hm (b1 + 1) rfl (by omega) ?_
    obtain ⟨z347, kz347, lz347, uz347⟩ := hf ((b1 + 1)).toNat
    refine jx_sald c1 hm rfl ⟨by omega, by omega⟩ kz347 ?_
    refine jv_i c3 hm rfl (plp pj_X12_told rfl) rfl rfl ⟨_, _, _, rfl, sh_173⟩ rfl ((ct_X12_told_173 (X + 8000 * b1) (by omega) M4 hH4 z347 ⟨by omega, by omega⟩).le (by decide)) (fun z348 M349 ⟨hH349, hR349, lz348, uz348⟩ => ?_)
    refine jx_pop c1 hm rfl rfl ?_
    refine jx_goto c1 hm 1445 rfl rfl ?_
    refine jx_iinc c1 hm (v := (b1 + 6)) (L' := [some (.inr (.inr (.inr 0))), some (.inr (.inr (.inl 0))), some (.inr (.inr (.inl 173))), some (.inr (.inr (.inl 198))), some (.inl (b1 + 6)), o2, o3]) rfl rfl (by omega) (by omega) rfl ?_
    refine jx_goto c1 hm 23 rfl rfl ?_
    exact ihW10 (b1 + 6) (by omega) o2 ho2 o3 ho3 M349 (hH349.mono (by omega) (by omega)) k (by omega) (SOK.cg hs1 (fun j h1 h2 => (hR349 175 j rfl))) (KOK.cg hs2 (fun j h1 h2 => (hR349 177 j rfl))) (KOK.cg hs3 (fun j h1 h2 => (hR349 177 j rfl))) (TPQ.cg hs4 (hR349 0 2 rfl) (hR349 173 2 rfl)) (TBQ.cg hs5 (fun j => (hR349 2 j rfl)) (fun j => (hR349 174 j rfl))) (by omega)
   by_cases h350 : z14 = 37
   ·
    refine jx_tswI c1 hm 1332 rfl ⟨by omega, by omega⟩ (by rw [h350] <;> rfl) rfl ?_
    refine jx_load c1 hm rfl rfl rfl rfl ?_
    refine jv_i c3 hm rfl (plp pj_X11_sentence rfl) rfl rfl ⟨_, _, _, rfl, sh_0⟩ rfl ((ct_X11_sentence_0t (X + 8000 * b1) (by omega) M4 hH4 ).le (by decide)) (fun z351 M353 ⟨hH353, hR353, lz351, uz351, p352⟩ => ?_)
    obtain ⟨z354, k355, lz354, uz354⟩ := hH353.ld (c := 0) (i := 2) (A := 0) (B := 940) (bs_18_1 _ _ (by omega) (by omega))
    refine jx_pop c1 hm rfl rfl ?_
    refine jx_load c1 hm rfl rfl rfl rfl ?_
    refine jv_i c3 hm rfl (plp pj_X12_sentence rfl) rfl rfl ⟨_, _, _, rfl, sh_173⟩ rfl ((ct_X12_sentence_173t (X + 8000 * b1) (by omega) M353 hH353 (SOK.cg hs1 (fun j h1 h2 => (hR353 175 j rfl)))).le (by decide)) (fun z356 M359 ⟨hH359, hR359, lz356, uz356, p357, p358⟩ => ?_)
    obtain ⟨z360, k361, lz360, uz360⟩ := hH359.ld (c := 173) (i := 2) (A := 0) (B := 940) (bs_28_1 _ _ (by omega) (by omega))
    refine jx_pop c1 hm rfl rfl ?_
    refine jx_goto c1 hm 1445 rfl rfl ?_
    refine jx_iinc c1 hm (v := (b1 + 6)) (L' := [some (.inr (.inr (.inr 0))), some (.inr (.inr (.inl 0))), some (.inr (.inr (.inl 173))), some (.inr (.inr (.inl 198))), some (.inl (b1 + 6)), o2, o3]) rfl rfl (by omega) (by omega) rfl ?_
    refine jx_goto c1 hm 23 rfl rfl ?_
    exact ihW10 (b1 + 6) (by omega) o2 ho2 o3 ho3 M359 (hH359.mono (by omega) (by omega)) k (by omega) p357 (KOK.cg hs2 (fun j h1 h2 => ((hR359 177 j rfl).trans (hR353 177 j rfl)))) (KOK.cg hs3 (fun j h1 h2 => ((hR359 177 j rfl).trans (hR353 177 j rfl)))) (TPQ.of (by have y9 := hs4.e; have y90_0 := hR359 0 2 rfl; have y91_173 := hR353 173 2 rfl; omega)) (TBQ.cg hs5 (fun j => ((hR359 2 j rfl).trans (hR353 2 j rfl))) (fun j => ((hR359 174 j rfl).trans (hR353 174 j rfl)))) (by omega)
   by_cases h362 : z14 = 38
   ·
    refine jx_tswI c1 hm 1345 rfl ⟨by omega, by omega⟩ (by rw [h362] <;> rfl) rfl ?_
    refine jx_load c1 hm rfl rfl rfl rfl ?_
    refine jx_load c1 hm rfl rfl rfl rfl ?_
    refine jx_load c1 hm rfl rfl rfl rfl ?_
    refine jy_ic c1 hm rfl (by decide) ?_
    refine jy_add c1 hm (b1 + 1) rfl (by omega) ?_
    obtain ⟨z363, kz363, lz363, uz363⟩ := hf ((b1 + 1)).toNat
    refine jx_sald c1 hm rfl ⟨by omega, by omega⟩ kz363 ?_
    refine jv_i c3 hm rfl (plp pj_X11_said rfl) rfl rfl ⟨_, _, _, rfl, sh_0⟩ rfl ((ct_X11_said_0 (X + 8000 * b1) (by omega) M4 hH4 z363 ⟨by omega, by omega⟩).le (by decide)) (fun z364 M365 ⟨hH365, hR365, lz364, uz364⟩ => ?_)
    refine jx_pop c1 hm rfl rfl ?_
    refine jx_load c1 hm rfl rfl rfl rfl ?_
    refine jx_load c1 hm rfl rfl rfl rfl ?_
    refine jx_load c1 hm rfl rfl rfl rfl ?_
    refine jy_ic c1 hm rfl (by decide) ?_
    refine jy_add c1 hm (b1 + 1) rfl (by omega) ?_
    obtain ⟨z366, kz366, lz366, uz366⟩ := hf ((b1 + 1)).toNat
    refine jx_sald c1 hm rfl ⟨by omega, by omega⟩ kz366 ?_
    refine jv_i c3 hm rfl (plp pj_X12_said rfl) rfl rfl ⟨_, _, _, rfl, sh_173⟩ rfl ((ct_X12_said_173 (X + 8000 * b1) (by omega) M365 hH365 z366 ⟨by omega, by omega⟩ (SOK.cg hs1 (fun j h1 h2 => (hR365 175 j rfl)))).le (by decide)) (fun z367 M368 ⟨hH368, hR368, lz367, uz367⟩ => ?_)
    refine jx_pop c1 hm rfl rfl ?_
    refine jx_goto c1 hm 1445 rfl rfl ?_
    refine jx_iinc c1 hm (v := (b1 + 6)) (L' := [some (.inr (.inr (.inr 0))), some (.inr (.inr (.inl 0))), some (.inr (.inr (.inl 173))), some (.inr (.inr (.inl 198))), some (.inl (b1 + 6)), o2, o3]) rfl rfl (by omega) (by omega) rfl ?_
    refine jx_goto c1 hm 23 rfl rfl ?_
    exact ihW10 (b1 + 6) (by omega) o2 ho2 o3 ho3 M368 (hH368.mono (by omega) (by omega)) k (by omega) (SOK.cg hs1 (fun j h1 h2 => ((hR368 175 j rfl).trans (hR365 175 j rfl)))) (KOK.cg hs2 (fun j h1 h2 => ((hR368 177 j rfl).trans (hR365 177 j rfl)))) (KOK.cg hs3 (fun j h1 h2 => ((hR368 177 j rfl).trans (hR365 177 j rfl)))) (TPQ.cg hs4 ((hR368 0 2 rfl).trans (hR365 0 2 rfl)) ((hR368 173 2 rfl).trans (hR365 173 2 rfl))) (TBQ.cg hs5 (fun j => ((hR368 2 j rfl).trans (hR365 2 j rfl))) (fun j => ((hR368 174 j rfl).trans (hR365 174 j rfl)))) (by omega)
   by_cases h369 : z14 = 39
   ·
    refine jx_tswI c1 hm 1370 rfl ⟨by omega, by omega⟩ (by rw [h369] <;> rfl) rfl ?_
    refine jx_load c1 hm rfl rfl rfl rfl ?_
    refine jx_load c1 hm rfl rfl rfl rfl ?_
    refine jx_load c1 hm rfl rfl rfl rfl ?_
    refine jy_ic c1 hm rfl (by decide) ?_
    refine jy_add c1 hm (b1 + 1) rfl (by omega) ?_
    obtain ⟨z370, kz370, lz370, uz370⟩ := hf ((b1 + 1)).toNat
    refine jx_sald c1 hm rfl ⟨by omega, by omega⟩ kz370 ?_
    refine jv_i c3 hm rfl (plp pj_X11_image rfl) rfl rfl ⟨_, _, _, rfl, sh_0⟩ rfl ((ct_X11_image_0 (X + 8000 * b1) (by omega) M4 hH4 z370 ⟨by omega, by omega⟩).le (by decide)) (fun z371 M372 ⟨hH372, hR372, lz371, uz371⟩ => ?_)
    refine jx_pop c1 hm rfl rfl ?_
    refine jx_load c1 hm rfl rfl rfl rfl ?_
    refine jx_load c1 hm rfl rfl rfl rfl ?_
    refine jx_load c1 hm rfl rfl rfl rfl ?_
    refine jy_ic c1 hm rfl (by decide) ?_
    refine jy_add c1 hm (b1 + 1) rfl (by omega) ?_
    obtain ⟨z373, kz373, lz373, uz373⟩ := hf ((b1 + 1)).toNat
    refine jx_sald c1 hm rfl ⟨by omega, by omega⟩ kz373 ?_
    refine jv_i c3 hm rfl (plp pj_X12_image rfl) rfl rfl ⟨_, _, _, rfl, sh_173⟩ rfl ((ct_X12_image_173 (X + 8000 * b1) (by omega) M372 hH372 z373 ⟨by omega, by omega⟩ (SOK.cg hs1 (fun j h1 h2 => (hR372 175 j rfl))) (KOK.cg hs2 (fun j h1 h2 => (hR372 177 j rfl))) (KOK.cg hs3 (fun j h1 h2 => (hR372 177 j rfl)))).le (by decide)) (fun z374 M377 ⟨hH377, hR377, lz374, uz374, p375, p376⟩ => ?_)
    refine jx_pop c1 hm rfl rfl ?_
    refine jx_goto c1 hm 1445 rfl rfl ?_
    refine jx_iinc c1 hm (v := (b1 + 6)) (L' := [some (.inr (.inr (.inr 0))), some (.inr (.inr (.inl 0))), some (.inr (.inr (.inl 173))), some (.inr (.inr (.inl 198))), some (.inl (b1 + 6)), o2, o3]) rfl rfl (by omega) (by omega) rfl ?_
    refine jx_goto c1 hm 23 rfl rfl ?_
    exact ihW10 (b1 + 6) (by omega) o2 ho2 o3 ho3 M377 (hH377.mono (by omega) (by omega)) k (by omega) (SOK.cg hs1 (fun j h1 h2 => ((hR377 175 j rfl).trans (hR372 175 j rfl)))) p375 p376 (TPQ.cg hs4 ((hR377 0 2 rfl).trans (hR372 0 2 rfl)) ((hR377 173 2 rfl).trans (hR372 173 2 rfl))) (TBQ.cg hs5 (fun j => ((hR377 2 j rfl).trans (hR372 2 j rfl))) (fun j => ((hR377 174 j rfl).trans (hR372 174 j rfl)))) (by omega)
   by_cases h378 : z14 = 40
   ·
    refine jx_tswI c1 hm 1395 rfl ⟨by omega, by omega⟩ (by rw [h378] <;> rfl) rfl ?_
    refine jx_load c1 hm rfl rfl rfl rfl ?_
    refine jx_load c1 hm rfl rfl rfl rfl ?_
    refine jx_load c1 hm rfl rfl rfl rfl ?_
    refine jy_ic c1 hm rfl (by decide) ?_
    refine jy_add c1 hm (b1 + 1) rfl (by omega) ?_
    obtain ⟨z379, kz379, lz379, uz379⟩ := hf ((b1 + 1)).toNat
    refine jx_sald c1 hm rfl ⟨by omega, by omega⟩ kz379 ?_
    refine jv_i c3 hm rfl (plp pj_X11_restore rfl) rfl rfl ⟨_, _, _, rfl, sh_0⟩ rfl ((ct_X11_restore_0 (X + 8000 * b1) (by omega) M4 hH4 z379 ⟨by omega, by omega⟩).le (by decide)) (fun z380 M381 ⟨hH381, hR381, lz380, uz380⟩ => ?_)
    refine jx_pop c1 hm rfl rfl ?_
    refine jx_load c1 hm rfl rfl rfl rfl ?_
    refine jx_load c1 hm rfl rfl rfl rfl ?_
    refine jx_load c1 hm rfl rfl rfl rfl ?_
    refine jy_ic c1 hm rfl (by decide) ?_
    refine jy_add c1 hm (b1 + 1) rfl (by omega) ?_
    obtain ⟨z382, kz382, lz382, uz382⟩ := hf ((b1 + 1)).toNat
    refine jx_sald c1 hm rfl ⟨by omega, by omega⟩ kz382 ?_
    refine jv_i c3 hm rfl (plp pj_X12_restore rfl) rfl rfl ⟨_, _, _, rfl, sh_173⟩ rfl ((ct_X12_restore_173 (X + 8000 * b1) (by omega) M381 hH381 z382 ⟨by omega, by omega⟩ (SOK.cg hs1 (fun j h1 h2 => (hR381 175 j rfl))) (KOK.cg hs2 (fun j h1 h2 => (hR381 177 j rfl))) (KOK.cg hs3 (fun j h1 h2 => (hR381 177 j rfl)))).le (by decide)) (fun z383 M385 ⟨hH385, hR385, lz383, uz383, p384⟩ => ?_)
    refine jx_pop c1 hm rfl rfl ?_
    refine jx_goto c1 hm 1445 rfl rfl ?_
    refine jx_iinc c1 hm (v := (b1 + 6)) (L' := [some (.inr (.inr (.inr 0))), some (.inr (.inr (.inl 0))), some (.inr (.inr (.inl 173))), some (.inr (.inr (.inl 198))), some (.inl (b1 + 6)), o2, o3]) rfl rfl (by omega) (by omega) rfl ?_
    refine jx_goto c1 hm 23 rfl rfl ?_
    exact ihW10 (b1 + 6) (by omega) o2 ho2 o3 ho3 M385 (hH385.mono (by omega) (by omega)) k (by omega) p384 (KOK.cg hs2 (fun j h1 h2 => ((hR385 177 j rfl).trans (hR381 177 j rfl)))) (KOK.cg hs3 (fun j h1 h2 => ((hR385 177 j rfl).trans (hR381 177 j rfl)))) (TPQ.cg hs4 ((hR385 0 2 rfl).trans (hR381 0 2 rfl)) ((hR385 173 2 rfl).trans (hR381 173 2 rfl))) (TBQ.cg hs5 (fun j => ((hR385 2 j rfl).trans (hR381 2 j rfl))) (fun j => ((hR385 174 j rfl).trans (hR381 174 j rfl)))) (by omega)
   by_cases h386 : z14 = 41
   ·
    refine jx_tswI c1 hm 1420 rfl ⟨by omega, by omega⟩ (by rw [h386] <;> rfl) rfl ?_
    refine jx_load c1 hm rfl rfl rfl rfl ?_
    refine jx_load c1 hm rfl rfl rfl rfl ?_
    refine jx_load c1 hm rfl rfl rfl rfl ?_
    refine jy_ic c1 hm rfl (by decide) ?_
    refine jy_add c1 hm (b1 + 1) rfl (by omega) ?_
    obtain ⟨z387, kz387, lz387, uz387⟩ := hf ((b1 + 1)).toNat
    refine jx_sald c1 hm rfl ⟨by omega, by omega⟩ kz387 ?_
    refine jv_i c3 hm rfl (plp pj_X11_count rfl) rfl rfl ⟨_, _, _, rfl, sh_0⟩ rfl ((ct_X11_count_0 (X + 8000 * b1) (by omega) M4 hH4 z387 ⟨by omega, by omega⟩).le (by decide)) (fun z388 _ ⟨rfl, lz388, uz388⟩ => ?_)
    refine jx_pop c1 hm rfl rfl ?_
    refine jx_load c1 hm rfl rfl rfl rfl ?_
    refine jx_load c1 hm rfl rfl rfl rfl ?_
    refine jx_load c1 hm rfl rfl rfl rfl ?_
    refine jy_ic c1 hm rfl (by decide) ?_
    refine jy_add c1 hm (b1 + 1) rfl (by omega) ?_
    obtain ⟨z389, kz389, lz389, uz389⟩ := hf ((b1 + 1)).toNat
    refine jx_sald c1 hm rfl ⟨by omega, by omega⟩ kz389 ?_
    refine jv_i c3 hm rfl (plp pj_X12_count rfl) rfl rfl ⟨_, _, _, rfl, sh_173⟩ rfl ((ct_X12_count_173 (X + 8000 * b1) (by omega) M4 hH4 z389 ⟨by omega, by omega⟩).le (by decide)) (fun z390 M391 ⟨hH391, hR391, lz390, uz390⟩ => ?_)
    refine jx_pop c1 hm rfl rfl ?_
    refine jx_goto c1 hm 1445 rfl rfl ?_
    refine jx_iinc c1 hm (v := (b1 + 6)) (L' := [some (.inr (.inr (.inr 0))), some (.inr (.inr (.inl 0))), some (.inr (.inr (.inl 173))), some (.inr (.inr (.inl 198))), some (.inl (b1 + 6)), o2, o3]) rfl rfl (by omega) (by omega) rfl ?_
    refine jx_goto c1 hm 23 rfl rfl ?_
    exact ihW10 (b1 + 6) (by omega) o2 ho2 o3 ho3 M391 (hH391.mono (by omega) (by omega)) k (by omega) (SOK.cg hs1 (fun j h1 h2 => (hR391 175 j rfl))) (KOK.cg hs2 (fun j h1 h2 => (hR391 177 j rfl))) (KOK.cg hs3 (fun j h1 h2 => (hR391 177 j rfl))) (TPQ.cg hs4 (hR391 0 2 rfl) (hR391 173 2 rfl)) (TBQ.cg hs5 (fun j => (hR391 2 j rfl)) (fun j => (hR391 174 j rfl))) (by omega)
   refine jx_tswO c1 hm 1445 rfl (by omega) rfl ?_
   refine jx_iinc c1 hm (v := (b1 + 6)) (L' := [some (.inr (.inr (.inr 0))), some (.inr (.inr (.inl 0))), some (.inr (.inr (.inl 173))), some (.inr (.inr (.inl 198))), some (.inl (b1 + 6)), o2, o3]) rfl rfl (by omega) (by omega) rfl ?_
   refine jx_goto c1 hm 23 rfl rfl ?_
   exact ihW10 (b1 + 6) (by omega) o2 ho2 o3 ho3 M4 (hH4.mono (by omega) (by omega)) k (by omega) (SOK.cg hs1 (fun j h1 h2 => rfl)) (KOK.cg hs2 (fun j h1 h2 => rfl)) (KOK.cg hs3 (fun j h1 h2 => rfl)) (TPQ.cg hs4 rfl rfl) (TBQ.cg hs5 (fun j => rfl) (fun j => rfl)) (by omega)
 exact W10 (3072 + 1 : Int).toNat 0 (by omega) none (Or.inl rfl) none (Or.inl rfl) M0 (hH0.mono (by omega) (by omega)) 0 (by omega) hs1 hs2 hs3 hs4 hs5 (by omega)
