/-! The law's loop. -/
def TPQ (M : JM) : Prop := M.1 0 2 = M.1 173 2
theorem TPQ.e {M : JM} (h : TPQ M) : M.1 0 2 = M.1 173 2 := h
theorem TPQ.of {M : JM} (h : M.1 0 2 = M.1 173 2) : TPQ M := h
theorem TPQ.cg {M M' : JM} (h : TPQ M) (h1 : M'.1 0 2 = M.1 0 2) (h2 : M'.1 173 2 = M.1 173 2) : TPQ M' := by
  unfold TPQ
  rw [h1, h2]
  exact h
theorem law_loop (n : Nat) (nn : Int) (hnn : (n : Int) = nn) (hn : 0 ≤ nn ∧ nn ≤ 3072) (f : Nat → Int) (hf : ∀ j, ∃ z, f j = z ∧ -2147483648 ≤ z ∧ z ≤ 2147483647) (F : Nat → JP) (c1f : ∀ k, k ≤ 512 → jstC shp PL (some (n, f)) 1000 (F k)) (c2f : ∀ k, k ≤ 512 → jreC PL 1000 (fun r _ => r = some (.inl 1)) (F k)) (c3f : ∀ k, k ≤ 512 → jcaC shp PL (JOk shp PJ 94) 1000 (F k))
 (cm : ∀ k : Nat, k < 512 → ∀ (X : Int) (L : JL) (a b : Int) (M : JM), 0 ≤ X → X ≤ 100000000 → HI X M → -2147483648 ≤ a → a ≤ 2147483647 → -2147483648 ≤ b → b ≤ 2147483647 → (∀ (v : Int) (M' : JM), 0 ≤ v → v ≤ 1 → HI X M' → (∀ c i, M'.1 c i = M.1 c i) → F (k + 1) 365 L [.inl v] M') → F k 362 L [.inr (.inr (.inl 198)), .inl b, .inl a, .inr (.inr (.inl 0))] M)
 (X : Int) (hX : 0 ≤ X ∧ X ≤ 0) (M0 : JM) (hH0 : HI X M0) (hs1 : SOK M0) (hs2 : KOK M0 0) (hs3 : KOK M0 1) (hs4 : TPQ M0) : F 0 23 [some (.inr (.inr (.inr 0))), some (.inr (.inr (.inl 0))), some (.inr (.inr (.inl 173))), some (.inr (.inr (.inl 198))), some (.inl 0), none, none] [] M0 := by
 have hm := pl_law
 have W9 : ∀ (n10 : Nat) (b1 : Int) (hb1 : 0 ≤ b1 ∧ b1 ≤ 3072) (o2 : Option JV) (ho2 : o2 = none ∨ (∃ z, o2 = some (.inl z)) ∨ ∃ r, o2 = some (.inr (.inr r))) (o3 : Option JV) (ho3 : o3 = none ∨ (∃ z, o3 = some (.inl z)) ∨ ∃ r, o3 = some (.inr (.inr r))) (M4 : JM) (hH4 : HI (X + 8000 * b1) M4) (k : Nat) (hk : 6 * (k : Int) ≤ b1) (hs1 : SOK M4) (hs2 : KOK M4 0) (hs3 : KOK M4 1) (hs4 : TPQ M4), (-b1 + 3072) < (n10 : Int) → F k 23 [some (.inr (.inr (.inr 0))), some (.inr (.inr (.inl 0))), some (.inr (.inr (.inl 173))), some (.inr (.inr (.inl 198))), some (.inl b1), o2, o3] [] M4 := by
  intro n10
  induction n10 with
  | zero => intros; omega
  | succ n10 ihW9 =>
   intro b1 hb1 o2 ho2 o3 ho3 M4 hH4 k hk hs1 hs2 hs3 hs4 hrW9
   have c1 := c1f k (by omega)
   have c2 := c2f k (by omega)
   have c3 := c3f k (by omega)
   refine jx_load c1 hm rfl rfl rfl rfl ?_
   refine jx_load c1 hm rfl rfl rfl rfl ?_
   refine jx_slen c1 hm rfl hnn ?_
   refine jy_bp c1 hm rfl (by decide) ?_
   refine jy_sub c1 hm (nn - 6) rfl (by omega) ?_
   refine jc_gt c1 hm 1451 rfl rfl (fun h11 => ?_) (fun h11 => ?_)
   ·
    refine jy_ic c1 hm rfl (by decide) ?_
    exact jx_retz c2 hm rfl rfl ⟨by omega, by omega⟩ rfl
   refine jx_load c1 hm rfl rfl rfl rfl ?_
   refine jx_load c1 hm rfl rfl rfl rfl ?_
   obtain ⟨z12, kz12, lz12, uz12⟩ := hf (b1).toNat
   refine jx_sald c1 hm rfl ⟨by omega, by omega⟩ kz12 ?_
   refine jy_bp c1 hm rfl (by decide) ?_
   refine jy_anr c1 hm rfl ⟨by omega, by omega⟩ (fun z13 lz13 uz13 => ?_)
   by_cases h14 : z13 = 0
   ·
    refine jx_tswI c1 hm 224 rfl ⟨by omega, by omega⟩ (by rw [h14] <;> rfl) rfl ?_
    refine jx_load c1 hm rfl rfl rfl rfl ?_
    refine jx_load c1 hm rfl rfl rfl rfl ?_
    refine jx_load c1 hm rfl rfl rfl rfl ?_
    refine jy_ic c1 hm rfl (by decide) ?_
    refine jy_add c1 hm (b1 + 1) rfl (by omega) ?_
    obtain ⟨z15, kz15, lz15, uz15⟩ := hf ((b1 + 1)).toNat
    refine jx_sald c1 hm rfl ⟨by omega, by omega⟩ kz15 ?_
    refine jx_load c1 hm rfl rfl rfl rfl ?_
    refine jx_load c1 hm rfl rfl rfl rfl ?_
    refine jy_ic c1 hm rfl (by decide) ?_
    refine jy_add c1 hm (b1 + 2) rfl (by omega) ?_
    obtain ⟨z16, kz16, lz16, uz16⟩ := hf ((b1 + 2)).toNat
    refine jx_sald c1 hm rfl ⟨by omega, by omega⟩ kz16 ?_
    refine jx_load c1 hm rfl rfl rfl rfl ?_
    refine jx_load c1 hm rfl rfl rfl rfl ?_
    refine jy_ic c1 hm rfl (by decide) ?_
    refine jy_add c1 hm (b1 + 3) rfl (by omega) ?_
    obtain ⟨z17, kz17, lz17, uz17⟩ := hf ((b1 + 3)).toNat
    refine jx_sald c1 hm rfl ⟨by omega, by omega⟩ kz17 ?_
    refine jx_load c1 hm rfl rfl rfl rfl ?_
    refine jx_load c1 hm rfl rfl rfl rfl ?_
    refine jy_ic c1 hm rfl (by decide) ?_
    refine jy_add c1 hm (b1 + 4) rfl (by omega) ?_
    obtain ⟨z18, kz18, lz18, uz18⟩ := hf ((b1 + 4)).toNat
    refine jx_sald c1 hm rfl ⟨by omega, by omega⟩ kz18 ?_
    refine jx_load c1 hm rfl rfl rfl rfl ?_
    refine jx_load c1 hm rfl rfl rfl rfl ?_
    refine jy_ic c1 hm rfl (by decide) ?_
    refine jy_add c1 hm (b1 + 5) rfl (by omega) ?_
    obtain ⟨z19, kz19, lz19, uz19⟩ := hf ((b1 + 5)).toNat
    refine jx_sald c1 hm rfl ⟨by omega, by omega⟩ kz19 ?_
    obtain ⟨z20, k21, lz20, uz20⟩ := hH4.ld (c := 0) (i := 2) (A := 0) (B := 940) (bs_18_1 _ _ (by omega) (by omega))
    refine jv_i c3 hm rfl (plp pj_X11_feed rfl) rfl rfl ⟨_, _, _, rfl, sh_0⟩ rfl ((ct_X11_feed_0t (X + 8000 * b1) (by omega) M4 hH4 z15 ⟨by omega, by omega⟩ z16 ⟨by omega, by omega⟩ z17 ⟨by omega, by omega⟩ z18 ⟨by omega, by omega⟩ z19 ⟨by omega, by omega⟩).le (by decide)) (fun z22 M25 ⟨hH25, hR25, lz22, uz22, p23, p24⟩ => ?_)
    obtain ⟨z26, k27, lz26, uz26⟩ := hH25.ld (c := 0) (i := 2) (A := 0) (B := 940) (bs_18_1 _ _ (by omega) (by omega))
    refine jx_load c1 hm rfl rfl rfl rfl ?_
    refine jx_load c1 hm rfl rfl rfl rfl ?_
    refine jx_load c1 hm rfl rfl rfl rfl ?_
    refine jy_ic c1 hm rfl (by decide) ?_
    refine jy_add c1 hm (b1 + 1) rfl (by omega) ?_
    obtain ⟨z28, kz28, lz28, uz28⟩ := hf ((b1 + 1)).toNat
    refine jx_sald c1 hm rfl ⟨by omega, by omega⟩ kz28 ?_
    refine jx_load c1 hm rfl rfl rfl rfl ?_
    refine jx_load c1 hm rfl rfl rfl rfl ?_
    refine jy_ic c1 hm rfl (by decide) ?_
    refine jy_add c1 hm (b1 + 2) rfl (by omega) ?_
    obtain ⟨z29, kz29, lz29, uz29⟩ := hf ((b1 + 2)).toNat
    refine jx_sald c1 hm rfl ⟨by omega, by omega⟩ kz29 ?_
    refine jx_load c1 hm rfl rfl rfl rfl ?_
    refine jx_load c1 hm rfl rfl rfl rfl ?_
    refine jy_ic c1 hm rfl (by decide) ?_
    refine jy_add c1 hm (b1 + 3) rfl (by omega) ?_
    obtain ⟨z30, kz30, lz30, uz30⟩ := hf ((b1 + 3)).toNat
    refine jx_sald c1 hm rfl ⟨by omega, by omega⟩ kz30 ?_
    refine jx_load c1 hm rfl rfl rfl rfl ?_
    refine jx_load c1 hm rfl rfl rfl rfl ?_
    refine jy_ic c1 hm rfl (by decide) ?_
    refine jy_add c1 hm (b1 + 4) rfl (by omega) ?_
    obtain ⟨z31, kz31, lz31, uz31⟩ := hf ((b1 + 4)).toNat
    refine jx_sald c1 hm rfl ⟨by omega, by omega⟩ kz31 ?_
    refine jx_load c1 hm rfl rfl rfl rfl ?_
    refine jx_load c1 hm rfl rfl rfl rfl ?_
    refine jy_ic c1 hm rfl (by decide) ?_
    refine jy_add c1 hm (b1 + 5) rfl (by omega) ?_
    obtain ⟨z32, kz32, lz32, uz32⟩ := hf ((b1 + 5)).toNat
    refine jx_sald c1 hm rfl ⟨by omega, by omega⟩ kz32 ?_
    obtain ⟨z33, k34, lz33, uz33⟩ := hH25.ld (c := 173) (i := 2) (A := 0) (B := 940) (bs_28_1 _ _ (by omega) (by omega))
    refine jv_i c3 hm rfl (plp pj_X12_feed rfl) rfl rfl ⟨_, _, _, rfl, sh_173⟩ rfl ((ct_X12_feed_173t (X + 8000 * b1) (by omega) M25 hH25 z28 ⟨by omega, by omega⟩ z29 ⟨by omega, by omega⟩ z30 ⟨by omega, by omega⟩ z31 ⟨by omega, by omega⟩ z32 ⟨by omega, by omega⟩).le (by decide)) (fun z35 M38 ⟨hH38, hR38, lz35, uz35, p36, p37⟩ => ?_)
    obtain ⟨z39, k40, lz39, uz39⟩ := hH38.ld (c := 173) (i := 2) (A := 0) (B := 940) (bs_28_1 _ _ (by omega) (by omega))
    have hq9 : z22 = z35 := by have y9 := hs4.e; have y90_0 := hR38 0 2 rfl; have y91_173 := hR25 173 2 rfl; omega
    refine jc_eq c1 hm 1445 rfl rfl (fun h41 => ?_) (fun h41 => ?_)
    ·
     refine jx_iinc c1 hm (v := (b1 + 6)) (L' := [some (.inr (.inr (.inr 0))), some (.inr (.inr (.inl 0))), some (.inr (.inr (.inl 173))), some (.inr (.inr (.inl 198))), some (.inl (b1 + 6)), o2, o3]) rfl rfl (by omega) (by omega) rfl ?_
     refine jx_goto c1 hm 23 rfl rfl ?_
     exact ihW9 (b1 + 6) (by omega) o2 ho2 o3 ho3 M38 (hH38.mono (by omega) (by omega)) k (by omega) (SOK.cg hs1 (fun j h1 h2 => ((hR38 175 j rfl).trans (hR25 175 j rfl)))) (KOK.cg hs2 (fun j h1 h2 => ((hR38 177 j rfl).trans (hR25 177 j rfl)))) (KOK.cg hs3 (fun j h1 h2 => ((hR38 177 j rfl).trans (hR25 177 j rfl)))) (TPQ.of (by have y9 := hs4.e; have y90_0 := hR38 0 2 rfl; have y91_173 := hR25 173 2 rfl; omega)) (by omega)
    refine jy_ic c1 hm rfl (by decide) ?_
    exfalso; omega
   by_cases h42 : z13 = 1
   ·
    refine jx_tswI c1 hm 297 rfl ⟨by omega, by omega⟩ (by rw [h42] <;> rfl) rfl ?_
    refine jx_load c1 hm rfl rfl rfl rfl ?_
    refine jx_load c1 hm rfl rfl rfl rfl ?_
    refine jx_load c1 hm rfl rfl rfl rfl ?_
    refine jy_ic c1 hm rfl (by decide) ?_
    refine jy_add c1 hm (b1 + 1) rfl (by omega) ?_
    obtain ⟨z43, kz43, lz43, uz43⟩ := hf ((b1 + 1)).toNat
    refine jx_sald c1 hm rfl ⟨by omega, by omega⟩ kz43 ?_
    obtain ⟨z44, k45, lz44, uz44⟩ := hH4.ld (c := 0) (i := 2) (A := 0) (B := 940) (bs_18_1 _ _ (by omega) (by omega))
    refine jv_i c3 hm rfl (plp pj_X11_end rfl) rfl rfl ⟨_, _, _, rfl, sh_0⟩ rfl ((ct_X11_end_0t (X + 8000 * b1) (by omega) M4 hH4 z43 ⟨by omega, by omega⟩).le (by decide)) (fun z46 M49 ⟨hH49, hR49, lz46, uz46, p47, p48⟩ => ?_)
    obtain ⟨z50, k51, lz50, uz50⟩ := hH49.ld (c := 0) (i := 2) (A := 0) (B := 940) (bs_18_1 _ _ (by omega) (by omega))
    refine jx_pop c1 hm rfl rfl ?_
    refine jx_load c1 hm rfl rfl rfl rfl ?_
    refine jx_load c1 hm rfl rfl rfl rfl ?_
    refine jx_load c1 hm rfl rfl rfl rfl ?_
    refine jy_ic c1 hm rfl (by decide) ?_
    refine jy_add c1 hm (b1 + 1) rfl (by omega) ?_
    obtain ⟨z52, kz52, lz52, uz52⟩ := hf ((b1 + 1)).toNat
    refine jx_sald c1 hm rfl ⟨by omega, by omega⟩ kz52 ?_
    obtain ⟨z53, k54, lz53, uz53⟩ := hH49.ld (c := 173) (i := 2) (A := 0) (B := 940) (bs_28_1 _ _ (by omega) (by omega))
    refine jv_i c3 hm rfl (plp pj_X12_end rfl) rfl rfl ⟨_, _, _, rfl, sh_173⟩ rfl ((ct_X12_end_173t (X + 8000 * b1) (by omega) M49 hH49 z52 ⟨by omega, by omega⟩).le (by decide)) (fun z55 M58 ⟨hH58, hR58, lz55, uz55, p56, p57⟩ => ?_)
    obtain ⟨z59, k60, lz59, uz59⟩ := hH58.ld (c := 173) (i := 2) (A := 0) (B := 940) (bs_28_1 _ _ (by omega) (by omega))
    refine jx_pop c1 hm rfl rfl ?_
    refine jx_goto c1 hm 1445 rfl rfl ?_
    refine jx_iinc c1 hm (v := (b1 + 6)) (L' := [some (.inr (.inr (.inr 0))), some (.inr (.inr (.inl 0))), some (.inr (.inr (.inl 173))), some (.inr (.inr (.inl 198))), some (.inl (b1 + 6)), o2, o3]) rfl rfl (by omega) (by omega) rfl ?_
    refine jx_goto c1 hm 23 rfl rfl ?_
    exact ihW9 (b1 + 6) (by omega) o2 ho2 o3 ho3 M58 (hH58.mono (by omega) (by omega)) k (by omega) (SOK.cg hs1 (fun j h1 h2 => ((hR58 175 j rfl).trans (hR49 175 j rfl)))) (KOK.cg hs2 (fun j h1 h2 => ((hR58 177 j rfl).trans (hR49 177 j rfl)))) (KOK.cg hs3 (fun j h1 h2 => ((hR58 177 j rfl).trans (hR49 177 j rfl)))) (TPQ.of (by have y9 := hs4.e; have y90_0 := hR58 0 2 rfl; have y91_173 := hR49 173 2 rfl; omega)) (by omega)
   by_cases h61 : z13 = 2
   ·
    refine jx_tswI c1 hm 322 rfl ⟨by omega, by omega⟩ (by rw [h61] <;> rfl) rfl ?_
    refine jx_load c1 hm rfl rfl rfl rfl ?_
    refine jv_i c3 hm rfl (plp pj_X11_duchy rfl) rfl rfl ⟨_, _, _, rfl, sh_0⟩ rfl ((ct_X11_duchy_0t (X + 8000 * b1) (by omega) M4 hH4 ).le (by decide)) (fun z62 M64 ⟨hH64, hR64, lz62, uz62, p63⟩ => ?_)
    obtain ⟨z65, k66, lz65, uz65⟩ := hH64.ld (c := 0) (i := 2) (A := 0) (B := 940) (bs_18_1 _ _ (by omega) (by omega))
    refine jx_pop c1 hm rfl rfl ?_
    refine jx_load c1 hm rfl rfl rfl rfl ?_
    refine jv_i c3 hm rfl (plp pj_X12_duchy rfl) rfl rfl ⟨_, _, _, rfl, sh_173⟩ rfl ((ct_X12_duchy_173t (X + 8000 * b1) (by omega) M64 hH64 (SOK.cg hs1 (fun j h1 h2 => (hR64 175 j rfl)))).le (by decide)) (fun z67 M71 ⟨hH71, hR71, lz67, uz67, p68, p69, p70⟩ => ?_)
    obtain ⟨z72, k73, lz72, uz72⟩ := hH71.ld (c := 175) (i := 234) (A := (-2147483648)) (B := 2147483647) (bs_11_11 _ _ (by omega) (by omega))
    obtain ⟨z74, k75, lz74, uz74⟩ := hH71.ld (c := 173) (i := 2) (A := 0) (B := 940) (bs_28_1 _ _ (by omega) (by omega))
    refine jx_pop c1 hm rfl rfl ?_
    refine jx_goto c1 hm 1445 rfl rfl ?_
    refine jx_iinc c1 hm (v := (b1 + 6)) (L' := [some (.inr (.inr (.inr 0))), some (.inr (.inr (.inl 0))), some (.inr (.inr (.inl 173))), some (.inr (.inr (.inl 198))), some (.inl (b1 + 6)), o2, o3]) rfl rfl (by omega) (by omega) rfl ?_
    refine jx_goto c1 hm 23 rfl rfl ?_
    exact ihW9 (b1 + 6) (by omega) o2 ho2 o3 ho3 M71 (hH71.mono (by omega) (by omega)) k (by omega) p68 (KOK.cg hs2 (fun j h1 h2 => ((hR71 177 j rfl).trans (hR64 177 j rfl)))) (KOK.cg hs3 (fun j h1 h2 => ((hR71 177 j rfl).trans (hR64 177 j rfl)))) (TPQ.of (by have y9 := hs4.e; have y90_0 := hR71 0 2 rfl; have y91_173 := hR64 173 2 rfl; omega)) (by omega)
   by_cases h76 : z13 = 3
   ·
    refine jx_tswI c1 hm 335 rfl ⟨by omega, by omega⟩ (by rw [h76] <;> rfl) rfl ?_
    refine jx_load c1 hm rfl rfl rfl rfl ?_
    refine jv_i c3 hm rfl (plp pj_X11_fault rfl) rfl rfl ⟨_, _, _, rfl, sh_0⟩ rfl ((ct_X11_fault_0 (X + 8000 * b1) (by omega) M4 hH4 ).le (by decide)) (fun z77 _ ⟨rfl, lz77, uz77⟩ => ?_)
    refine jx_pop c1 hm rfl rfl ?_
    refine jx_load c1 hm rfl rfl rfl rfl ?_
    refine jv_i c3 hm rfl (plp pj_X12_fault rfl) rfl rfl ⟨_, _, _, rfl, sh_173⟩ rfl ((ct_X12_fault_173 (X + 8000 * b1) (by omega) M4 hH4 ).le (by decide)) (fun z78 M79 ⟨hH79, hR79, lz78, uz78⟩ => ?_)
    refine jx_pop c1 hm rfl rfl ?_
    refine jx_goto c1 hm 1445 rfl rfl ?_
    refine jx_iinc c1 hm (v := (b1 + 6)) (L' := [some (.inr (.inr (.inr 0))), some (.inr (.inr (.inl 0))), some (.inr (.inr (.inl 173))), some (.inr (.inr (.inl 198))), some (.inl (b1 + 6)), o2, o3]) rfl rfl (by omega) (by omega) rfl ?_
    refine jx_goto c1 hm 23 rfl rfl ?_
    exact ihW9 (b1 + 6) (by omega) o2 ho2 o3 ho3 M79 (hH79.mono (by omega) (by omega)) k (by omega) (SOK.cg hs1 (fun j h1 h2 => (hR79 175 j rfl))) (KOK.cg hs2 (fun j h1 h2 => (hR79 177 j rfl))) (KOK.cg hs3 (fun j h1 h2 => (hR79 177 j rfl))) (TPQ.cg hs4 (hR79 0 2 rfl) (hR79 173 2 rfl)) (by omega)
   by_cases h80 : z13 = 4
   ·
    refine jx_tswI c1 hm 348 rfl ⟨by omega, by omega⟩ (by rw [h80] <;> rfl) rfl ?_
    refine jx_load c1 hm rfl rfl rfl rfl ?_
    refine jx_load c1 hm rfl rfl rfl rfl ?_
    refine jx_load c1 hm rfl rfl rfl rfl ?_
    refine jy_ic c1 hm rfl (by decide) ?_
    refine jy_add c1 hm (b1 + 1) rfl (by omega) ?_
    obtain ⟨z81, kz81, lz81, uz81⟩ := hf ((b1 + 1)).toNat
    refine jx_sald c1 hm rfl ⟨by omega, by omega⟩ kz81 ?_
    refine jx_load c1 hm rfl rfl rfl rfl ?_
    refine jx_load c1 hm rfl rfl rfl rfl ?_
    refine jy_ic c1 hm rfl (by decide) ?_
    refine jy_add c1 hm (b1 + 2) rfl (by omega) ?_
    obtain ⟨z82, kz82, lz82, uz82⟩ := hf ((b1 + 2)).toNat
    refine jx_sald c1 hm rfl ⟨by omega, by omega⟩ kz82 ?_
    refine jx_load c1 hm rfl rfl rfl rfl ?_
    refine cm k (by omega) (X + 8000 * b1) _ z81 z82 M4 (by omega) (by omega) hH4 (by omega) (by omega) (by omega) (by omega) (fun z83 M84 lz83 uz83 hH84 y84 => ?_)
    have c1 := c1f (k + 1) (by omega)
    have c2 := c2f (k + 1) (by omega)
    have c3 := c3f (k + 1) (by omega)
    refine jx_stor c1 hm (L' := [some (.inr (.inr (.inr 0))), some (.inr (.inr (.inl 0))), some (.inr (.inr (.inl 173))), some (.inr (.inr (.inl 198))), some (.inl b1), some (.inl z83), o3]) rfl rfl rfl rfl rfl ?_
    refine jx_load c1 hm rfl rfl rfl rfl ?_
    refine jx_load c1 hm rfl rfl rfl rfl ?_
    refine jx_load c1 hm rfl rfl rfl rfl ?_
    refine jy_ic c1 hm rfl (by decide) ?_
    refine jy_add c1 hm (b1 + 1) rfl (by omega) ?_
    obtain ⟨z85, kz85, lz85, uz85⟩ := hf ((b1 + 1)).toNat
    refine jx_sald c1 hm rfl ⟨by omega, by omega⟩ kz85 ?_
    refine jx_load c1 hm rfl rfl rfl rfl ?_
    refine jx_load c1 hm rfl rfl rfl rfl ?_
    refine jy_ic c1 hm rfl (by decide) ?_
    refine jy_add c1 hm (b1 + 2) rfl (by omega) ?_
    obtain ⟨z86, kz86, lz86, uz86⟩ := hf ((b1 + 2)).toNat
    refine jx_sald c1 hm rfl ⟨by omega, by omega⟩ kz86 ?_
    refine jv_i c3 hm rfl (plp pj_X12_man rfl) rfl rfl ⟨_, _, _, rfl, sh_173⟩ rfl ((ct_X12_man_173 (X + 8000 * b1) (by omega) M84 hH84 z85 ⟨by omega, by omega⟩ z86 ⟨by omega, by omega⟩).le (by decide)) (fun z87 M88 ⟨hH88, hR88, lz87, uz87⟩ => ?_)
    refine jx_stor c1 hm (L' := [some (.inr (.inr (.inr 0))), some (.inr (.inr (.inl 0))), some (.inr (.inr (.inl 173))), some (.inr (.inr (.inl 198))), some (.inl b1), some (.inl z83), some (.inl z87)]) rfl rfl rfl rfl rfl ?_
    refine jx_goto c1 hm 1445 rfl rfl ?_
    refine jx_iinc c1 hm (v := (b1 + 6)) (L' := [some (.inr (.inr (.inr 0))), some (.inr (.inr (.inl 0))), some (.inr (.inr (.inl 173))), some (.inr (.inr (.inl 198))), some (.inl (b1 + 6)), some (.inl z83), some (.inl z87)]) rfl rfl (by omega) (by omega) rfl ?_
    refine jx_goto c1 hm 23 rfl rfl ?_
    exact ihW9 (b1 + 6) (by omega) (some (.inl z83)) (Or.inr (Or.inl ⟨_, rfl⟩)) (some (.inl z87)) (Or.inr (Or.inl ⟨_, rfl⟩)) M88 (hH88.mono (by omega) (by omega)) (k + 1) (by omega) (SOK.cg hs1 (fun j h1 h2 => ((hR88 175 j rfl).trans (y84 175 j)))) (KOK.cg hs2 (fun j h1 h2 => ((hR88 177 j rfl).trans (y84 177 j)))) (KOK.cg hs3 (fun j h1 h2 => ((hR88 177 j rfl).trans (y84 177 j)))) (TPQ.cg hs4 ((hR88 0 2 rfl).trans (y84 0 2)) ((hR88 173 2 rfl).trans (y84 173 2))) (by omega)
   by_cases h89 : z13 = 5
   ·
    refine jx_tswI c1 hm 388 rfl ⟨by omega, by omega⟩ (by rw [h89] <;> rfl) rfl ?_
    refine jx_load c1 hm rfl rfl rfl rfl ?_
    refine jx_load c1 hm rfl rfl rfl rfl ?_
    refine jx_load c1 hm rfl rfl rfl rfl ?_
    refine jy_ic c1 hm rfl (by decide) ?_
    refine jy_add c1 hm (b1 + 1) rfl (by omega) ?_
    obtain ⟨z90, kz90, lz90, uz90⟩ := hf ((b1 + 1)).toNat
    refine jx_sald c1 hm rfl ⟨by omega, by omega⟩ kz90 ?_
    refine jx_load c1 hm rfl rfl rfl rfl ?_
    refine jx_load c1 hm rfl rfl rfl rfl ?_
    refine jy_ic c1 hm rfl (by decide) ?_
    refine jy_add c1 hm (b1 + 2) rfl (by omega) ?_
    obtain ⟨z91, kz91, lz91, uz91⟩ := hf ((b1 + 2)).toNat
    refine jx_sald c1 hm rfl ⟨by omega, by omega⟩ kz91 ?_
    refine jv_i c3 hm rfl (plp pj_X11_cost rfl) rfl rfl ⟨_, _, _, rfl, sh_0⟩ rfl ((ct_X11_cost_0 (X + 8000 * b1) (by omega) M4 hH4 z90 ⟨by omega, by omega⟩ z91 ⟨by omega, by omega⟩).le (by decide)) (fun z92 _ ⟨rfl, lz92, uz92⟩ => ?_)
    refine jx_pop c1 hm rfl rfl ?_
    refine jx_load c1 hm rfl rfl rfl rfl ?_
    refine jx_load c1 hm rfl rfl rfl rfl ?_
    refine jx_load c1 hm rfl rfl rfl rfl ?_
    refine jy_ic c1 hm rfl (by decide) ?_
    refine jy_add c1 hm (b1 + 1) rfl (by omega) ?_
    obtain ⟨z93, kz93, lz93, uz93⟩ := hf ((b1 + 1)).toNat
    refine jx_sald c1 hm rfl ⟨by omega, by omega⟩ kz93 ?_
    refine jx_load c1 hm rfl rfl rfl rfl ?_
    refine jx_load c1 hm rfl rfl rfl rfl ?_
    refine jy_ic c1 hm rfl (by decide) ?_
    refine jy_add c1 hm (b1 + 2) rfl (by omega) ?_
    obtain ⟨z94, kz94, lz94, uz94⟩ := hf ((b1 + 2)).toNat
    refine jx_sald c1 hm rfl ⟨by omega, by omega⟩ kz94 ?_
    refine jv_i c3 hm rfl (plp pj_X12_cost rfl) rfl rfl ⟨_, _, _, rfl, sh_173⟩ rfl ((ct_X12_cost_173 (X + 8000 * b1) (by omega) M4 hH4 z93 ⟨by omega, by omega⟩ z94 ⟨by omega, by omega⟩).le (by decide)) (fun z95 M96 ⟨hH96, hR96, lz95, uz95⟩ => ?_)
    refine jx_pop c1 hm rfl rfl ?_
    refine jx_goto c1 hm 1445 rfl rfl ?_
    refine jx_iinc c1 hm (v := (b1 + 6)) (L' := [some (.inr (.inr (.inr 0))), some (.inr (.inr (.inl 0))), some (.inr (.inr (.inl 173))), some (.inr (.inr (.inl 198))), some (.inl (b1 + 6)), o2, o3]) rfl rfl (by omega) (by omega) rfl ?_
    refine jx_goto c1 hm 23 rfl rfl ?_
    exact ihW9 (b1 + 6) (by omega) o2 ho2 o3 ho3 M96 (hH96.mono (by omega) (by omega)) k (by omega) (SOK.cg hs1 (fun j h1 h2 => (hR96 175 j rfl))) (KOK.cg hs2 (fun j h1 h2 => (hR96 177 j rfl))) (KOK.cg hs3 (fun j h1 h2 => (hR96 177 j rfl))) (TPQ.cg hs4 (hR96 0 2 rfl) (hR96 173 2 rfl)) (by omega)
   by_cases h97 : z13 = 6
   ·
    refine jx_tswI c1 hm 425 rfl ⟨by omega, by omega⟩ (by rw [h97] <;> rfl) rfl ?_
    refine jx_load c1 hm rfl rfl rfl rfl ?_
    refine jx_load c1 hm rfl rfl rfl rfl ?_
    refine jx_load c1 hm rfl rfl rfl rfl ?_
    refine jy_ic c1 hm rfl (by decide) ?_
    refine jy_add c1 hm (b1 + 1) rfl (by omega) ?_
    obtain ⟨z98, kz98, lz98, uz98⟩ := hf ((b1 + 1)).toNat
    refine jx_sald c1 hm rfl ⟨by omega, by omega⟩ kz98 ?_
    refine jx_load c1 hm rfl rfl rfl rfl ?_
    refine jx_load c1 hm rfl rfl rfl rfl ?_
    refine jy_ic c1 hm rfl (by decide) ?_
    refine jy_add c1 hm (b1 + 2) rfl (by omega) ?_
    obtain ⟨z99, kz99, lz99, uz99⟩ := hf ((b1 + 2)).toNat
    refine jx_sald c1 hm rfl ⟨by omega, by omega⟩ kz99 ?_
    refine jv_i c3 hm rfl (plp pj_X11_times rfl) rfl rfl ⟨_, _, _, rfl, sh_0⟩ rfl ((ct_X11_times_0 (X + 8000 * b1) (by omega) M4 hH4 z98 ⟨by omega, by omega⟩ z99 ⟨by omega, by omega⟩).le (by decide)) (fun z100 _ ⟨rfl, lz100, uz100⟩ => ?_)
    refine jx_pop c1 hm rfl rfl ?_
    refine jx_load c1 hm rfl rfl rfl rfl ?_
    refine jx_load c1 hm rfl rfl rfl rfl ?_
    refine jx_load c1 hm rfl rfl rfl rfl ?_
    refine jy_ic c1 hm rfl (by decide) ?_
    refine jy_add c1 hm (b1 + 1) rfl (by omega) ?_
    obtain ⟨z101, kz101, lz101, uz101⟩ := hf ((b1 + 1)).toNat
    refine jx_sald c1 hm rfl ⟨by omega, by omega⟩ kz101 ?_
    refine jx_load c1 hm rfl rfl rfl rfl ?_
    refine jx_load c1 hm rfl rfl rfl rfl ?_
    refine jy_ic c1 hm rfl (by decide) ?_
    refine jy_add c1 hm (b1 + 2) rfl (by omega) ?_
    obtain ⟨z102, kz102, lz102, uz102⟩ := hf ((b1 + 2)).toNat
    refine jx_sald c1 hm rfl ⟨by omega, by omega⟩ kz102 ?_
    refine jv_i c3 hm rfl (plp pj_X12_times rfl) rfl rfl ⟨_, _, _, rfl, sh_173⟩ rfl ((ct_X12_times_173 (X + 8000 * b1) (by omega) M4 hH4 z101 ⟨by omega, by omega⟩ z102 ⟨by omega, by omega⟩).le (by decide)) (fun z103 M104 ⟨hH104, hR104, lz103, uz103⟩ => ?_)
    refine jx_pop c1 hm rfl rfl ?_
    refine jx_goto c1 hm 1445 rfl rfl ?_
    refine jx_iinc c1 hm (v := (b1 + 6)) (L' := [some (.inr (.inr (.inr 0))), some (.inr (.inr (.inl 0))), some (.inr (.inr (.inl 173))), some (.inr (.inr (.inl 198))), some (.inl (b1 + 6)), o2, o3]) rfl rfl (by omega) (by omega) rfl ?_
    refine jx_goto c1 hm 23 rfl rfl ?_
    exact ihW9 (b1 + 6) (by omega) o2 ho2 o3 ho3 M104 (hH104.mono (by omega) (by omega)) k (by omega) (SOK.cg hs1 (fun j h1 h2 => (hR104 175 j rfl))) (KOK.cg hs2 (fun j h1 h2 => (hR104 177 j rfl))) (KOK.cg hs3 (fun j h1 h2 => (hR104 177 j rfl))) (TPQ.cg hs4 (hR104 0 2 rfl) (hR104 173 2 rfl)) (by omega)
   by_cases h105 : z13 = 7
   ·
    refine jx_tswI c1 hm 462 rfl ⟨by omega, by omega⟩ (by rw [h105] <;> rfl) rfl ?_
    refine jx_load c1 hm rfl rfl rfl rfl ?_
    refine jx_load c1 hm rfl rfl rfl rfl ?_
    refine jx_load c1 hm rfl rfl rfl rfl ?_
    refine jy_ic c1 hm rfl (by decide) ?_
    refine jy_add c1 hm (b1 + 1) rfl (by omega) ?_
    obtain ⟨z106, kz106, lz106, uz106⟩ := hf ((b1 + 1)).toNat
    refine jx_sald c1 hm rfl ⟨by omega, by omega⟩ kz106 ?_
    refine jx_load c1 hm rfl rfl rfl rfl ?_
    refine jx_load c1 hm rfl rfl rfl rfl ?_
    refine jy_ic c1 hm rfl (by decide) ?_
    refine jy_add c1 hm (b1 + 2) rfl (by omega) ?_
    obtain ⟨z107, kz107, lz107, uz107⟩ := hf ((b1 + 2)).toNat
    refine jx_sald c1 hm rfl ⟨by omega, by omega⟩ kz107 ?_
    refine jv_i c3 hm rfl (plp pj_X11_bought rfl) rfl rfl ⟨_, _, _, rfl, sh_0⟩ rfl ((ct_X11_bought_0 (X + 8000 * b1) (by omega) M4 hH4 z106 ⟨by omega, by omega⟩ z107 ⟨by omega, by omega⟩).le (by decide)) (fun z108 _ ⟨rfl, lz108, uz108⟩ => ?_)
    refine jx_pop c1 hm rfl rfl ?_
    refine jx_load c1 hm rfl rfl rfl rfl ?_
    refine jx_load c1 hm rfl rfl rfl rfl ?_
    refine jx_load c1 hm rfl rfl rfl rfl ?_
    refine jy_ic c1 hm rfl (by decide) ?_
    refine jy_add c1 hm (b1 + 1) rfl (by omega) ?_
    obtain ⟨z109, kz109, lz109, uz109⟩ := hf ((b1 + 1)).toNat
    refine jx_sald c1 hm rfl ⟨by omega, by omega⟩ kz109 ?_
    refine jx_load c1 hm rfl rfl rfl rfl ?_
    refine jx_load c1 hm rfl rfl rfl rfl ?_
    refine jy_ic c1 hm rfl (by decide) ?_
    refine jy_add c1 hm (b1 + 2) rfl (by omega) ?_
    obtain ⟨z110, kz110, lz110, uz110⟩ := hf ((b1 + 2)).toNat
    refine jx_sald c1 hm rfl ⟨by omega, by omega⟩ kz110 ?_
    refine jv_i c3 hm rfl (plp pj_X12_bought rfl) rfl rfl ⟨_, _, _, rfl, sh_173⟩ rfl ((ct_X12_bought_173 (X + 8000 * b1) (by omega) M4 hH4 z109 ⟨by omega, by omega⟩ z110 ⟨by omega, by omega⟩).le (by decide)) (fun z111 M112 ⟨hH112, hR112, lz111, uz111⟩ => ?_)
    refine jx_pop c1 hm rfl rfl ?_
    refine jx_goto c1 hm 1445 rfl rfl ?_
    refine jx_iinc c1 hm (v := (b1 + 6)) (L' := [some (.inr (.inr (.inr 0))), some (.inr (.inr (.inl 0))), some (.inr (.inr (.inl 173))), some (.inr (.inr (.inl 198))), some (.inl (b1 + 6)), o2, o3]) rfl rfl (by omega) (by omega) rfl ?_
    refine jx_goto c1 hm 23 rfl rfl ?_
    exact ihW9 (b1 + 6) (by omega) o2 ho2 o3 ho3 M112 (hH112.mono (by omega) (by omega)) k (by omega) (SOK.cg hs1 (fun j h1 h2 => (hR112 175 j rfl))) (KOK.cg hs2 (fun j h1 h2 => (hR112 177 j rfl))) (KOK.cg hs3 (fun j h1 h2 => (hR112 177 j rfl))) (TPQ.cg hs4 (hR112 0 2 rfl) (hR112 173 2 rfl)) (by omega)
   by_cases h113 : z13 = 8
   ·
    refine jx_tswI c1 hm 499 rfl ⟨by omega, by omega⟩ (by rw [h113] <;> rfl) rfl ?_
    refine jx_load c1 hm rfl rfl rfl rfl ?_
    refine jx_load c1 hm rfl rfl rfl rfl ?_
    refine jx_load c1 hm rfl rfl rfl rfl ?_
    refine jy_ic c1 hm rfl (by decide) ?_
    refine jy_add c1 hm (b1 + 1) rfl (by omega) ?_
    obtain ⟨z114, kz114, lz114, uz114⟩ := hf ((b1 + 1)).toNat
    refine jx_sald c1 hm rfl ⟨by omega, by omega⟩ kz114 ?_
    refine jx_load c1 hm rfl rfl rfl rfl ?_
    refine jx_load c1 hm rfl rfl rfl rfl ?_
    refine jy_ic c1 hm rfl (by decide) ?_
    refine jy_add c1 hm (b1 + 2) rfl (by omega) ?_
    obtain ⟨z115, kz115, lz115, uz115⟩ := hf ((b1 + 2)).toNat
    refine jx_sald c1 hm rfl ⟨by omega, by omega⟩ kz115 ?_
    refine jv_i c3 hm rfl (plp pj_X11_good rfl) rfl rfl ⟨_, _, _, rfl, sh_0⟩ rfl ((ct_X11_good_0 (X + 8000 * b1) (by omega) M4 hH4 z114 ⟨by omega, by omega⟩ z115 ⟨by omega, by omega⟩).le (by decide)) (fun z116 _ ⟨rfl, lz116, uz116⟩ => ?_)
    refine jx_pop c1 hm rfl rfl ?_
    refine jx_load c1 hm rfl rfl rfl rfl ?_
    refine jx_load c1 hm rfl rfl rfl rfl ?_
    refine jx_load c1 hm rfl rfl rfl rfl ?_
    refine jy_ic c1 hm rfl (by decide) ?_
    refine jy_add c1 hm (b1 + 1) rfl (by omega) ?_
    obtain ⟨z117, kz117, lz117, uz117⟩ := hf ((b1 + 1)).toNat
    refine jx_sald c1 hm rfl ⟨by omega, by omega⟩ kz117 ?_
    refine jx_load c1 hm rfl rfl rfl rfl ?_
    refine jx_load c1 hm rfl rfl rfl rfl ?_
    refine jy_ic c1 hm rfl (by decide) ?_
    refine jy_add c1 hm (b1 + 2) rfl (by omega) ?_
    obtain ⟨z118, kz118, lz118, uz118⟩ := hf ((b1 + 2)).toNat
    refine jx_sald c1 hm rfl ⟨by omega, by omega⟩ kz118 ?_
    refine jv_i c3 hm rfl (plp pj_X12_good rfl) rfl rfl ⟨_, _, _, rfl, sh_173⟩ rfl ((ct_X12_good_173 (X + 8000 * b1) (by omega) M4 hH4 z117 ⟨by omega, by omega⟩ z118 ⟨by omega, by omega⟩).le (by decide)) (fun z119 M120 ⟨hH120, hR120, lz119, uz119⟩ => ?_)
    refine jx_pop c1 hm rfl rfl ?_
    refine jx_goto c1 hm 1445 rfl rfl ?_
    refine jx_iinc c1 hm (v := (b1 + 6)) (L' := [some (.inr (.inr (.inr 0))), some (.inr (.inr (.inl 0))), some (.inr (.inr (.inl 173))), some (.inr (.inr (.inl 198))), some (.inl (b1 + 6)), o2, o3]) rfl rfl (by omega) (by omega) rfl ?_
    refine jx_goto c1 hm 23 rfl rfl ?_
    exact ihW9 (b1 + 6) (by omega) o2 ho2 o3 ho3 M120 (hH120.mono (by omega) (by omega)) k (by omega) (SOK.cg hs1 (fun j h1 h2 => (hR120 175 j rfl))) (KOK.cg hs2 (fun j h1 h2 => (hR120 177 j rfl))) (KOK.cg hs3 (fun j h1 h2 => (hR120 177 j rfl))) (TPQ.cg hs4 (hR120 0 2 rfl) (hR120 173 2 rfl)) (by omega)
   by_cases h121 : z13 = 9
   ·
    refine jx_tswI c1 hm 536 rfl ⟨by omega, by omega⟩ (by rw [h121] <;> rfl) rfl ?_
    refine jx_load c1 hm rfl rfl rfl rfl ?_
    refine jx_load c1 hm rfl rfl rfl rfl ?_
    refine jx_load c1 hm rfl rfl rfl rfl ?_
    refine jy_ic c1 hm rfl (by decide) ?_
    refine jy_add c1 hm (b1 + 1) rfl (by omega) ?_
    obtain ⟨z122, kz122, lz122, uz122⟩ := hf ((b1 + 1)).toNat
    refine jx_sald c1 hm rfl ⟨by omega, by omega⟩ kz122 ?_
    refine jx_load c1 hm rfl rfl rfl rfl ?_
    refine jx_load c1 hm rfl rfl rfl rfl ?_
    refine jy_ic c1 hm rfl (by decide) ?_
    refine jy_add c1 hm (b1 + 2) rfl (by omega) ?_
    obtain ⟨z123, kz123, lz123, uz123⟩ := hf ((b1 + 2)).toNat
    refine jx_sald c1 hm rfl ⟨by omega, by omega⟩ kz123 ?_
    refine jv_i c3 hm rfl (plp pj_X11_owes rfl) rfl rfl ⟨_, _, _, rfl, sh_0⟩ rfl ((ct_X11_owes_0 (X + 8000 * b1) (by omega) M4 hH4 z122 ⟨by omega, by omega⟩ z123 ⟨by omega, by omega⟩).le (by decide)) (fun z124 _ ⟨rfl, lz124, uz124⟩ => ?_)
    refine jx_pop c1 hm rfl rfl ?_
    refine jx_load c1 hm rfl rfl rfl rfl ?_
    refine jx_load c1 hm rfl rfl rfl rfl ?_
    refine jx_load c1 hm rfl rfl rfl rfl ?_
    refine jy_ic c1 hm rfl (by decide) ?_
    refine jy_add c1 hm (b1 + 1) rfl (by omega) ?_
    obtain ⟨z125, kz125, lz125, uz125⟩ := hf ((b1 + 1)).toNat
    refine jx_sald c1 hm rfl ⟨by omega, by omega⟩ kz125 ?_
    refine jx_load c1 hm rfl rfl rfl rfl ?_
    refine jx_load c1 hm rfl rfl rfl rfl ?_
    refine jy_ic c1 hm rfl (by decide) ?_
    refine jy_add c1 hm (b1 + 2) rfl (by omega) ?_
    obtain ⟨z126, kz126, lz126, uz126⟩ := hf ((b1 + 2)).toNat
    refine jx_sald c1 hm rfl ⟨by omega, by omega⟩ kz126 ?_
    refine jv_i c3 hm rfl (plp pj_X12_owes rfl) rfl rfl ⟨_, _, _, rfl, sh_173⟩ rfl ((ct_X12_owes_173 (X + 8000 * b1) (by omega) M4 hH4 z125 ⟨by omega, by omega⟩ z126 ⟨by omega, by omega⟩).le (by decide)) (fun z127 M128 ⟨hH128, hR128, lz127, uz127⟩ => ?_)
    refine jx_pop c1 hm rfl rfl ?_
    refine jx_goto c1 hm 1445 rfl rfl ?_
    refine jx_iinc c1 hm (v := (b1 + 6)) (L' := [some (.inr (.inr (.inr 0))), some (.inr (.inr (.inl 0))), some (.inr (.inr (.inl 173))), some (.inr (.inr (.inl 198))), some (.inl (b1 + 6)), o2, o3]) rfl rfl (by omega) (by omega) rfl ?_
    refine jx_goto c1 hm 23 rfl rfl ?_
    exact ihW9 (b1 + 6) (by omega) o2 ho2 o3 ho3 M128 (hH128.mono (by omega) (by omega)) k (by omega) (SOK.cg hs1 (fun j h1 h2 => (hR128 175 j rfl))) (KOK.cg hs2 (fun j h1 h2 => (hR128 177 j rfl))) (KOK.cg hs3 (fun j h1 h2 => (hR128 177 j rfl))) (TPQ.cg hs4 (hR128 0 2 rfl) (hR128 173 2 rfl)) (by omega)
   by_cases h129 : z13 = 10
   ·
    refine jx_tswI c1 hm 573 rfl ⟨by omega, by omega⟩ (by rw [h129] <;> rfl) rfl ?_
    refine jx_load c1 hm rfl rfl rfl rfl ?_
    refine jx_load c1 hm rfl rfl rfl rfl ?_
    refine jx_load c1 hm rfl rfl rfl rfl ?_
    refine jy_ic c1 hm rfl (by decide) ?_
    refine jy_add c1 hm (b1 + 1) rfl (by omega) ?_
    obtain ⟨z130, kz130, lz130, uz130⟩ := hf ((b1 + 1)).toNat
    refine jx_sald c1 hm rfl ⟨by omega, by omega⟩ kz130 ?_
    refine jv_i c3 hm rfl (plp pj_X11_now rfl) rfl rfl ⟨_, _, _, rfl, sh_0⟩ rfl ((ct_X11_now_0 (X + 8000 * b1) (by omega) M4 hH4 z130 ⟨by omega, by omega⟩).le (by decide)) (fun z131 _ ⟨rfl, lz131, uz131⟩ => ?_)
    refine jx_pop c1 hm rfl rfl ?_
    refine jx_load c1 hm rfl rfl rfl rfl ?_
    refine jx_load c1 hm rfl rfl rfl rfl ?_
    refine jx_load c1 hm rfl rfl rfl rfl ?_
    refine jy_ic c1 hm rfl (by decide) ?_
    refine jy_add c1 hm (b1 + 1) rfl (by omega) ?_
    obtain ⟨z132, kz132, lz132, uz132⟩ := hf ((b1 + 1)).toNat
    refine jx_sald c1 hm rfl ⟨by omega, by omega⟩ kz132 ?_
    refine jv_i c3 hm rfl (plp pj_X12_now rfl) rfl rfl ⟨_, _, _, rfl, sh_173⟩ rfl ((ct_X12_now_173 (X + 8000 * b1) (by omega) M4 hH4 z132 ⟨by omega, by omega⟩).le (by decide)) (fun z133 M134 ⟨hH134, hR134, lz133, uz133⟩ => ?_)
    refine jx_pop c1 hm rfl rfl ?_
    refine jx_goto c1 hm 1445 rfl rfl ?_
    refine jx_iinc c1 hm (v := (b1 + 6)) (L' := [some (.inr (.inr (.inr 0))), some (.inr (.inr (.inl 0))), some (.inr (.inr (.inl 173))), some (.inr (.inr (.inl 198))), some (.inl (b1 + 6)), o2, o3]) rfl rfl (by omega) (by omega) rfl ?_
    refine jx_goto c1 hm 23 rfl rfl ?_
    exact ihW9 (b1 + 6) (by omega) o2 ho2 o3 ho3 M134 (hH134.mono (by omega) (by omega)) k (by omega) (SOK.cg hs1 (fun j h1 h2 => (hR134 175 j rfl))) (KOK.cg hs2 (fun j h1 h2 => (hR134 177 j rfl))) (KOK.cg hs3 (fun j h1 h2 => (hR134 177 j rfl))) (TPQ.cg hs4 (hR134 0 2 rfl) (hR134 173 2 rfl)) (by omega)
   by_cases h135 : z13 = 11
   ·
    refine jx_tswI c1 hm 598 rfl ⟨by omega, by omega⟩ (by rw [h135] <;> rfl) rfl ?_
    refine jx_load c1 hm rfl rfl rfl rfl ?_
    refine jx_load c1 hm rfl rfl rfl rfl ?_
    refine jx_load c1 hm rfl rfl rfl rfl ?_
    refine jy_ic c1 hm rfl (by decide) ?_
    refine jy_add c1 hm (b1 + 1) rfl (by omega) ?_
    obtain ⟨z136, kz136, lz136, uz136⟩ := hf ((b1 + 1)).toNat
    refine jx_sald c1 hm rfl ⟨by omega, by omega⟩ kz136 ?_
    refine jx_load c1 hm rfl rfl rfl rfl ?_
    refine jx_load c1 hm rfl rfl rfl rfl ?_
    refine jy_ic c1 hm rfl (by decide) ?_
    refine jy_add c1 hm (b1 + 2) rfl (by omega) ?_
    obtain ⟨z137, kz137, lz137, uz137⟩ := hf ((b1 + 2)).toNat
    refine jx_sald c1 hm rfl ⟨by omega, by omega⟩ kz137 ?_
    refine jv_i c3 hm rfl (plp pj_X11_forfeit rfl) rfl rfl ⟨_, _, _, rfl, sh_0⟩ rfl ((ct_X11_forfeit_0 (X + 8000 * b1) (by omega) M4 hH4 z136 ⟨by omega, by omega⟩ z137 ⟨by omega, by omega⟩).le (by decide)) (fun z138 M139 ⟨hH139, hR139, lz138, uz138⟩ => ?_)
    refine jx_pop c1 hm rfl rfl ?_
    refine jx_load c1 hm rfl rfl rfl rfl ?_
    refine jx_load c1 hm rfl rfl rfl rfl ?_
    refine jx_load c1 hm rfl rfl rfl rfl ?_
    refine jy_ic c1 hm rfl (by decide) ?_
    refine jy_add c1 hm (b1 + 1) rfl (by omega) ?_
    obtain ⟨z140, kz140, lz140, uz140⟩ := hf ((b1 + 1)).toNat
    refine jx_sald c1 hm rfl ⟨by omega, by omega⟩ kz140 ?_
    refine jx_load c1 hm rfl rfl rfl rfl ?_
    refine jx_load c1 hm rfl rfl rfl rfl ?_
    refine jy_ic c1 hm rfl (by decide) ?_
    refine jy_add c1 hm (b1 + 2) rfl (by omega) ?_
    obtain ⟨z141, kz141, lz141, uz141⟩ := hf ((b1 + 2)).toNat
    refine jx_sald c1 hm rfl ⟨by omega, by omega⟩ kz141 ?_
    refine jv_i c3 hm rfl (plp pj_X12_forfeit rfl) rfl rfl ⟨_, _, _, rfl, sh_173⟩ rfl ((ct_X12_forfeit_173 (X + 8000 * b1 + 1) (by omega) M139 hH139 z140 ⟨by omega, by omega⟩ z141 ⟨by omega, by omega⟩).le (by decide)) (fun z142 M143 ⟨hH143, hR143, lz142, uz142⟩ => ?_)
    rw [show X + 8000 * b1 + 1 + 1 = X + 8000 * b1 + 2 by omega] at hH143
    refine jx_pop c1 hm rfl rfl ?_
    refine jx_goto c1 hm 1445 rfl rfl ?_
    refine jx_iinc c1 hm (v := (b1 + 6)) (L' := [some (.inr (.inr (.inr 0))), some (.inr (.inr (.inl 0))), some (.inr (.inr (.inl 173))), some (.inr (.inr (.inl 198))), some (.inl (b1 + 6)), o2, o3]) rfl rfl (by omega) (by omega) rfl ?_
    refine jx_goto c1 hm 23 rfl rfl ?_
    exact ihW9 (b1 + 6) (by omega) o2 ho2 o3 ho3 M143 (hH143.mono (by omega) (by omega)) k (by omega) (SOK.cg hs1 (fun j h1 h2 => ((hR143 175 j (jin_hi (b := 234) (by decide +kernel) h1)).trans (hR139 175 j rfl)))) (KOK.cg hs2 (fun j h1 h2 => ((hR143 177 j rfl).trans (hR139 177 j rfl)))) (KOK.cg hs3 (fun j h1 h2 => ((hR143 177 j rfl).trans (hR139 177 j rfl)))) (TPQ.cg hs4 ((hR143 0 2 rfl).trans (hR139 0 2 rfl)) ((hR143 173 2 rfl).trans (hR139 173 2 rfl))) (by omega)
   by_cases h144 : z13 = 12
   ·
    refine jx_tswI c1 hm 635 rfl ⟨by omega, by omega⟩ (by rw [h144] <;> rfl) rfl ?_
    refine jx_load c1 hm rfl rfl rfl rfl ?_
    refine jx_load c1 hm rfl rfl rfl rfl ?_
    refine jx_load c1 hm rfl rfl rfl rfl ?_
    refine jy_ic c1 hm rfl (by decide) ?_
    refine jy_add c1 hm (b1 + 1) rfl (by omega) ?_
    obtain ⟨z145, kz145, lz145, uz145⟩ := hf ((b1 + 1)).toNat
    refine jx_sald c1 hm rfl ⟨by omega, by omega⟩ kz145 ?_
    refine jx_load c1 hm rfl rfl rfl rfl ?_
    refine jx_load c1 hm rfl rfl rfl rfl ?_
    refine jy_ic c1 hm rfl (by decide) ?_
    refine jy_add c1 hm (b1 + 2) rfl (by omega) ?_
    obtain ⟨z146, kz146, lz146, uz146⟩ := hf ((b1 + 2)).toNat
    refine jx_sald c1 hm rfl ⟨by omega, by omega⟩ kz146 ?_
    refine jv_i c3 hm rfl (plp pj_X11_buy rfl) rfl rfl ⟨_, _, _, rfl, sh_0⟩ rfl ((ct_X11_buy_0 (X + 8000 * b1) (by omega) M4 hH4 z145 ⟨by omega, by omega⟩ z146 ⟨by omega, by omega⟩).le (by decide)) (fun z147 M148 ⟨hH148, hR148, lz147, uz147⟩ => ?_)
    refine jx_pop c1 hm rfl rfl ?_
    refine jx_load c1 hm rfl rfl rfl rfl ?_
    refine jx_load c1 hm rfl rfl rfl rfl ?_
    refine jx_load c1 hm rfl rfl rfl rfl ?_
    refine jy_ic c1 hm rfl (by decide) ?_
    refine jy_add c1 hm (b1 + 1) rfl (by omega) ?_
    obtain ⟨z149, kz149, lz149, uz149⟩ := hf ((b1 + 1)).toNat
    refine jx_sald c1 hm rfl ⟨by omega, by omega⟩ kz149 ?_
    refine jx_load c1 hm rfl rfl rfl rfl ?_
    refine jx_load c1 hm rfl rfl rfl rfl ?_
    refine jy_ic c1 hm rfl (by decide) ?_
    refine jy_add c1 hm (b1 + 2) rfl (by omega) ?_
    obtain ⟨z150, kz150, lz150, uz150⟩ := hf ((b1 + 2)).toNat
    refine jx_sald c1 hm rfl ⟨by omega, by omega⟩ kz150 ?_
    refine jv_i c3 hm rfl (plp pj_X12_buy rfl) rfl rfl ⟨_, _, _, rfl, sh_173⟩ rfl ((ct_X12_buy_173 (X + 8000 * b1 + 1) (by omega) M148 hH148 z149 ⟨by omega, by omega⟩ z150 ⟨by omega, by omega⟩).le (by decide)) (fun z151 M152 ⟨hH152, hR152, lz151, uz151⟩ => ?_)
    rw [show X + 8000 * b1 + 1 + 1 = X + 8000 * b1 + 2 by omega] at hH152
    refine jx_pop c1 hm rfl rfl ?_
    refine jx_goto c1 hm 1445 rfl rfl ?_
    refine jx_iinc c1 hm (v := (b1 + 6)) (L' := [some (.inr (.inr (.inr 0))), some (.inr (.inr (.inl 0))), some (.inr (.inr (.inl 173))), some (.inr (.inr (.inl 198))), some (.inl (b1 + 6)), o2, o3]) rfl rfl (by omega) (by omega) rfl ?_
    refine jx_goto c1 hm 23 rfl rfl ?_
    exact ihW9 (b1 + 6) (by omega) o2 ho2 o3 ho3 M152 (hH152.mono (by omega) (by omega)) k (by omega) (SOK.cg hs1 (fun j h1 h2 => ((hR152 175 j (jin_hi (b := 234) (by decide +kernel) h1)).trans (hR148 175 j rfl)))) (KOK.cg hs2 (fun j h1 h2 => ((hR152 177 j rfl).trans (hR148 177 j rfl)))) (KOK.cg hs3 (fun j h1 h2 => ((hR152 177 j rfl).trans (hR148 177 j rfl)))) (TPQ.cg hs4 ((hR152 0 2 rfl).trans (hR148 0 2 rfl)) ((hR152 173 2 rfl).trans (hR148 173 2 rfl))) (by omega)
   by_cases h153 : z13 = 13
   ·
    refine jx_tswI c1 hm 672 rfl ⟨by omega, by omega⟩ (by rw [h153] <;> rfl) rfl ?_
    refine jx_load c1 hm rfl rfl rfl rfl ?_
    refine jx_load c1 hm rfl rfl rfl rfl ?_
    refine jx_load c1 hm rfl rfl rfl rfl ?_
    refine jy_ic c1 hm rfl (by decide) ?_
    refine jy_add c1 hm (b1 + 1) rfl (by omega) ?_
    obtain ⟨z154, kz154, lz154, uz154⟩ := hf ((b1 + 1)).toNat
    refine jx_sald c1 hm rfl ⟨by omega, by omega⟩ kz154 ?_
    refine jx_load c1 hm rfl rfl rfl rfl ?_
    refine jx_load c1 hm rfl rfl rfl rfl ?_
    refine jy_ic c1 hm rfl (by decide) ?_
    refine jy_add c1 hm (b1 + 2) rfl (by omega) ?_
    obtain ⟨z155, kz155, lz155, uz155⟩ := hf ((b1 + 2)).toNat
    refine jx_sald c1 hm rfl ⟨by omega, by omega⟩ kz155 ?_
    refine jx_load c1 hm rfl rfl rfl rfl ?_
    refine jx_load c1 hm rfl rfl rfl rfl ?_
    refine jy_ic c1 hm rfl (by decide) ?_
    refine jy_add c1 hm (b1 + 3) rfl (by omega) ?_
    obtain ⟨z156, kz156, lz156, uz156⟩ := hf ((b1 + 3)).toNat
    refine jx_sald c1 hm rfl ⟨by omega, by omega⟩ kz156 ?_
    refine jv_i c3 hm rfl (plp pj_X11_lend rfl) rfl rfl ⟨_, _, _, rfl, sh_0⟩ rfl ((ct_X11_lend_0 (X + 8000 * b1) (by omega) M4 hH4 z154 ⟨by omega, by omega⟩ z155 ⟨by omega, by omega⟩ z156 ⟨by omega, by omega⟩).le (by decide)) (fun z157 M158 ⟨hH158, hR158, lz157, uz157⟩ => ?_)
    refine jx_pop c1 hm rfl rfl ?_
    refine jx_load c1 hm rfl rfl rfl rfl ?_
    refine jx_load c1 hm rfl rfl rfl rfl ?_
    refine jx_load c1 hm rfl rfl rfl rfl ?_
    refine jy_ic c1 hm rfl (by decide) ?_
    refine jy_add c1 hm (b1 + 1) rfl (by omega) ?_
    obtain ⟨z159, kz159, lz159, uz159⟩ := hf ((b1 + 1)).toNat
    refine jx_sald c1 hm rfl ⟨by omega, by omega⟩ kz159 ?_
    refine jx_load c1 hm rfl rfl rfl rfl ?_
    refine jx_load c1 hm rfl rfl rfl rfl ?_
    refine jy_ic c1 hm rfl (by decide) ?_
    refine jy_add c1 hm (b1 + 2) rfl (by omega) ?_
    obtain ⟨z160, kz160, lz160, uz160⟩ := hf ((b1 + 2)).toNat
    refine jx_sald c1 hm rfl ⟨by omega, by omega⟩ kz160 ?_
    refine jx_load c1 hm rfl rfl rfl rfl ?_
    refine jx_load c1 hm rfl rfl rfl rfl ?_
    refine jy_ic c1 hm rfl (by decide) ?_
    refine jy_add c1 hm (b1 + 3) rfl (by omega) ?_
    obtain ⟨z161, kz161, lz161, uz161⟩ := hf ((b1 + 3)).toNat
    refine jx_sald c1 hm rfl ⟨by omega, by omega⟩ kz161 ?_
    refine jv_i c3 hm rfl (plp pj_X12_lend rfl) rfl rfl ⟨_, _, _, rfl, sh_173⟩ rfl ((ct_X12_lend_173 (X + 8000 * b1 + 1) (by omega) M158 hH158 z159 ⟨by omega, by omega⟩ z160 ⟨by omega, by omega⟩ z161 ⟨by omega, by omega⟩).le (by decide)) (fun z162 M163 ⟨hH163, hR163, lz162, uz162⟩ => ?_)
    rw [show X + 8000 * b1 + 1 + 1 = X + 8000 * b1 + 2 by omega] at hH163
    refine jx_pop c1 hm rfl rfl ?_
    refine jx_goto c1 hm 1445 rfl rfl ?_
    refine jx_iinc c1 hm (v := (b1 + 6)) (L' := [some (.inr (.inr (.inr 0))), some (.inr (.inr (.inl 0))), some (.inr (.inr (.inl 173))), some (.inr (.inr (.inl 198))), some (.inl (b1 + 6)), o2, o3]) rfl rfl (by omega) (by omega) rfl ?_
    refine jx_goto c1 hm 23 rfl rfl ?_
    exact ihW9 (b1 + 6) (by omega) o2 ho2 o3 ho3 M163 (hH163.mono (by omega) (by omega)) k (by omega) (SOK.cg hs1 (fun j h1 h2 => ((hR163 175 j (jin_hi (b := 234) (by decide +kernel) h1)).trans (hR158 175 j rfl)))) (KOK.cg hs2 (fun j h1 h2 => ((hR163 177 j rfl).trans (hR158 177 j rfl)))) (KOK.cg hs3 (fun j h1 h2 => ((hR163 177 j rfl).trans (hR158 177 j rfl)))) (TPQ.cg hs4 ((hR163 0 2 rfl).trans (hR158 0 2 rfl)) ((hR163 173 2 rfl).trans (hR158 173 2 rfl))) (by omega)
   by_cases h164 : z13 = 14
   ·
    refine jx_tswI c1 hm 721 rfl ⟨by omega, by omega⟩ (by rw [h164] <;> rfl) rfl ?_
    refine jx_load c1 hm rfl rfl rfl rfl ?_
    refine jx_load c1 hm rfl rfl rfl rfl ?_
    refine jx_load c1 hm rfl rfl rfl rfl ?_
    refine jy_ic c1 hm rfl (by decide) ?_
    refine jy_add c1 hm (b1 + 1) rfl (by omega) ?_
    obtain ⟨z165, kz165, lz165, uz165⟩ := hf ((b1 + 1)).toNat
    refine jx_sald c1 hm rfl ⟨by omega, by omega⟩ kz165 ?_
    refine jx_load c1 hm rfl rfl rfl rfl ?_
    refine jx_load c1 hm rfl rfl rfl rfl ?_
    refine jy_ic c1 hm rfl (by decide) ?_
    refine jy_add c1 hm (b1 + 2) rfl (by omega) ?_
    obtain ⟨z166, kz166, lz166, uz166⟩ := hf ((b1 + 2)).toNat
    refine jx_sald c1 hm rfl ⟨by omega, by omega⟩ kz166 ?_
    refine jx_load c1 hm rfl rfl rfl rfl ?_
    refine jx_load c1 hm rfl rfl rfl rfl ?_
    refine jy_ic c1 hm rfl (by decide) ?_
    refine jy_add c1 hm (b1 + 3) rfl (by omega) ?_
    obtain ⟨z167, kz167, lz167, uz167⟩ := hf ((b1 + 3)).toNat
    refine jx_sald c1 hm rfl ⟨by omega, by omega⟩ kz167 ?_
    refine jv_i c3 hm rfl (plp pj_X11_repay rfl) rfl rfl ⟨_, _, _, rfl, sh_0⟩ rfl ((ct_X11_repay_0 (X + 8000 * b1) (by omega) M4 hH4 z165 ⟨by omega, by omega⟩ z166 ⟨by omega, by omega⟩ z167 ⟨by omega, by omega⟩).le (by decide)) (fun z168 M169 ⟨hH169, hR169, lz168, uz168⟩ => ?_)
    refine jx_pop c1 hm rfl rfl ?_
    refine jx_load c1 hm rfl rfl rfl rfl ?_
    refine jx_load c1 hm rfl rfl rfl rfl ?_
    refine jx_load c1 hm rfl rfl rfl rfl ?_
    refine jy_ic c1 hm rfl (by decide) ?_
    refine jy_add c1 hm (b1 + 1) rfl (by omega) ?_
    obtain ⟨z170, kz170, lz170, uz170⟩ := hf ((b1 + 1)).toNat
    refine jx_sald c1 hm rfl ⟨by omega, by omega⟩ kz170 ?_
    refine jx_load c1 hm rfl rfl rfl rfl ?_
    refine jx_load c1 hm rfl rfl rfl rfl ?_
    refine jy_ic c1 hm rfl (by decide) ?_
    refine jy_add c1 hm (b1 + 2) rfl (by omega) ?_
    obtain ⟨z171, kz171, lz171, uz171⟩ := hf ((b1 + 2)).toNat
    refine jx_sald c1 hm rfl ⟨by omega, by omega⟩ kz171 ?_
    refine jx_load c1 hm rfl rfl rfl rfl ?_
    refine jx_load c1 hm rfl rfl rfl rfl ?_
    refine jy_ic c1 hm rfl (by decide) ?_
    refine jy_add c1 hm (b1 + 3) rfl (by omega) ?_
    obtain ⟨z172, kz172, lz172, uz172⟩ := hf ((b1 + 3)).toNat
    refine jx_sald c1 hm rfl ⟨by omega, by omega⟩ kz172 ?_
    refine jv_i c3 hm rfl (plp pj_X12_repay rfl) rfl rfl ⟨_, _, _, rfl, sh_173⟩ rfl ((ct_X12_repay_173 (X + 8000 * b1 + 1) (by omega) M169 hH169 z170 ⟨by omega, by omega⟩ z171 ⟨by omega, by omega⟩ z172 ⟨by omega, by omega⟩).le (by decide)) (fun z173 M174 ⟨hH174, hR174, lz173, uz173⟩ => ?_)
    rw [show X + 8000 * b1 + 1 + 1 = X + 8000 * b1 + 2 by omega] at hH174
    refine jx_pop c1 hm rfl rfl ?_
    refine jx_goto c1 hm 1445 rfl rfl ?_
    refine jx_iinc c1 hm (v := (b1 + 6)) (L' := [some (.inr (.inr (.inr 0))), some (.inr (.inr (.inl 0))), some (.inr (.inr (.inl 173))), some (.inr (.inr (.inl 198))), some (.inl (b1 + 6)), o2, o3]) rfl rfl (by omega) (by omega) rfl ?_
    refine jx_goto c1 hm 23 rfl rfl ?_
    exact ihW9 (b1 + 6) (by omega) o2 ho2 o3 ho3 M174 (hH174.mono (by omega) (by omega)) k (by omega) (SOK.cg hs1 (fun j h1 h2 => ((hR174 175 j (jin_hi (b := 234) (by decide +kernel) h1)).trans (hR169 175 j rfl)))) (KOK.cg hs2 (fun j h1 h2 => ((hR174 177 j rfl).trans (hR169 177 j rfl)))) (KOK.cg hs3 (fun j h1 h2 => ((hR174 177 j rfl).trans (hR169 177 j rfl)))) (TPQ.cg hs4 ((hR174 0 2 rfl).trans (hR169 0 2 rfl)) ((hR174 173 2 rfl).trans (hR169 173 2 rfl))) (by omega)
   by_cases h175 : z13 = 15
   ·
    refine jx_tswI c1 hm 770 rfl ⟨by omega, by omega⟩ (by rw [h175] <;> rfl) rfl ?_
    refine jx_load c1 hm rfl rfl rfl rfl ?_
    refine jv_i c3 hm rfl (plp pj_X11_strike rfl) rfl rfl ⟨_, _, _, rfl, sh_0⟩ rfl ((ct_X11_strike_0 (X + 8000 * b1) (by omega) M4 hH4 ).le (by decide)) (fun z176 M177 ⟨hH177, hR177, lz176, uz176⟩ => ?_)
    refine jx_pop c1 hm rfl rfl ?_
    refine jx_load c1 hm rfl rfl rfl rfl ?_
    refine jv_i c3 hm rfl (plp pj_X12_strike rfl) rfl rfl ⟨_, _, _, rfl, sh_173⟩ rfl ((ct_X12_strike_173 (X + 8000 * b1 + 1) (by omega) M177 hH177 ).le (by decide)) (fun z178 M179 ⟨hH179, hR179, lz178, uz178⟩ => ?_)
    refine jx_pop c1 hm rfl rfl ?_
    refine jx_goto c1 hm 1445 rfl rfl ?_
    refine jx_iinc c1 hm (v := (b1 + 6)) (L' := [some (.inr (.inr (.inr 0))), some (.inr (.inr (.inl 0))), some (.inr (.inr (.inl 173))), some (.inr (.inr (.inl 198))), some (.inl (b1 + 6)), o2, o3]) rfl rfl (by omega) (by omega) rfl ?_
    refine jx_goto c1 hm 23 rfl rfl ?_
    exact ihW9 (b1 + 6) (by omega) o2 ho2 o3 ho3 M179 (hH179.mono (by omega) (by omega)) k (by omega) (SOK.cg hs1 (fun j h1 h2 => ((hR179 175 j (jin_hi (b := 234) (by decide +kernel) h1)).trans (hR177 175 j rfl)))) (KOK.cg hs2 (fun j h1 h2 => ((hR179 177 j rfl).trans (hR177 177 j rfl)))) (KOK.cg hs3 (fun j h1 h2 => ((hR179 177 j rfl).trans (hR177 177 j rfl)))) (TPQ.cg hs4 ((hR179 0 2 rfl).trans (hR177 0 2 rfl)) ((hR179 173 2 rfl).trans (hR177 173 2 rfl))) (by omega)
   by_cases h180 : z13 = 16
   ·
    refine jx_tswI c1 hm 783 rfl ⟨by omega, by omega⟩ (by rw [h180] <;> rfl) rfl ?_
    refine jx_load c1 hm rfl rfl rfl rfl ?_
    refine jx_load c1 hm rfl rfl rfl rfl ?_
    refine jx_load c1 hm rfl rfl rfl rfl ?_
    refine jy_ic c1 hm rfl (by decide) ?_
    refine jy_add c1 hm (b1 + 1) rfl (by omega) ?_
    obtain ⟨z181, kz181, lz181, uz181⟩ := hf ((b1 + 1)).toNat
    refine jx_sald c1 hm rfl ⟨by omega, by omega⟩ kz181 ?_
    refine jv_i c3 hm rfl (plp pj_X11_weeks rfl) rfl rfl ⟨_, _, _, rfl, sh_0⟩ rfl ((ct_X11_weeks_0 (X + 8000 * b1) (by omega) M4 hH4 z181 ⟨by omega, by omega⟩).le (by decide)) (fun z182 M183 ⟨hH183, hR183, lz182, uz182⟩ => ?_)
    refine jx_pop c1 hm rfl rfl ?_
    refine jx_load c1 hm rfl rfl rfl rfl ?_
    refine jx_load c1 hm rfl rfl rfl rfl ?_
    refine jx_load c1 hm rfl rfl rfl rfl ?_
    refine jy_ic c1 hm rfl (by decide) ?_
    refine jy_add c1 hm (b1 + 1) rfl (by omega) ?_
    obtain ⟨z184, kz184, lz184, uz184⟩ := hf ((b1 + 1)).toNat
    refine jx_sald c1 hm rfl ⟨by omega, by omega⟩ kz184 ?_
    refine jv_i c3 hm rfl (plp pj_X12_weeks rfl) rfl rfl ⟨_, _, _, rfl, sh_173⟩ rfl ((ct_X12_weeks_173 (X + 8000 * b1 + 1) (by omega) M183 hH183 z184 ⟨by omega, by omega⟩).le (by decide)) (fun z185 M186 ⟨hH186, hR186, lz185, uz185⟩ => ?_)
    refine jx_pop c1 hm rfl rfl ?_
    refine jx_goto c1 hm 1445 rfl rfl ?_
    refine jx_iinc c1 hm (v := (b1 + 6)) (L' := [some (.inr (.inr (.inr 0))), some (.inr (.inr (.inl 0))), some (.inr (.inr (.inl 173))), some (.inr (.inr (.inl 198))), some (.inl (b1 + 6)), o2, o3]) rfl rfl (by omega) (by omega) rfl ?_
    refine jx_goto c1 hm 23 rfl rfl ?_
    exact ihW9 (b1 + 6) (by omega) o2 ho2 o3 ho3 M186 (hH186.mono (by omega) (by omega)) k (by omega) (SOK.cg hs1 (fun j h1 h2 => ((hR186 175 j (jin_hi (b := 234) (by decide +kernel) h1)).trans (hR183 175 j rfl)))) (KOK.cg hs2 (fun j h1 h2 => ((hR186 177 j rfl).trans (hR183 177 j rfl)))) (KOK.cg hs3 (fun j h1 h2 => ((hR186 177 j rfl).trans (hR183 177 j rfl)))) (TPQ.cg hs4 ((hR186 0 2 rfl).trans (hR183 0 2 rfl)) ((hR186 173 2 rfl).trans (hR183 173 2 rfl))) (by omega)
   by_cases h187 : z13 = 17
   ·
    refine jx_tswI c1 hm 808 rfl ⟨by omega, by omega⟩ (by rw [h187] <;> rfl) rfl ?_
    refine jx_load c1 hm rfl rfl rfl rfl ?_
    refine jv_i c3 hm rfl (plp pj_X11_undo rfl) rfl rfl ⟨_, _, _, rfl, sh_0⟩ rfl ((ct_X11_undo_0 (X + 8000 * b1) (by omega) M4 hH4 ).le (by decide)) (fun z188 M189 ⟨hH189, hR189, lz188, uz188⟩ => ?_)
    refine jx_pop c1 hm rfl rfl ?_
    refine jx_load c1 hm rfl rfl rfl rfl ?_
    refine jv_i c3 hm rfl (plp pj_X12_undo rfl) rfl rfl ⟨_, _, _, rfl, sh_173⟩ rfl ((ct_X12_undo_173 (X + 8000 * b1) (by omega) M189 hH189 ).le (by decide)) (fun z190 M191 ⟨hH191, hR191, lz190, uz190⟩ => ?_)
    refine jx_pop c1 hm rfl rfl ?_
    refine jx_goto c1 hm 1445 rfl rfl ?_
    refine jx_iinc c1 hm (v := (b1 + 6)) (L' := [some (.inr (.inr (.inr 0))), some (.inr (.inr (.inl 0))), some (.inr (.inr (.inl 173))), some (.inr (.inr (.inl 198))), some (.inl (b1 + 6)), o2, o3]) rfl rfl (by omega) (by omega) rfl ?_
    refine jx_goto c1 hm 23 rfl rfl ?_
    exact ihW9 (b1 + 6) (by omega) o2 ho2 o3 ho3 M191 (hH191.mono (by omega) (by omega)) k (by omega) (SOK.cg hs1 (fun j h1 h2 => ((hR191 175 j (jin_hi (b := 234) (by decide +kernel) h1)).trans (hR189 175 j rfl)))) (KOK.cg hs2 (fun j h1 h2 => ((hR191 177 j rfl).trans (hR189 177 j rfl)))) (KOK.cg hs3 (fun j h1 h2 => ((hR191 177 j rfl).trans (hR189 177 j rfl)))) (TPQ.cg hs4 ((hR191 0 2 rfl).trans (hR189 0 2 rfl)) ((hR191 173 2 rfl).trans (hR189 173 2 rfl))) (by omega)
   by_cases h192 : z13 = 18
   ·
    refine jx_tswI c1 hm 821 rfl ⟨by omega, by omega⟩ (by rw [h192] <;> rfl) rfl ?_
    refine jx_load c1 hm rfl rfl rfl rfl ?_
    refine jv_i c3 hm rfl (plp pj_X11_ring rfl) rfl rfl ⟨_, _, _, rfl, sh_0⟩ rfl ((ct_X11_ring_0 (X + 8000 * b1) (by omega) M4 hH4 ).le (by decide)) (fun z193 M194 ⟨hH194, hR194, lz193, uz193⟩ => ?_)
    refine jx_pop c1 hm rfl rfl ?_
    refine jx_load c1 hm rfl rfl rfl rfl ?_
    refine jv_i c3 hm rfl (plp pj_X12_ring rfl) rfl rfl ⟨_, _, _, rfl, sh_173⟩ rfl ((ct_X12_ring_173 (X + 8000 * b1) (by omega) M194 hH194 ).le (by decide)) (fun z195 M196 ⟨hH196, hR196, lz195, uz195⟩ => ?_)
    refine jx_pop c1 hm rfl rfl ?_
    refine jx_goto c1 hm 1445 rfl rfl ?_
    refine jx_iinc c1 hm (v := (b1 + 6)) (L' := [some (.inr (.inr (.inr 0))), some (.inr (.inr (.inl 0))), some (.inr (.inr (.inl 173))), some (.inr (.inr (.inl 198))), some (.inl (b1 + 6)), o2, o3]) rfl rfl (by omega) (by omega) rfl ?_
    refine jx_goto c1 hm 23 rfl rfl ?_
    exact ihW9 (b1 + 6) (by omega) o2 ho2 o3 ho3 M196 (hH196.mono (by omega) (by omega)) k (by omega) (SOK.cg hs1 (fun j h1 h2 => ((hR196 175 j rfl).trans (hR194 175 j rfl)))) (KOK.cg hs2 (fun j h1 h2 => ((hR196 177 j rfl).trans (hR194 177 j rfl)))) (KOK.cg hs3 (fun j h1 h2 => ((hR196 177 j rfl).trans (hR194 177 j rfl)))) (TPQ.cg hs4 ((hR196 0 2 rfl).trans (hR194 0 2 rfl)) ((hR196 173 2 rfl).trans (hR194 173 2 rfl))) (by omega)
   by_cases h197 : z13 = 19
   ·
    refine jx_tswI c1 hm 834 rfl ⟨by omega, by omega⟩ (by rw [h197] <;> rfl) rfl ?_
    refine jx_load c1 hm rfl rfl rfl rfl ?_
    refine jx_load c1 hm rfl rfl rfl rfl ?_
    refine jx_load c1 hm rfl rfl rfl rfl ?_
    refine jy_ic c1 hm rfl (by decide) ?_
    refine jy_add c1 hm (b1 + 1) rfl (by omega) ?_
    obtain ⟨z198, kz198, lz198, uz198⟩ := hf ((b1 + 1)).toNat
    refine jx_sald c1 hm rfl ⟨by omega, by omega⟩ kz198 ?_
    refine jv_i c3 hm rfl (plp pj_X11_ringAt rfl) rfl rfl ⟨_, _, _, rfl, sh_0⟩ rfl ((ct_X11_ringAt_0 (X + 8000 * b1) (by omega) M4 hH4 z198 ⟨by omega, by omega⟩).le (by decide)) (fun z199 _ ⟨rfl, lz199, uz199⟩ => ?_)
    refine jx_pop c1 hm rfl rfl ?_
    refine jx_load c1 hm rfl rfl rfl rfl ?_
    refine jx_load c1 hm rfl rfl rfl rfl ?_
    refine jx_load c1 hm rfl rfl rfl rfl ?_
    refine jy_ic c1 hm rfl (by decide) ?_
    refine jy_add c1 hm (b1 + 1) rfl (by omega) ?_
    obtain ⟨z200, kz200, lz200, uz200⟩ := hf ((b1 + 1)).toNat
    refine jx_sald c1 hm rfl ⟨by omega, by omega⟩ kz200 ?_
    refine jv_i c3 hm rfl (plp pj_X12_ringAt rfl) rfl rfl ⟨_, _, _, rfl, sh_173⟩ rfl ((ct_X12_ringAt_173 (X + 8000 * b1) (by omega) M4 hH4 z200 ⟨by omega, by omega⟩).le (by decide)) (fun z201 M202 ⟨hH202, hR202, lz201, uz201⟩ => ?_)
    refine jx_pop c1 hm rfl rfl ?_
    refine jx_goto c1 hm 1445 rfl rfl ?_
    refine jx_iinc c1 hm (v := (b1 + 6)) (L' := [some (.inr (.inr (.inr 0))), some (.inr (.inr (.inl 0))), some (.inr (.inr (.inl 173))), some (.inr (.inr (.inl 198))), some (.inl (b1 + 6)), o2, o3]) rfl rfl (by omega) (by omega) rfl ?_
    refine jx_goto c1 hm 23 rfl rfl ?_
    exact ihW9 (b1 + 6) (by omega) o2 ho2 o3 ho3 M202 (hH202.mono (by omega) (by omega)) k (by omega) (SOK.cg hs1 (fun j h1 h2 => (hR202 175 j rfl))) (KOK.cg hs2 (fun j h1 h2 => (hR202 177 j rfl))) (KOK.cg hs3 (fun j h1 h2 => (hR202 177 j rfl))) (TPQ.cg hs4 (hR202 0 2 rfl) (hR202 173 2 rfl)) (by omega)
   by_cases h203 : z13 = 20
   ·
    refine jx_tswI c1 hm 859 rfl ⟨by omega, by omega⟩ (by rw [h203] <;> rfl) rfl ?_
    refine jx_load c1 hm rfl rfl rfl rfl ?_
    refine jx_load c1 hm rfl rfl rfl rfl ?_
    refine jx_load c1 hm rfl rfl rfl rfl ?_
    refine jy_ic c1 hm rfl (by decide) ?_
    refine jy_add c1 hm (b1 + 1) rfl (by omega) ?_
    obtain ⟨z204, kz204, lz204, uz204⟩ := hf ((b1 + 1)).toNat
    refine jx_sald c1 hm rfl ⟨by omega, by omega⟩ kz204 ?_
    refine jx_load c1 hm rfl rfl rfl rfl ?_
    refine jx_load c1 hm rfl rfl rfl rfl ?_
    refine jy_ic c1 hm rfl (by decide) ?_
    refine jy_add c1 hm (b1 + 2) rfl (by omega) ?_
    obtain ⟨z205, kz205, lz205, uz205⟩ := hf ((b1 + 2)).toNat
    refine jx_sald c1 hm rfl ⟨by omega, by omega⟩ kz205 ?_
    refine jv_i c3 hm rfl (plp pj_X11_plan rfl) rfl rfl ⟨_, _, _, rfl, sh_0⟩ rfl ((ct_X11_plan_0 (X + 8000 * b1) (by omega) M4 hH4 z204 ⟨by omega, by omega⟩ z205 ⟨by omega, by omega⟩).le (by decide)) (fun z206 M207 ⟨hH207, hR207, lz206, uz206⟩ => ?_)
    refine jx_pop c1 hm rfl rfl ?_
    refine jx_load c1 hm rfl rfl rfl rfl ?_
    refine jx_load c1 hm rfl rfl rfl rfl ?_
    refine jx_load c1 hm rfl rfl rfl rfl ?_
    refine jy_ic c1 hm rfl (by decide) ?_
    refine jy_add c1 hm (b1 + 1) rfl (by omega) ?_
    obtain ⟨z208, kz208, lz208, uz208⟩ := hf ((b1 + 1)).toNat
    refine jx_sald c1 hm rfl ⟨by omega, by omega⟩ kz208 ?_
    refine jx_load c1 hm rfl rfl rfl rfl ?_
    refine jx_load c1 hm rfl rfl rfl rfl ?_
    refine jy_ic c1 hm rfl (by decide) ?_
    refine jy_add c1 hm (b1 + 2) rfl (by omega) ?_
    obtain ⟨z209, kz209, lz209, uz209⟩ := hf ((b1 + 2)).toNat
    refine jx_sald c1 hm rfl ⟨by omega, by omega⟩ kz209 ?_
    refine jv_i c3 hm rfl (plp pj_X12_plan rfl) rfl rfl ⟨_, _, _, rfl, sh_173⟩ rfl ((ct_X12_plan_173 (X + 8000 * b1) (by omega) M207 hH207 z208 ⟨by omega, by omega⟩ z209 ⟨by omega, by omega⟩).le (by decide)) (fun z210 M211 ⟨hH211, hR211, lz210, uz210⟩ => ?_)
    refine jx_pop c1 hm rfl rfl ?_
    refine jx_goto c1 hm 1445 rfl rfl ?_
    refine jx_iinc c1 hm (v := (b1 + 6)) (L' := [some (.inr (.inr (.inr 0))), some (.inr (.inr (.inl 0))), some (.inr (.inr (.inl 173))), some (.inr (.inr (.inl 198))), some (.inl (b1 + 6)), o2, o3]) rfl rfl (by omega) (by omega) rfl ?_
    refine jx_goto c1 hm 23 rfl rfl ?_
    exact ihW9 (b1 + 6) (by omega) o2 ho2 o3 ho3 M211 (hH211.mono (by omega) (by omega)) k (by omega) (SOK.cg hs1 (fun j h1 h2 => ((hR211 175 j rfl).trans (hR207 175 j rfl)))) (KOK.cg hs2 (fun j h1 h2 => ((hR211 177 j rfl).trans (hR207 177 j rfl)))) (KOK.cg hs3 (fun j h1 h2 => ((hR211 177 j rfl).trans (hR207 177 j rfl)))) (TPQ.cg hs4 ((hR211 0 2 rfl).trans (hR207 0 2 rfl)) ((hR211 173 2 rfl).trans (hR207 173 2 rfl))) (by omega)
   by_cases h212 : z13 = 21
   ·
    refine jx_tswI c1 hm 896 rfl ⟨by omega, by omega⟩ (by rw [h212] <;> rfl) rfl ?_
    refine jx_load c1 hm rfl rfl rfl rfl ?_
    refine jx_load c1 hm rfl rfl rfl rfl ?_
    refine jx_load c1 hm rfl rfl rfl rfl ?_
    refine jy_ic c1 hm rfl (by decide) ?_
    refine jy_add c1 hm (b1 + 1) rfl (by omega) ?_
    obtain ⟨z213, kz213, lz213, uz213⟩ := hf ((b1 + 1)).toNat
    refine jx_sald c1 hm rfl ⟨by omega, by omega⟩ kz213 ?_
    refine jv_i c3 hm rfl (plp pj_X11_planned rfl) rfl rfl ⟨_, _, _, rfl, sh_0⟩ rfl ((ct_X11_planned_0 (X + 8000 * b1) (by omega) M4 hH4 z213 ⟨by omega, by omega⟩).le (by decide)) (fun z214 _ ⟨rfl, lz214, uz214⟩ => ?_)
    refine jx_pop c1 hm rfl rfl ?_
    refine jx_load c1 hm rfl rfl rfl rfl ?_
    refine jx_load c1 hm rfl rfl rfl rfl ?_
    refine jx_load c1 hm rfl rfl rfl rfl ?_
    refine jy_ic c1 hm rfl (by decide) ?_
    refine jy_add c1 hm (b1 + 1) rfl (by omega) ?_
    obtain ⟨z215, kz215, lz215, uz215⟩ := hf ((b1 + 1)).toNat
    refine jx_sald c1 hm rfl ⟨by omega, by omega⟩ kz215 ?_
    refine jv_i c3 hm rfl (plp pj_X12_planned rfl) rfl rfl ⟨_, _, _, rfl, sh_173⟩ rfl ((ct_X12_planned_173 (X + 8000 * b1) (by omega) M4 hH4 z215 ⟨by omega, by omega⟩).le (by decide)) (fun z216 M217 ⟨hH217, hR217, lz216, uz216⟩ => ?_)
    refine jx_pop c1 hm rfl rfl ?_
    refine jx_goto c1 hm 1445 rfl rfl ?_
    refine jx_iinc c1 hm (v := (b1 + 6)) (L' := [some (.inr (.inr (.inr 0))), some (.inr (.inr (.inl 0))), some (.inr (.inr (.inl 173))), some (.inr (.inr (.inl 198))), some (.inl (b1 + 6)), o2, o3]) rfl rfl (by omega) (by omega) rfl ?_
    refine jx_goto c1 hm 23 rfl rfl ?_
    exact ihW9 (b1 + 6) (by omega) o2 ho2 o3 ho3 M217 (hH217.mono (by omega) (by omega)) k (by omega) (SOK.cg hs1 (fun j h1 h2 => (hR217 175 j rfl))) (KOK.cg hs2 (fun j h1 h2 => (hR217 177 j rfl))) (KOK.cg hs3 (fun j h1 h2 => (hR217 177 j rfl))) (TPQ.cg hs4 (hR217 0 2 rfl) (hR217 173 2 rfl)) (by omega)
   by_cases h218 : z13 = 22
   ·
    refine jx_tswI c1 hm 921 rfl ⟨by omega, by omega⟩ (by rw [h218] <;> rfl) rfl ?_
    refine jx_load c1 hm rfl rfl rfl rfl ?_
    refine jx_load c1 hm rfl rfl rfl rfl ?_
    refine jx_load c1 hm rfl rfl rfl rfl ?_
    refine jy_ic c1 hm rfl (by decide) ?_
    refine jy_add c1 hm (b1 + 1) rfl (by omega) ?_
    obtain ⟨z219, kz219, lz219, uz219⟩ := hf ((b1 + 1)).toNat
    refine jx_sald c1 hm rfl ⟨by omega, by omega⟩ kz219 ?_
    refine jx_load c1 hm rfl rfl rfl rfl ?_
    refine jx_load c1 hm rfl rfl rfl rfl ?_
    refine jy_ic c1 hm rfl (by decide) ?_
    refine jy_add c1 hm (b1 + 2) rfl (by omega) ?_
    obtain ⟨z220, kz220, lz220, uz220⟩ := hf ((b1 + 2)).toNat
    refine jx_sald c1 hm rfl ⟨by omega, by omega⟩ kz220 ?_
    refine jv_i c3 hm rfl (plp pj_X11_lasts rfl) rfl rfl ⟨_, _, _, rfl, sh_0⟩ rfl ((ct_X11_lasts_0 (X + 8000 * b1) (by omega) M4 hH4 z219 ⟨by omega, by omega⟩ z220 ⟨by omega, by omega⟩).le (by decide)) (fun z221 _ ⟨rfl, lz221, uz221⟩ => ?_)
    refine jx_pop c1 hm rfl rfl ?_
    refine jx_load c1 hm rfl rfl rfl rfl ?_
    refine jx_load c1 hm rfl rfl rfl rfl ?_
    refine jx_load c1 hm rfl rfl rfl rfl ?_
    refine jy_ic c1 hm rfl (by decide) ?_
    refine jy_add c1 hm (b1 + 1) rfl (by omega) ?_
    obtain ⟨z222, kz222, lz222, uz222⟩ := hf ((b1 + 1)).toNat
    refine jx_sald c1 hm rfl ⟨by omega, by omega⟩ kz222 ?_
    refine jx_load c1 hm rfl rfl rfl rfl ?_
    refine jx_load c1 hm rfl rfl rfl rfl ?_
    refine jy_ic c1 hm rfl (by decide) ?_
    refine jy_add c1 hm (b1 + 2) rfl (by omega) ?_
    obtain ⟨z223, kz223, lz223, uz223⟩ := hf ((b1 + 2)).toNat
    refine jx_sald c1 hm rfl ⟨by omega, by omega⟩ kz223 ?_
    refine jv_i c3 hm rfl (plp pj_X12_lasts rfl) rfl rfl ⟨_, _, _, rfl, sh_173⟩ rfl ((ct_X12_lasts_173 (X + 8000 * b1) (by omega) M4 hH4 z222 ⟨by omega, by omega⟩ z223 ⟨by omega, by omega⟩).le (by decide)) (fun z224 M225 ⟨hH225, hR225, lz224, uz224⟩ => ?_)
    refine jx_pop c1 hm rfl rfl ?_
    refine jx_goto c1 hm 1445 rfl rfl ?_
    refine jx_iinc c1 hm (v := (b1 + 6)) (L' := [some (.inr (.inr (.inr 0))), some (.inr (.inr (.inl 0))), some (.inr (.inr (.inl 173))), some (.inr (.inr (.inl 198))), some (.inl (b1 + 6)), o2, o3]) rfl rfl (by omega) (by omega) rfl ?_
    refine jx_goto c1 hm 23 rfl rfl ?_
    exact ihW9 (b1 + 6) (by omega) o2 ho2 o3 ho3 M225 (hH225.mono (by omega) (by omega)) k (by omega) (SOK.cg hs1 (fun j h1 h2 => (hR225 175 j rfl))) (KOK.cg hs2 (fun j h1 h2 => (hR225 177 j rfl))) (KOK.cg hs3 (fun j h1 h2 => (hR225 177 j rfl))) (TPQ.cg hs4 (hR225 0 2 rfl) (hR225 173 2 rfl)) (by omega)
   by_cases h226 : z13 = 23
   ·
    refine jx_tswI c1 hm 958 rfl ⟨by omega, by omega⟩ (by rw [h226] <;> rfl) rfl ?_
    refine jx_load c1 hm rfl rfl rfl rfl ?_
    refine jx_load c1 hm rfl rfl rfl rfl ?_
    refine jx_load c1 hm rfl rfl rfl rfl ?_
    refine jy_ic c1 hm rfl (by decide) ?_
    refine jy_add c1 hm (b1 + 1) rfl (by omega) ?_
    obtain ⟨z227, kz227, lz227, uz227⟩ := hf ((b1 + 1)).toNat
    refine jx_sald c1 hm rfl ⟨by omega, by omega⟩ kz227 ?_
    refine jx_load c1 hm rfl rfl rfl rfl ?_
    refine jx_load c1 hm rfl rfl rfl rfl ?_
    refine jy_ic c1 hm rfl (by decide) ?_
    refine jy_add c1 hm (b1 + 2) rfl (by omega) ?_
    obtain ⟨z228, kz228, lz228, uz228⟩ := hf ((b1 + 2)).toNat
    refine jx_sald c1 hm rfl ⟨by omega, by omega⟩ kz228 ?_
    refine jv_i c3 hm rfl (plp pj_X11_worth rfl) rfl rfl ⟨_, _, _, rfl, sh_0⟩ rfl ((ct_X11_worth_0 (X + 8000 * b1) (by omega) M4 hH4 z227 ⟨by omega, by omega⟩ z228 ⟨by omega, by omega⟩).le (by decide)) (fun z229 _ ⟨rfl, lz229, uz229⟩ => ?_)
    refine jx_pop c1 hm rfl rfl ?_
    refine jx_load c1 hm rfl rfl rfl rfl ?_
    refine jx_load c1 hm rfl rfl rfl rfl ?_
    refine jx_load c1 hm rfl rfl rfl rfl ?_
    refine jy_ic c1 hm rfl (by decide) ?_
    refine jy_add c1 hm (b1 + 1) rfl (by omega) ?_
    obtain ⟨z230, kz230, lz230, uz230⟩ := hf ((b1 + 1)).toNat
    refine jx_sald c1 hm rfl ⟨by omega, by omega⟩ kz230 ?_
    refine jx_load c1 hm rfl rfl rfl rfl ?_
    refine jx_load c1 hm rfl rfl rfl rfl ?_
    refine jy_ic c1 hm rfl (by decide) ?_
    refine jy_add c1 hm (b1 + 2) rfl (by omega) ?_
    obtain ⟨z231, kz231, lz231, uz231⟩ := hf ((b1 + 2)).toNat
    refine jx_sald c1 hm rfl ⟨by omega, by omega⟩ kz231 ?_
    refine jv_i c3 hm rfl (plp pj_X12_worth rfl) rfl rfl ⟨_, _, _, rfl, sh_173⟩ rfl ((ct_X12_worth_173 (X + 8000 * b1) (by omega) M4 hH4 z230 ⟨by omega, by omega⟩ z231 ⟨by omega, by omega⟩).le (by decide)) (fun z232 M233 ⟨hH233, hR233, lz232, uz232⟩ => ?_)
    refine jx_pop c1 hm rfl rfl ?_
    refine jx_goto c1 hm 1445 rfl rfl ?_
    refine jx_iinc c1 hm (v := (b1 + 6)) (L' := [some (.inr (.inr (.inr 0))), some (.inr (.inr (.inl 0))), some (.inr (.inr (.inl 173))), some (.inr (.inr (.inl 198))), some (.inl (b1 + 6)), o2, o3]) rfl rfl (by omega) (by omega) rfl ?_
    refine jx_goto c1 hm 23 rfl rfl ?_
    exact ihW9 (b1 + 6) (by omega) o2 ho2 o3 ho3 M233 (hH233.mono (by omega) (by omega)) k (by omega) (SOK.cg hs1 (fun j h1 h2 => (hR233 175 j rfl))) (KOK.cg hs2 (fun j h1 h2 => (hR233 177 j rfl))) (KOK.cg hs3 (fun j h1 h2 => (hR233 177 j rfl))) (TPQ.cg hs4 (hR233 0 2 rfl) (hR233 173 2 rfl)) (by omega)
   by_cases h234 : z13 = 24
   ·
    refine jx_tswI c1 hm 995 rfl ⟨by omega, by omega⟩ (by rw [h234] <;> rfl) rfl ?_
    refine jx_load c1 hm rfl rfl rfl rfl ?_
    refine jv_i c3 hm rfl (plp pj_X11_even rfl) rfl rfl ⟨_, _, _, rfl, sh_0⟩ rfl ((ct_X11_even_0 (X + 8000 * b1) (by omega) M4 hH4 ).le (by decide)) (fun z235 M236 ⟨hH236, hR236, lz235, uz235⟩ => ?_)
    refine jx_pop c1 hm rfl rfl ?_
    refine jx_load c1 hm rfl rfl rfl rfl ?_
    refine jv_i c3 hm rfl (plp pj_X12_even rfl) rfl rfl ⟨_, _, _, rfl, sh_173⟩ rfl ((ct_X12_even_173 (X + 8000 * b1) (by omega) M236 hH236 ).le (by decide)) (fun z237 M238 ⟨hH238, hR238, lz237, uz237⟩ => ?_)
    refine jx_pop c1 hm rfl rfl ?_
    refine jx_goto c1 hm 1445 rfl rfl ?_
    refine jx_iinc c1 hm (v := (b1 + 6)) (L' := [some (.inr (.inr (.inr 0))), some (.inr (.inr (.inl 0))), some (.inr (.inr (.inl 173))), some (.inr (.inr (.inl 198))), some (.inl (b1 + 6)), o2, o3]) rfl rfl (by omega) (by omega) rfl ?_
    refine jx_goto c1 hm 23 rfl rfl ?_
    exact ihW9 (b1 + 6) (by omega) o2 ho2 o3 ho3 M238 (hH238.mono (by omega) (by omega)) k (by omega) (SOK.cg hs1 (fun j h1 h2 => ((hR238 175 j rfl).trans (hR236 175 j rfl)))) (KOK.cg hs2 (fun j h1 h2 => ((hR238 177 j rfl).trans (hR236 177 j rfl)))) (KOK.cg hs3 (fun j h1 h2 => ((hR238 177 j rfl).trans (hR236 177 j rfl)))) (TPQ.cg hs4 ((hR238 0 2 rfl).trans (hR236 0 2 rfl)) ((hR238 173 2 rfl).trans (hR236 173 2 rfl))) (by omega)
   by_cases h239 : z13 = 25
   ·
    refine jx_tswI c1 hm 1008 rfl ⟨by omega, by omega⟩ (by rw [h239] <;> rfl) rfl ?_
    refine jx_load c1 hm rfl rfl rfl rfl ?_
    refine jv_i c3 hm rfl (plp pj_X11_fits rfl) rfl rfl ⟨_, _, _, rfl, sh_0⟩ rfl ((ct_X11_fits_0t (X + 8000 * b1) (by omega) M4 hH4 ).le (by decide)) (fun z240 M242 ⟨hH242, hR242, lz240, uz240, p241⟩ => ?_)
    obtain ⟨z243, k244, lz243, uz243⟩ := hH242.ld (c := 0) (i := 2) (A := 0) (B := 940) (bs_18_1 _ _ (by omega) (by omega))
    refine jx_pop c1 hm rfl rfl ?_
    refine jx_load c1 hm rfl rfl rfl rfl ?_
    refine jv_i c3 hm rfl (plp pj_X12_fits rfl) rfl rfl ⟨_, _, _, rfl, sh_173⟩ rfl ((ct_X12_fits_173t (X + 8000 * b1) (by omega) M242 hH242 ).le (by decide)) (fun z245 M247 ⟨hH247, hR247, lz245, uz245, p246⟩ => ?_)
    obtain ⟨z248, k249, lz248, uz248⟩ := hH247.ld (c := 173) (i := 2) (A := 0) (B := 940) (bs_28_1 _ _ (by omega) (by omega))
    refine jx_pop c1 hm rfl rfl ?_
    refine jx_goto c1 hm 1445 rfl rfl ?_
    refine jx_iinc c1 hm (v := (b1 + 6)) (L' := [some (.inr (.inr (.inr 0))), some (.inr (.inr (.inl 0))), some (.inr (.inr (.inl 173))), some (.inr (.inr (.inl 198))), some (.inl (b1 + 6)), o2, o3]) rfl rfl (by omega) (by omega) rfl ?_
    refine jx_goto c1 hm 23 rfl rfl ?_
    exact ihW9 (b1 + 6) (by omega) o2 ho2 o3 ho3 M247 (hH247.mono (by omega) (by omega)) k (by omega) (SOK.cg hs1 (fun j h1 h2 => ((hR247 175 j rfl).trans (hR242 175 j rfl)))) (KOK.cg hs2 (fun j h1 h2 => ((hR247 177 j rfl).trans (hR242 177 j rfl)))) (KOK.cg hs3 (fun j h1 h2 => ((hR247 177 j rfl).trans (hR242 177 j rfl)))) (TPQ.of (by have y9 := hs4.e; have y90_0 := hR247 0 2 rfl; have y91_173 := hR242 173 2 rfl; omega)) (by omega)
   by_cases h250 : z13 = 26
   ·
    refine jx_tswI c1 hm 1021 rfl ⟨by omega, by omega⟩ (by rw [h250] <;> rfl) rfl ?_
    refine jx_load c1 hm rfl rfl rfl rfl ?_
    refine jv_i c3 hm rfl (plp pj_X11_tells rfl) rfl rfl ⟨_, _, _, rfl, sh_0⟩ rfl ((ct_X11_tells_0 (X + 8000 * b1) (by omega) M4 hH4 ).le (by decide)) (fun z251 _ ⟨rfl, lz251, uz251⟩ => ?_)
    refine jx_pop c1 hm rfl rfl ?_
    refine jx_load c1 hm rfl rfl rfl rfl ?_
    refine jv_i c3 hm rfl (plp pj_X12_tells rfl) rfl rfl ⟨_, _, _, rfl, sh_173⟩ rfl ((ct_X12_tells_173 (X + 8000 * b1) (by omega) M4 hH4 ).le (by decide)) (fun z252 M253 ⟨hH253, hR253, lz252, uz252⟩ => ?_)
    refine jx_pop c1 hm rfl rfl ?_
    refine jx_goto c1 hm 1445 rfl rfl ?_
    refine jx_iinc c1 hm (v := (b1 + 6)) (L' := [some (.inr (.inr (.inr 0))), some (.inr (.inr (.inl 0))), some (.inr (.inr (.inl 173))), some (.inr (.inr (.inl 198))), some (.inl (b1 + 6)), o2, o3]) rfl rfl (by omega) (by omega) rfl ?_
    refine jx_goto c1 hm 23 rfl rfl ?_
    exact ihW9 (b1 + 6) (by omega) o2 ho2 o3 ho3 M253 (hH253.mono (by omega) (by omega)) k (by omega) (SOK.cg hs1 (fun j h1 h2 => (hR253 175 j rfl))) (KOK.cg hs2 (fun j h1 h2 => (hR253 177 j rfl))) (KOK.cg hs3 (fun j h1 h2 => (hR253 177 j rfl))) (TPQ.cg hs4 (hR253 0 2 rfl) (hR253 173 2 rfl)) (by omega)
   by_cases h254 : z13 = 27
   ·
    refine jx_tswI c1 hm 1034 rfl ⟨by omega, by omega⟩ (by rw [h254] <;> rfl) rfl ?_
    refine jx_load c1 hm rfl rfl rfl rfl ?_
    refine jx_load c1 hm rfl rfl rfl rfl ?_
    refine jx_load c1 hm rfl rfl rfl rfl ?_
    refine jy_ic c1 hm rfl (by decide) ?_
    refine jy_add c1 hm (b1 + 1) rfl (by omega) ?_
    obtain ⟨z255, kz255, lz255, uz255⟩ := hf ((b1 + 1)).toNat
    refine jx_sald c1 hm rfl ⟨by omega, by omega⟩ kz255 ?_
    refine jx_load c1 hm rfl rfl rfl rfl ?_
    refine jx_load c1 hm rfl rfl rfl rfl ?_
    refine jy_ic c1 hm rfl (by decide) ?_
    refine jy_add c1 hm (b1 + 2) rfl (by omega) ?_
    obtain ⟨z256, kz256, lz256, uz256⟩ := hf ((b1 + 2)).toNat
    refine jx_sald c1 hm rfl ⟨by omega, by omega⟩ kz256 ?_
    refine jx_load c1 hm rfl rfl rfl rfl ?_
    refine jx_load c1 hm rfl rfl rfl rfl ?_
    refine jy_ic c1 hm rfl (by decide) ?_
    refine jy_add c1 hm (b1 + 3) rfl (by omega) ?_
    obtain ⟨z257, kz257, lz257, uz257⟩ := hf ((b1 + 3)).toNat
    refine jx_sald c1 hm rfl ⟨by omega, by omega⟩ kz257 ?_
    refine jv_i c3 hm rfl (plp pj_X11_share rfl) rfl rfl ⟨_, _, _, rfl, sh_0⟩ rfl ((ct_X11_share_0 (X + 8000 * b1) (by omega) M4 hH4 z255 ⟨by omega, by omega⟩ z256 ⟨by omega, by omega⟩ z257 ⟨by omega, by omega⟩).le (by decide)) (fun z258 _ ⟨rfl, lz258, uz258⟩ => ?_)
    refine jx_pop c1 hm rfl rfl ?_
    refine jx_load c1 hm rfl rfl rfl rfl ?_
    refine jx_load c1 hm rfl rfl rfl rfl ?_
    refine jx_load c1 hm rfl rfl rfl rfl ?_
    refine jy_ic c1 hm rfl (by decide) ?_
    refine jy_add c1 hm (b1 + 1) rfl (by omega) ?_
    obtain ⟨z259, kz259, lz259, uz259⟩ := hf ((b1 + 1)).toNat
    refine jx_sald c1 hm rfl ⟨by omega, by omega⟩ kz259 ?_
    refine jx_load c1 hm rfl rfl rfl rfl ?_
    refine jx_load c1 hm rfl rfl rfl rfl ?_
    refine jy_ic c1 hm rfl (by decide) ?_
    refine jy_add c1 hm (b1 + 2) rfl (by omega) ?_
    obtain ⟨z260, kz260, lz260, uz260⟩ := hf ((b1 + 2)).toNat
    refine jx_sald c1 hm rfl ⟨by omega, by omega⟩ kz260 ?_
    refine jx_load c1 hm rfl rfl rfl rfl ?_
    refine jx_load c1 hm rfl rfl rfl rfl ?_
    refine jy_ic c1 hm rfl (by decide) ?_
    refine jy_add c1 hm (b1 + 3) rfl (by omega) ?_
    obtain ⟨z261, kz261, lz261, uz261⟩ := hf ((b1 + 3)).toNat
    refine jx_sald c1 hm rfl ⟨by omega, by omega⟩ kz261 ?_
    refine jv_i c3 hm rfl (plp pj_X12_share rfl) rfl rfl ⟨_, _, _, rfl, sh_173⟩ rfl ((ct_X12_share_173 (X + 8000 * b1) (by omega) M4 hH4 z259 ⟨by omega, by omega⟩ z260 ⟨by omega, by omega⟩ z261 ⟨by omega, by omega⟩).le (by decide)) (fun z262 M263 ⟨hH263, hR263, lz262, uz262⟩ => ?_)
    refine jx_pop c1 hm rfl rfl ?_
    refine jx_goto c1 hm 1445 rfl rfl ?_
    refine jx_iinc c1 hm (v := (b1 + 6)) (L' := [some (.inr (.inr (.inr 0))), some (.inr (.inr (.inl 0))), some (.inr (.inr (.inl 173))), some (.inr (.inr (.inl 198))), some (.inl (b1 + 6)), o2, o3]) rfl rfl (by omega) (by omega) rfl ?_
    refine jx_goto c1 hm 23 rfl rfl ?_
    exact ihW9 (b1 + 6) (by omega) o2 ho2 o3 ho3 M263 (hH263.mono (by omega) (by omega)) k (by omega) (SOK.cg hs1 (fun j h1 h2 => (hR263 175 j rfl))) (KOK.cg hs2 (fun j h1 h2 => (hR263 177 j rfl))) (KOK.cg hs3 (fun j h1 h2 => (hR263 177 j rfl))) (TPQ.cg hs4 (hR263 0 2 rfl) (hR263 173 2 rfl)) (by omega)
   by_cases h264 : z13 = 28
   ·
    refine jx_tswI c1 hm 1083 rfl ⟨by omega, by omega⟩ (by rw [h264] <;> rfl) rfl ?_
    refine jx_load c1 hm rfl rfl rfl rfl ?_
    refine jx_load c1 hm rfl rfl rfl rfl ?_
    refine jx_load c1 hm rfl rfl rfl rfl ?_
    refine jy_ic c1 hm rfl (by decide) ?_
    refine jy_add c1 hm (b1 + 1) rfl (by omega) ?_
    obtain ⟨z265, kz265, lz265, uz265⟩ := hf ((b1 + 1)).toNat
    refine jx_sald c1 hm rfl ⟨by omega, by omega⟩ kz265 ?_
    refine jv_i c3 hm rfl (plp pj_X11_tax rfl) rfl rfl ⟨_, _, _, rfl, sh_0⟩ rfl ((ct_X11_tax_0 (X + 8000 * b1) (by omega) M4 hH4 z265 ⟨by omega, by omega⟩).le (by decide)) (fun z266 M267 ⟨hH267, hR267, lz266, uz266⟩ => ?_)
    refine jx_pop c1 hm rfl rfl ?_
    refine jx_load c1 hm rfl rfl rfl rfl ?_
    refine jx_load c1 hm rfl rfl rfl rfl ?_
    refine jx_load c1 hm rfl rfl rfl rfl ?_
    refine jy_ic c1 hm rfl (by decide) ?_
    refine jy_add c1 hm (b1 + 1) rfl (by omega) ?_
    obtain ⟨z268, kz268, lz268, uz268⟩ := hf ((b1 + 1)).toNat
    refine jx_sald c1 hm rfl ⟨by omega, by omega⟩ kz268 ?_
    refine jv_i c3 hm rfl (plp pj_X12_tax rfl) rfl rfl ⟨_, _, _, rfl, sh_173⟩ rfl ((ct_X12_tax_173 (X + 8000 * b1) (by omega) M267 hH267 z268 ⟨by omega, by omega⟩).le (by decide)) (fun z269 M270 ⟨hH270, hR270, lz269, uz269⟩ => ?_)
    refine jx_pop c1 hm rfl rfl ?_
    refine jx_goto c1 hm 1445 rfl rfl ?_
    refine jx_iinc c1 hm (v := (b1 + 6)) (L' := [some (.inr (.inr (.inr 0))), some (.inr (.inr (.inl 0))), some (.inr (.inr (.inl 173))), some (.inr (.inr (.inl 198))), some (.inl (b1 + 6)), o2, o3]) rfl rfl (by omega) (by omega) rfl ?_
    refine jx_goto c1 hm 23 rfl rfl ?_
    exact ihW9 (b1 + 6) (by omega) o2 ho2 o3 ho3 M270 (hH270.mono (by omega) (by omega)) k (by omega) (SOK.cg hs1 (fun j h1 h2 => ((hR270 175 j rfl).trans (hR267 175 j rfl)))) (KOK.cg hs2 (fun j h1 h2 => ((hR270 177 j rfl).trans (hR267 177 j rfl)))) (KOK.cg hs3 (fun j h1 h2 => ((hR270 177 j rfl).trans (hR267 177 j rfl)))) (TPQ.cg hs4 ((hR270 0 2 rfl).trans (hR267 0 2 rfl)) ((hR270 173 2 rfl).trans (hR267 173 2 rfl))) (by omega)
   by_cases h271 : z13 = 29
   ·
    refine jx_tswI c1 hm 1108 rfl ⟨by omega, by omega⟩ (by rw [h271] <;> rfl) rfl ?_
    refine jx_load c1 hm rfl rfl rfl rfl ?_
    refine jx_load c1 hm rfl rfl rfl rfl ?_
    refine jx_load c1 hm rfl rfl rfl rfl ?_
    refine jy_ic c1 hm rfl (by decide) ?_
    refine jy_add c1 hm (b1 + 1) rfl (by omega) ?_
    obtain ⟨z272, kz272, lz272, uz272⟩ := hf ((b1 + 1)).toNat
    refine jx_sald c1 hm rfl ⟨by omega, by omega⟩ kz272 ?_
    refine jv_i c3 hm rfl (plp pj_X11_taxOf rfl) rfl rfl ⟨_, _, _, rfl, sh_0⟩ rfl ((ct_X11_taxOf_0 (X + 8000 * b1) (by omega) M4 hH4 z272 ⟨by omega, by omega⟩).le (by decide)) (fun z273 _ ⟨rfl, lz273, uz273⟩ => ?_)
    refine jx_pop c1 hm rfl rfl ?_
    refine jx_load c1 hm rfl rfl rfl rfl ?_
    refine jx_load c1 hm rfl rfl rfl rfl ?_
    refine jx_load c1 hm rfl rfl rfl rfl ?_
    refine jy_ic c1 hm rfl (by decide) ?_
    refine jy_add c1 hm (b1 + 1) rfl (by omega) ?_
    obtain ⟨z274, kz274, lz274, uz274⟩ := hf ((b1 + 1)).toNat
    refine jx_sald c1 hm rfl ⟨by omega, by omega⟩ kz274 ?_
    refine jv_i c3 hm rfl (plp pj_X12_taxOf rfl) rfl rfl ⟨_, _, _, rfl, sh_173⟩ rfl ((ct_X12_taxOf_173 (X + 8000 * b1) (by omega) M4 hH4 z274 ⟨by omega, by omega⟩).le (by decide)) (fun z275 M276 ⟨hH276, hR276, lz275, uz275⟩ => ?_)
    refine jx_pop c1 hm rfl rfl ?_
    refine jx_goto c1 hm 1445 rfl rfl ?_
    refine jx_iinc c1 hm (v := (b1 + 6)) (L' := [some (.inr (.inr (.inr 0))), some (.inr (.inr (.inl 0))), some (.inr (.inr (.inl 173))), some (.inr (.inr (.inl 198))), some (.inl (b1 + 6)), o2, o3]) rfl rfl (by omega) (by omega) rfl ?_
    refine jx_goto c1 hm 23 rfl rfl ?_
    exact ihW9 (b1 + 6) (by omega) o2 ho2 o3 ho3 M276 (hH276.mono (by omega) (by omega)) k (by omega) (SOK.cg hs1 (fun j h1 h2 => (hR276 175 j rfl))) (KOK.cg hs2 (fun j h1 h2 => (hR276 177 j rfl))) (KOK.cg hs3 (fun j h1 h2 => (hR276 177 j rfl))) (TPQ.cg hs4 (hR276 0 2 rfl) (hR276 173 2 rfl)) (by omega)
   by_cases h277 : z13 = 30
   ·
    refine jx_tswI c1 hm 1133 rfl ⟨by omega, by omega⟩ (by rw [h277] <;> rfl) rfl ?_
    refine jx_load c1 hm rfl rfl rfl rfl ?_
    refine jv_i c3 hm rfl (plp pj_X11_proudest rfl) rfl rfl ⟨_, _, _, rfl, sh_0⟩ rfl ((ct_X11_proudest_0 (X + 8000 * b1) (by omega) M4 hH4 ).le (by decide)) (fun z278 _ ⟨rfl, lz278, uz278⟩ => ?_)
    refine jx_pop c1 hm rfl rfl ?_
    refine jx_load c1 hm rfl rfl rfl rfl ?_
    refine jv_i c3 hm rfl (plp pj_X12_proudest rfl) rfl rfl ⟨_, _, _, rfl, sh_173⟩ rfl ((ct_X12_proudest_173 (X + 8000 * b1) (by omega) M4 hH4 ).le (by decide)) (fun z279 M280 ⟨hH280, hR280, lz279, uz279⟩ => ?_)
    refine jx_pop c1 hm rfl rfl ?_
    refine jx_goto c1 hm 1445 rfl rfl ?_
    refine jx_iinc c1 hm (v := (b1 + 6)) (L' := [some (.inr (.inr (.inr 0))), some (.inr (.inr (.inl 0))), some (.inr (.inr (.inl 173))), some (.inr (.inr (.inl 198))), some (.inl (b1 + 6)), o2, o3]) rfl rfl (by omega) (by omega) rfl ?_
    refine jx_goto c1 hm 23 rfl rfl ?_
    exact ihW9 (b1 + 6) (by omega) o2 ho2 o3 ho3 M280 (hH280.mono (by omega) (by omega)) k (by omega) (SOK.cg hs1 (fun j h1 h2 => (hR280 175 j rfl))) (KOK.cg hs2 (fun j h1 h2 => (hR280 177 j rfl))) (KOK.cg hs3 (fun j h1 h2 => (hR280 177 j rfl))) (TPQ.cg hs4 (hR280 0 2 rfl) (hR280 173 2 rfl)) (by omega)
   by_cases h281 : z13 = 31
   ·
    refine jx_tswI c1 hm 1146 rfl ⟨by omega, by omega⟩ (by rw [h281] <;> rfl) rfl ?_
    refine jx_load c1 hm rfl rfl rfl rfl ?_
    refine jx_load c1 hm rfl rfl rfl rfl ?_
    refine jx_load c1 hm rfl rfl rfl rfl ?_
    refine jy_ic c1 hm rfl (by decide) ?_
    refine jy_add c1 hm (b1 + 1) rfl (by omega) ?_
    obtain ⟨z282, kz282, lz282, uz282⟩ := hf ((b1 + 1)).toNat
    refine jx_sald c1 hm rfl ⟨by omega, by omega⟩ kz282 ?_
    refine jv_i c3 hm rfl (plp pj_X11_list rfl) rfl rfl ⟨_, _, _, rfl, sh_0⟩ rfl ((ct_X11_list_0 (X + 8000 * b1) (by omega) M4 hH4 z282 ⟨by omega, by omega⟩).le (by decide)) (fun z283 M284 ⟨hH284, hR284, lz283, uz283⟩ => ?_)
    refine jx_pop c1 hm rfl rfl ?_
    refine jx_load c1 hm rfl rfl rfl rfl ?_
    refine jx_load c1 hm rfl rfl rfl rfl ?_
    refine jx_load c1 hm rfl rfl rfl rfl ?_
    refine jy_ic c1 hm rfl (by decide) ?_
    refine jy_add c1 hm (b1 + 1) rfl (by omega) ?_
    obtain ⟨z285, kz285, lz285, uz285⟩ := hf ((b1 + 1)).toNat
    refine jx_sald c1 hm rfl ⟨by omega, by omega⟩ kz285 ?_
    refine jv_i c3 hm rfl (plp pj_X12_list rfl) rfl rfl ⟨_, _, _, rfl, sh_173⟩ rfl ((ct_X12_list_173 (X + 8000 * b1) (by omega) M284 hH284 z285 ⟨by omega, by omega⟩).le (by decide)) (fun z286 M287 ⟨hH287, hR287, lz286, uz286⟩ => ?_)
    refine jx_pop c1 hm rfl rfl ?_
    refine jx_goto c1 hm 1445 rfl rfl ?_
    refine jx_iinc c1 hm (v := (b1 + 6)) (L' := [some (.inr (.inr (.inr 0))), some (.inr (.inr (.inl 0))), some (.inr (.inr (.inl 173))), some (.inr (.inr (.inl 198))), some (.inl (b1 + 6)), o2, o3]) rfl rfl (by omega) (by omega) rfl ?_
    refine jx_goto c1 hm 23 rfl rfl ?_
    exact ihW9 (b1 + 6) (by omega) o2 ho2 o3 ho3 M287 (hH287.mono (by omega) (by omega)) k (by omega) (SOK.cg hs1 (fun j h1 h2 => ((hR287 175 j rfl).trans (hR284 175 j rfl)))) (KOK.cg hs2 (fun j h1 h2 => ((hR287 177 j rfl).trans (hR284 177 j rfl)))) (KOK.cg hs3 (fun j h1 h2 => ((hR287 177 j rfl).trans (hR284 177 j rfl)))) (TPQ.cg hs4 ((hR287 0 2 rfl).trans (hR284 0 2 rfl)) ((hR287 173 2 rfl).trans (hR284 173 2 rfl))) (by omega)
   by_cases h288 : z13 = 32
   ·
    refine jx_tswI c1 hm 1171 rfl ⟨by omega, by omega⟩ (by rw [h288] <;> rfl) rfl ?_
    refine jx_load c1 hm rfl rfl rfl rfl ?_
    refine jx_load c1 hm rfl rfl rfl rfl ?_
    refine jx_load c1 hm rfl rfl rfl rfl ?_
    refine jy_ic c1 hm rfl (by decide) ?_
    refine jy_add c1 hm (b1 + 1) rfl (by omega) ?_
    obtain ⟨z289, kz289, lz289, uz289⟩ := hf ((b1 + 1)).toNat
    refine jx_sald c1 hm rfl ⟨by omega, by omega⟩ kz289 ?_
    refine jv_i c3 hm rfl (plp pj_X11_byteAt rfl) rfl rfl ⟨_, _, _, rfl, sh_0⟩ rfl ((ct_X11_byteAt_0 (X + 8000 * b1) (by omega) M4 hH4 z289 ⟨by omega, by omega⟩).le (by decide)) (fun z290 _ ⟨rfl, lz290, uz290⟩ => ?_)
    refine jx_pop c1 hm rfl rfl ?_
    refine jx_load c1 hm rfl rfl rfl rfl ?_
    refine jx_load c1 hm rfl rfl rfl rfl ?_
    refine jx_load c1 hm rfl rfl rfl rfl ?_
    refine jy_ic c1 hm rfl (by decide) ?_
    refine jy_add c1 hm (b1 + 1) rfl (by omega) ?_
    obtain ⟨z291, kz291, lz291, uz291⟩ := hf ((b1 + 1)).toNat
    refine jx_sald c1 hm rfl ⟨by omega, by omega⟩ kz291 ?_
    refine jv_i c3 hm rfl (plp pj_X12_byteAt rfl) rfl rfl ⟨_, _, _, rfl, sh_173⟩ rfl ((ct_X12_byteAt_173 (X + 8000 * b1) (by omega) M4 hH4 z291 ⟨by omega, by omega⟩).le (by decide)) (fun z292 M293 ⟨hH293, hR293, lz292, uz292⟩ => ?_)
    refine jx_pop c1 hm rfl rfl ?_
    refine jx_goto c1 hm 1445 rfl rfl ?_
    refine jx_iinc c1 hm (v := (b1 + 6)) (L' := [some (.inr (.inr (.inr 0))), some (.inr (.inr (.inl 0))), some (.inr (.inr (.inl 173))), some (.inr (.inr (.inl 198))), some (.inl (b1 + 6)), o2, o3]) rfl rfl (by omega) (by omega) rfl ?_
    refine jx_goto c1 hm 23 rfl rfl ?_
    exact ihW9 (b1 + 6) (by omega) o2 ho2 o3 ho3 M293 (hH293.mono (by omega) (by omega)) k (by omega) (SOK.cg hs1 (fun j h1 h2 => (hR293 175 j rfl))) (KOK.cg hs2 (fun j h1 h2 => (hR293 177 j rfl))) (KOK.cg hs3 (fun j h1 h2 => (hR293 177 j rfl))) (TPQ.cg hs4 (hR293 0 2 rfl) (hR293 173 2 rfl)) (by omega)
   by_cases h294 : z13 = 33
   ·
    refine jx_tswI c1 hm 1196 rfl ⟨by omega, by omega⟩ (by rw [h294] <;> rfl) rfl ?_
    refine jx_load c1 hm rfl rfl rfl rfl ?_
    refine jx_load c1 hm rfl rfl rfl rfl ?_
    refine jx_load c1 hm rfl rfl rfl rfl ?_
    refine jy_ic c1 hm rfl (by decide) ?_
    refine jy_add c1 hm (b1 + 1) rfl (by omega) ?_
    obtain ⟨z295, kz295, lz295, uz295⟩ := hf ((b1 + 1)).toNat
    refine jx_sald c1 hm rfl ⟨by omega, by omega⟩ kz295 ?_
    refine jx_load c1 hm rfl rfl rfl rfl ?_
    refine jx_load c1 hm rfl rfl rfl rfl ?_
    refine jy_ic c1 hm rfl (by decide) ?_
    refine jy_add c1 hm (b1 + 2) rfl (by omega) ?_
    obtain ⟨z296, kz296, lz296, uz296⟩ := hf ((b1 + 2)).toNat
    refine jx_sald c1 hm rfl ⟨by omega, by omega⟩ kz296 ?_
    refine jv_i c3 hm rfl (plp pj_X11_drawn rfl) rfl rfl ⟨_, _, _, rfl, sh_0⟩ rfl ((ct_X11_drawn_0 (X + 8000 * b1) (by omega) M4 hH4 z295 ⟨by omega, by omega⟩ z296 ⟨by omega, by omega⟩).le (by decide)) (fun z297 M298 ⟨hH298, hR298, lz297, uz297⟩ => ?_)
    refine jx_pop c1 hm rfl rfl ?_
    refine jx_load c1 hm rfl rfl rfl rfl ?_
    refine jx_load c1 hm rfl rfl rfl rfl ?_
    refine jx_load c1 hm rfl rfl rfl rfl ?_
    refine jy_ic c1 hm rfl (by decide) ?_
    refine jy_add c1 hm (b1 + 1) rfl (by omega) ?_
    obtain ⟨z299, kz299, lz299, uz299⟩ := hf ((b1 + 1)).toNat
    refine jx_sald c1 hm rfl ⟨by omega, by omega⟩ kz299 ?_
    refine jx_load c1 hm rfl rfl rfl rfl ?_
    refine jx_load c1 hm rfl rfl rfl rfl ?_
    refine jy_ic c1 hm rfl (by decide) ?_
    refine jy_add c1 hm (b1 + 2) rfl (by omega) ?_
    obtain ⟨z300, kz300, lz300, uz300⟩ := hf ((b1 + 2)).toNat
    refine jx_sald c1 hm rfl ⟨by omega, by omega⟩ kz300 ?_
    refine jv_i c3 hm rfl (plp pj_X12_drawn rfl) rfl rfl ⟨_, _, _, rfl, sh_173⟩ rfl ((ct_X12_drawn_173 (X + 8000 * b1 + 360) (by omega) M298 hH298 z299 ⟨by omega, by omega⟩ z300 ⟨by omega, by omega⟩).le (by decide)) (fun z301 M302 ⟨hH302, hR302, lz301, uz301⟩ => ?_)
    rw [show X + 8000 * b1 + 360 + 1080 = X + 8000 * b1 + 1440 by omega] at hH302
    refine jx_pop c1 hm rfl rfl ?_
    refine jx_goto c1 hm 1445 rfl rfl ?_
    refine jx_iinc c1 hm (v := (b1 + 6)) (L' := [some (.inr (.inr (.inr 0))), some (.inr (.inr (.inl 0))), some (.inr (.inr (.inl 173))), some (.inr (.inr (.inl 198))), some (.inl (b1 + 6)), o2, o3]) rfl rfl (by omega) (by omega) rfl ?_
    refine jx_goto c1 hm 23 rfl rfl ?_
    exact ihW9 (b1 + 6) (by omega) o2 ho2 o3 ho3 M302 (hH302.mono (by omega) (by omega)) k (by omega) (SOK.cg hs1 (fun j h1 h2 => ((hR302 175 j (jin_hi (b := 234) (by decide +kernel) h1)).trans (hR298 175 j rfl)))) (KOK.cg hs2 (fun j h1 h2 => ((hR302 177 j rfl).trans (hR298 177 j rfl)))) (KOK.cg hs3 (fun j h1 h2 => ((hR302 177 j rfl).trans (hR298 177 j rfl)))) (TPQ.cg hs4 ((hR302 0 2 rfl).trans (hR298 0 2 rfl)) ((hR302 173 2 rfl).trans (hR298 173 2 rfl))) (by omega)
   by_cases h303 : z13 = 34
   ·
    refine jx_tswI c1 hm 1233 rfl ⟨by omega, by omega⟩ (by rw [h303] <;> rfl) rfl ?_
    refine jx_load c1 hm rfl rfl rfl rfl ?_
    refine jx_load c1 hm rfl rfl rfl rfl ?_
    refine jx_load c1 hm rfl rfl rfl rfl ?_
    refine jy_ic c1 hm rfl (by decide) ?_
    refine jy_add c1 hm (b1 + 1) rfl (by omega) ?_
    obtain ⟨z304, kz304, lz304, uz304⟩ := hf ((b1 + 1)).toNat
    refine jx_sald c1 hm rfl ⟨by omega, by omega⟩ kz304 ?_
    refine jx_load c1 hm rfl rfl rfl rfl ?_
    refine jx_load c1 hm rfl rfl rfl rfl ?_
    refine jy_ic c1 hm rfl (by decide) ?_
    refine jy_add c1 hm (b1 + 2) rfl (by omega) ?_
    obtain ⟨z305, kz305, lz305, uz305⟩ := hf ((b1 + 2)).toNat
    refine jx_sald c1 hm rfl ⟨by omega, by omega⟩ kz305 ?_
    refine jx_load c1 hm rfl rfl rfl rfl ?_
    refine jx_load c1 hm rfl rfl rfl rfl ?_
    refine jy_ic c1 hm rfl (by decide) ?_
    refine jy_add c1 hm (b1 + 3) rfl (by omega) ?_
    obtain ⟨z306, kz306, lz306, uz306⟩ := hf ((b1 + 3)).toNat
    refine jx_sald c1 hm rfl ⟨by omega, by omega⟩ kz306 ?_
    refine jv_i c3 hm rfl (plp pj_X11_odds rfl) rfl rfl ⟨_, _, _, rfl, sh_0⟩ rfl ((ct_X11_odds_0 (X + 8000 * b1) (by omega) M4 hH4 z304 ⟨by omega, by omega⟩ z305 ⟨by omega, by omega⟩ z306 ⟨by omega, by omega⟩).le (by decide)) (fun z307 M308 ⟨hH308, hR308, lz307, uz307⟩ => ?_)
    refine jx_pop c1 hm rfl rfl ?_
    refine jx_load c1 hm rfl rfl rfl rfl ?_
    refine jx_load c1 hm rfl rfl rfl rfl ?_
    refine jx_load c1 hm rfl rfl rfl rfl ?_
    refine jy_ic c1 hm rfl (by decide) ?_
    refine jy_add c1 hm (b1 + 1) rfl (by omega) ?_
    obtain ⟨z309, kz309, lz309, uz309⟩ := hf ((b1 + 1)).toNat
    refine jx_sald c1 hm rfl ⟨by omega, by omega⟩ kz309 ?_
    refine jx_load c1 hm rfl rfl rfl rfl ?_
    refine jx_load c1 hm rfl rfl rfl rfl ?_
    refine jy_ic c1 hm rfl (by decide) ?_
    refine jy_add c1 hm (b1 + 2) rfl (by omega) ?_
    obtain ⟨z310, kz310, lz310, uz310⟩ := hf ((b1 + 2)).toNat
    refine jx_sald c1 hm rfl ⟨by omega, by omega⟩ kz310 ?_
    refine jx_load c1 hm rfl rfl rfl rfl ?_
    refine jx_load c1 hm rfl rfl rfl rfl ?_
    refine jy_ic c1 hm rfl (by decide) ?_
    refine jy_add c1 hm (b1 + 3) rfl (by omega) ?_
    obtain ⟨z311, kz311, lz311, uz311⟩ := hf ((b1 + 3)).toNat
    refine jx_sald c1 hm rfl ⟨by omega, by omega⟩ kz311 ?_
    refine jv_i c3 hm rfl (plp pj_X12_odds rfl) rfl rfl ⟨_, _, _, rfl, sh_173⟩ rfl ((ct_X12_odds_173 (X + 8000 * b1 + 10800) (by omega) M308 hH308 z309 ⟨by omega, by omega⟩ z310 ⟨by omega, by omega⟩ z311 ⟨by omega, by omega⟩).le (by decide)) (fun z312 M313 ⟨hH313, hR313, lz312, uz312⟩ => ?_)
    rw [show X + 8000 * b1 + 10800 + 32400 = X + 8000 * b1 + 43200 by omega] at hH313
    refine jx_pop c1 hm rfl rfl ?_
    refine jx_goto c1 hm 1445 rfl rfl ?_
    refine jx_iinc c1 hm (v := (b1 + 6)) (L' := [some (.inr (.inr (.inr 0))), some (.inr (.inr (.inl 0))), some (.inr (.inr (.inl 173))), some (.inr (.inr (.inl 198))), some (.inl (b1 + 6)), o2, o3]) rfl rfl (by omega) (by omega) rfl ?_
    refine jx_goto c1 hm 23 rfl rfl ?_
    exact ihW9 (b1 + 6) (by omega) o2 ho2 o3 ho3 M313 (hH313.mono (by omega) (by omega)) k (by omega) (SOK.cg hs1 (fun j h1 h2 => ((hR313 175 j (jin_hi (b := 234) (by decide +kernel) h1)).trans (hR308 175 j rfl)))) (KOK.cg hs2 (fun j h1 h2 => ((hR313 177 j rfl).trans (hR308 177 j rfl)))) (KOK.cg hs3 (fun j h1 h2 => ((hR313 177 j rfl).trans (hR308 177 j rfl)))) (TPQ.cg hs4 ((hR313 0 2 rfl).trans (hR308 0 2 rfl)) ((hR313 173 2 rfl).trans (hR308 173 2 rfl))) (by omega)
   by_cases h314 : z13 = 35
   ·
    refine jx_tswI c1 hm 1282 rfl ⟨by omega, by omega⟩ (by rw [h314] <;> rfl) rfl ?_
    refine jx_load c1 hm rfl rfl rfl rfl ?_
    refine jx_load c1 hm rfl rfl rfl rfl ?_
    refine jx_load c1 hm rfl rfl rfl rfl ?_
    refine jy_ic c1 hm rfl (by decide) ?_
    refine jy_add c1 hm (b1 + 1) rfl (by omega) ?_
    obtain ⟨z315, kz315, lz315, uz315⟩ := hf ((b1 + 1)).toNat
    refine jx_sald c1 hm rfl ⟨by omega, by omega⟩ kz315 ?_
    obtain ⟨z316, k317, lz316, uz316⟩ := hH4.ld (c := 0) (i := 2) (A := 0) (B := 940) (bs_18_1 _ _ (by omega) (by omega))
    refine jv_i c3 hm rfl (plp pj_X11_book rfl) rfl rfl ⟨_, _, _, rfl, sh_0⟩ rfl ((ct_X11_book_0t (X + 8000 * b1) (by omega) M4 hH4 z315 ⟨by omega, by omega⟩).le (by decide)) (fun z318 M321 ⟨hH321, hR321, lz318, uz318, p319, p320⟩ => ?_)
    obtain ⟨z322, k323, lz322, uz322⟩ := hH321.ld (c := 0) (i := 2) (A := 0) (B := 940) (bs_18_1 _ _ (by omega) (by omega))
    refine jx_pop c1 hm rfl rfl ?_
    refine jx_load c1 hm rfl rfl rfl rfl ?_
    refine jx_load c1 hm rfl rfl rfl rfl ?_
    refine jx_load c1 hm rfl rfl rfl rfl ?_
    refine jy_ic c1 hm rfl (by decide) ?_
    refine jy_add c1 hm (b1 + 1) rfl (by omega) ?_
    obtain ⟨z324, kz324, lz324, uz324⟩ := hf ((b1 + 1)).toNat
    refine jx_sald c1 hm rfl ⟨by omega, by omega⟩ kz324 ?_
    obtain ⟨z325, k326, lz325, uz325⟩ := hH321.ld (c := 173) (i := 2) (A := 0) (B := 940) (bs_28_1 _ _ (by omega) (by omega))
    refine jv_i c3 hm rfl (plp pj_X12_book rfl) rfl rfl ⟨_, _, _, rfl, sh_173⟩ rfl ((ct_X12_book_173t (X + 8000 * b1 + 40) (by omega) M321 hH321 z324 ⟨by omega, by omega⟩).le (by decide)) (fun z327 M330 ⟨hH330, hR330, lz327, uz327, p328, p329⟩ => ?_)
    rw [show X + 8000 * b1 + 40 + 92 = X + 8000 * b1 + 132 by omega] at hH330
    obtain ⟨z331, k332, lz331, uz331⟩ := hH330.ld (c := 173) (i := 2) (A := 0) (B := 940) (bs_28_1 _ _ (by omega) (by omega))
    refine jx_pop c1 hm rfl rfl ?_
    refine jx_goto c1 hm 1445 rfl rfl ?_
    refine jx_iinc c1 hm (v := (b1 + 6)) (L' := [some (.inr (.inr (.inr 0))), some (.inr (.inr (.inl 0))), some (.inr (.inr (.inl 173))), some (.inr (.inr (.inl 198))), some (.inl (b1 + 6)), o2, o3]) rfl rfl (by omega) (by omega) rfl ?_
    refine jx_goto c1 hm 23 rfl rfl ?_
    exact ihW9 (b1 + 6) (by omega) o2 ho2 o3 ho3 M330 (hH330.mono (by omega) (by omega)) k (by omega) (SOK.cg hs1 (fun j h1 h2 => ((hR330 175 j (jin_hi (b := 234) (by decide +kernel) h1)).trans (hR321 175 j rfl)))) (KOK.cg hs2 (fun j h1 h2 => ((hR330 177 j rfl).trans (hR321 177 j rfl)))) (KOK.cg hs3 (fun j h1 h2 => ((hR330 177 j rfl).trans (hR321 177 j rfl)))) (TPQ.of (by have y9 := hs4.e; have y90_0 := hR330 0 2 rfl; have y91_173 := hR321 173 2 rfl; omega)) (by omega)
   by_cases h333 : z13 = 36
   ·
    refine jx_tswI c1 hm 1307 rfl ⟨by omega, by omega⟩ (by rw [h333] <;> rfl) rfl ?_
    refine jx_load c1 hm rfl rfl rfl rfl ?_
    refine jx_load c1 hm rfl rfl rfl rfl ?_
    refine jx_load c1 hm rfl rfl rfl rfl ?_
    refine jy_ic c1 hm rfl (by decide) ?_
    refine jy_add c1 hm (b1 + 1) rfl (by omega) ?_
    obtain ⟨z334, kz334, lz334, uz334⟩ := hf ((b1 + 1)).toNat
    refine jx_sald c1 hm rfl ⟨by omega, by omega⟩ kz334 ?_
    refine jv_i c3 hm rfl (plp pj_X11_told rfl) rfl rfl ⟨_, _, _, rfl, sh_0⟩ rfl ((ct_X11_told_0 (X + 8000 * b1) (by omega) M4 hH4 z334 ⟨by omega, by omega⟩).le (by decide)) (fun z335 _ ⟨rfl, lz335, uz335⟩ => ?_)
    refine jx_pop c1 hm rfl rfl ?_
    refine jx_load c1 hm rfl rfl rfl rfl ?_
    refine jx_load c1 hm rfl rfl rfl rfl ?_
    refine jx_load c1 hm rfl rfl rfl rfl ?_
    refine jy_ic c1 hm rfl (by decide) ?_
    refine jy_add c1 hm (b1 + 1) rfl (by omega) ?_
    obtain ⟨z336, kz336, lz336, uz336⟩ := hf ((b1 + 1)).toNat
    refine jx_sald c1 hm rfl ⟨by omega, by omega⟩ kz336 ?_
    refine jv_i c3 hm rfl (plp pj_X12_told rfl) rfl rfl ⟨_, _, _, rfl, sh_173⟩ rfl ((ct_X12_told_173 (X + 8000 * b1) (by omega) M4 hH4 z336 ⟨by omega, by omega⟩).le (by decide)) (fun z337 M338 ⟨hH338, hR338, lz337, uz337⟩ => ?_)
    refine jx_pop c1 hm rfl rfl ?_
    refine jx_goto c1 hm 1445 rfl rfl ?_
    refine jx_iinc c1 hm (v := (b1 + 6)) (L' := [some (.inr (.inr (.inr 0))), some (.inr (.inr (.inl 0))), some (.inr (.inr (.inl 173))), some (.inr (.inr (.inl 198))), some (.inl (b1 + 6)), o2, o3]) rfl rfl (by omega) (by omega) rfl ?_
    refine jx_goto c1 hm 23 rfl rfl ?_
    exact ihW9 (b1 + 6) (by omega) o2 ho2 o3 ho3 M338 (hH338.mono (by omega) (by omega)) k (by omega) (SOK.cg hs1 (fun j h1 h2 => (hR338 175 j rfl))) (KOK.cg hs2 (fun j h1 h2 => (hR338 177 j rfl))) (KOK.cg hs3 (fun j h1 h2 => (hR338 177 j rfl))) (TPQ.cg hs4 (hR338 0 2 rfl) (hR338 173 2 rfl)) (by omega)
   by_cases h339 : z13 = 37
   ·
    refine jx_tswI c1 hm 1332 rfl ⟨by omega, by omega⟩ (by rw [h339] <;> rfl) rfl ?_
    refine jx_load c1 hm rfl rfl rfl rfl ?_
    refine jv_i c3 hm rfl (plp pj_X11_sentence rfl) rfl rfl ⟨_, _, _, rfl, sh_0⟩ rfl ((ct_X11_sentence_0t (X + 8000 * b1) (by omega) M4 hH4 ).le (by decide)) (fun z340 M342 ⟨hH342, hR342, lz340, uz340, p341⟩ => ?_)
    obtain ⟨z343, k344, lz343, uz343⟩ := hH342.ld (c := 0) (i := 2) (A := 0) (B := 940) (bs_18_1 _ _ (by omega) (by omega))
    refine jx_pop c1 hm rfl rfl ?_
    refine jx_load c1 hm rfl rfl rfl rfl ?_
    refine jv_i c3 hm rfl (plp pj_X12_sentence rfl) rfl rfl ⟨_, _, _, rfl, sh_173⟩ rfl ((ct_X12_sentence_173t (X + 8000 * b1) (by omega) M342 hH342 (SOK.cg hs1 (fun j h1 h2 => (hR342 175 j rfl)))).le (by decide)) (fun z345 M348 ⟨hH348, hR348, lz345, uz345, p346, p347⟩ => ?_)
    obtain ⟨z349, k350, lz349, uz349⟩ := hH348.ld (c := 173) (i := 2) (A := 0) (B := 940) (bs_28_1 _ _ (by omega) (by omega))
    refine jx_pop c1 hm rfl rfl ?_
    refine jx_goto c1 hm 1445 rfl rfl ?_
    refine jx_iinc c1 hm (v := (b1 + 6)) (L' := [some (.inr (.inr (.inr 0))), some (.inr (.inr (.inl 0))), some (.inr (.inr (.inl 173))), some (.inr (.inr (.inl 198))), some (.inl (b1 + 6)), o2, o3]) rfl rfl (by omega) (by omega) rfl ?_
    refine jx_goto c1 hm 23 rfl rfl ?_
    exact ihW9 (b1 + 6) (by omega) o2 ho2 o3 ho3 M348 (hH348.mono (by omega) (by omega)) k (by omega) p346 (KOK.cg hs2 (fun j h1 h2 => ((hR348 177 j rfl).trans (hR342 177 j rfl)))) (KOK.cg hs3 (fun j h1 h2 => ((hR348 177 j rfl).trans (hR342 177 j rfl)))) (TPQ.of (by have y9 := hs4.e; have y90_0 := hR348 0 2 rfl; have y91_173 := hR342 173 2 rfl; omega)) (by omega)
   by_cases h351 : z13 = 38
   ·
    refine jx_tswI c1 hm 1345 rfl ⟨by omega, by omega⟩ (by rw [h351] <;> rfl) rfl ?_
    refine jx_load c1 hm rfl rfl rfl rfl ?_
    refine jx_load c1 hm rfl rfl rfl rfl ?_
    refine jx_load c1 hm rfl rfl rfl rfl ?_
    refine jy_ic c1 hm rfl (by decide) ?_
    refine jy_add c1 hm (b1 + 1) rfl (by omega) ?_
    obtain ⟨z352, kz352, lz352, uz352⟩ := hf ((b1 + 1)).toNat
    refine jx_sald c1 hm rfl ⟨by omega, by omega⟩ kz352 ?_
    refine jv_i c3 hm rfl (plp pj_X11_said rfl) rfl rfl ⟨_, _, _, rfl, sh_0⟩ rfl ((ct_X11_said_0 (X + 8000 * b1) (by omega) M4 hH4 z352 ⟨by omega, by omega⟩).le (by decide)) (fun z353 M354 ⟨hH354, hR354, lz353, uz353⟩ => ?_)
    refine jx_pop c1 hm rfl rfl ?_
    refine jx_load c1 hm rfl rfl rfl rfl ?_
    refine jx_load c1 hm rfl rfl rfl rfl ?_
    refine jx_load c1 hm rfl rfl rfl rfl ?_
    refine jy_ic c1 hm rfl (by decide) ?_
    refine jy_add c1 hm (b1 + 1) rfl (by omega) ?_
    obtain ⟨z355, kz355, lz355, uz355⟩ := hf ((b1 + 1)).toNat
    refine jx_sald c1 hm rfl ⟨by omega, by omega⟩ kz355 ?_
    refine jv_i c3 hm rfl (plp pj_X12_said rfl) rfl rfl ⟨_, _, _, rfl, sh_173⟩ rfl ((ct_X12_said_173 (X + 8000 * b1) (by omega) M354 hH354 z355 ⟨by omega, by omega⟩ (SOK.cg hs1 (fun j h1 h2 => (hR354 175 j rfl)))).le (by decide)) (fun z356 M357 ⟨hH357, hR357, lz356, uz356⟩ => ?_)
    refine jx_pop c1 hm rfl rfl ?_
    refine jx_goto c1 hm 1445 rfl rfl ?_
    refine jx_iinc c1 hm (v := (b1 + 6)) (L' := [some (.inr (.inr (.inr 0))), some (.inr (.inr (.inl 0))), some (.inr (.inr (.inl 173))), some (.inr (.inr (.inl 198))), some (.inl (b1 + 6)), o2, o3]) rfl rfl (by omega) (by omega) rfl ?_
    refine jx_goto c1 hm 23 rfl rfl ?_
    exact ihW9 (b1 + 6) (by omega) o2 ho2 o3 ho3 M357 (hH357.mono (by omega) (by omega)) k (by omega) (SOK.cg hs1 (fun j h1 h2 => ((hR357 175 j rfl).trans (hR354 175 j rfl)))) (KOK.cg hs2 (fun j h1 h2 => ((hR357 177 j rfl).trans (hR354 177 j rfl)))) (KOK.cg hs3 (fun j h1 h2 => ((hR357 177 j rfl).trans (hR354 177 j rfl)))) (TPQ.cg hs4 ((hR357 0 2 rfl).trans (hR354 0 2 rfl)) ((hR357 173 2 rfl).trans (hR354 173 2 rfl))) (by omega)
   by_cases h358 : z13 = 39
   ·
    refine jx_tswI c1 hm 1370 rfl ⟨by omega, by omega⟩ (by rw [h358] <;> rfl) rfl ?_
    refine jx_load c1 hm rfl rfl rfl rfl ?_
    refine jx_load c1 hm rfl rfl rfl rfl ?_
    refine jx_load c1 hm rfl rfl rfl rfl ?_
    refine jy_ic c1 hm rfl (by decide) ?_
    refine jy_add c1 hm (b1 + 1) rfl (by omega) ?_
    obtain ⟨z359, kz359, lz359, uz359⟩ := hf ((b1 + 1)).toNat
    refine jx_sald c1 hm rfl ⟨by omega, by omega⟩ kz359 ?_
    refine jv_i c3 hm rfl (plp pj_X11_image rfl) rfl rfl ⟨_, _, _, rfl, sh_0⟩ rfl ((ct_X11_image_0 (X + 8000 * b1) (by omega) M4 hH4 z359 ⟨by omega, by omega⟩).le (by decide)) (fun z360 M361 ⟨hH361, hR361, lz360, uz360⟩ => ?_)
    refine jx_pop c1 hm rfl rfl ?_
    refine jx_load c1 hm rfl rfl rfl rfl ?_
    refine jx_load c1 hm rfl rfl rfl rfl ?_
    refine jx_load c1 hm rfl rfl rfl rfl ?_
    refine jy_ic c1 hm rfl (by decide) ?_
    refine jy_add c1 hm (b1 + 1) rfl (by omega) ?_
    obtain ⟨z362, kz362, lz362, uz362⟩ := hf ((b1 + 1)).toNat
    refine jx_sald c1 hm rfl ⟨by omega, by omega⟩ kz362 ?_
    refine jv_i c3 hm rfl (plp pj_X12_image rfl) rfl rfl ⟨_, _, _, rfl, sh_173⟩ rfl ((ct_X12_image_173 (X + 8000 * b1) (by omega) M361 hH361 z362 ⟨by omega, by omega⟩ (SOK.cg hs1 (fun j h1 h2 => (hR361 175 j rfl))) (KOK.cg hs2 (fun j h1 h2 => (hR361 177 j rfl))) (KOK.cg hs3 (fun j h1 h2 => (hR361 177 j rfl)))).le (by decide)) (fun z363 M366 ⟨hH366, hR366, lz363, uz363, p364, p365⟩ => ?_)
    refine jx_pop c1 hm rfl rfl ?_
    refine jx_goto c1 hm 1445 rfl rfl ?_
    refine jx_iinc c1 hm (v := (b1 + 6)) (L' := [some (.inr (.inr (.inr 0))), some (.inr (.inr (.inl 0))), some (.inr (.inr (.inl 173))), some (.inr (.inr (.inl 198))), some (.inl (b1 + 6)), o2, o3]) rfl rfl (by omega) (by omega) rfl ?_
    refine jx_goto c1 hm 23 rfl rfl ?_
    exact ihW9 (b1 + 6) (by omega) o2 ho2 o3 ho3 M366 (hH366.mono (by omega) (by omega)) k (by omega) (SOK.cg hs1 (fun j h1 h2 => ((hR366 175 j rfl).trans (hR361 175 j rfl)))) p364 p365 (TPQ.cg hs4 ((hR366 0 2 rfl).trans (hR361 0 2 rfl)) ((hR366 173 2 rfl).trans (hR361 173 2 rfl))) (by omega)
   by_cases h367 : z13 = 40
   ·
    refine jx_tswI c1 hm 1395 rfl ⟨by omega, by omega⟩ (by rw [h367] <;> rfl) rfl ?_
    refine jx_load c1 hm rfl rfl rfl rfl ?_
    refine jx_load c1 hm rfl rfl rfl rfl ?_
    refine jx_load c1 hm rfl rfl rfl rfl ?_
    refine jy_ic c1 hm rfl (by decide) ?_
    refine jy_add c1 hm (b1 + 1) rfl (by omega) ?_
    obtain ⟨z368, kz368, lz368, uz368⟩ := hf ((b1 + 1)).toNat
    refine jx_sald c1 hm rfl ⟨by omega, by omega⟩ kz368 ?_
    refine jv_i c3 hm rfl (plp pj_X11_restore rfl) rfl rfl ⟨_, _, _, rfl, sh_0⟩ rfl ((ct_X11_restore_0 (X + 8000 * b1) (by omega) M4 hH4 z368 ⟨by omega, by omega⟩).le (by decide)) (fun z369 M370 ⟨hH370, hR370, lz369, uz369⟩ => ?_)
    refine jx_pop c1 hm rfl rfl ?_
    refine jx_load c1 hm rfl rfl rfl rfl ?_
    refine jx_load c1 hm rfl rfl rfl rfl ?_
    refine jx_load c1 hm rfl rfl rfl rfl ?_
    refine jy_ic c1 hm rfl (by decide) ?_
    refine jy_add c1 hm (b1 + 1) rfl (by omega) ?_
    obtain ⟨z371, kz371, lz371, uz371⟩ := hf ((b1 + 1)).toNat
    refine jx_sald c1 hm rfl ⟨by omega, by omega⟩ kz371 ?_
    refine jv_i c3 hm rfl (plp pj_X12_restore rfl) rfl rfl ⟨_, _, _, rfl, sh_173⟩ rfl ((ct_X12_restore_173 (X + 8000 * b1) (by omega) M370 hH370 z371 ⟨by omega, by omega⟩ (SOK.cg hs1 (fun j h1 h2 => (hR370 175 j rfl))) (KOK.cg hs2 (fun j h1 h2 => (hR370 177 j rfl))) (KOK.cg hs3 (fun j h1 h2 => (hR370 177 j rfl)))).le (by decide)) (fun z372 M374 ⟨hH374, hR374, lz372, uz372, p373⟩ => ?_)
    refine jx_pop c1 hm rfl rfl ?_
    refine jx_goto c1 hm 1445 rfl rfl ?_
    refine jx_iinc c1 hm (v := (b1 + 6)) (L' := [some (.inr (.inr (.inr 0))), some (.inr (.inr (.inl 0))), some (.inr (.inr (.inl 173))), some (.inr (.inr (.inl 198))), some (.inl (b1 + 6)), o2, o3]) rfl rfl (by omega) (by omega) rfl ?_
    refine jx_goto c1 hm 23 rfl rfl ?_
    exact ihW9 (b1 + 6) (by omega) o2 ho2 o3 ho3 M374 (hH374.mono (by omega) (by omega)) k (by omega) p373 (KOK.cg hs2 (fun j h1 h2 => ((hR374 177 j rfl).trans (hR370 177 j rfl)))) (KOK.cg hs3 (fun j h1 h2 => ((hR374 177 j rfl).trans (hR370 177 j rfl)))) (TPQ.cg hs4 ((hR374 0 2 rfl).trans (hR370 0 2 rfl)) ((hR374 173 2 rfl).trans (hR370 173 2 rfl))) (by omega)
   by_cases h375 : z13 = 41
   ·
    refine jx_tswI c1 hm 1420 rfl ⟨by omega, by omega⟩ (by rw [h375] <;> rfl) rfl ?_
    refine jx_load c1 hm rfl rfl rfl rfl ?_
    refine jx_load c1 hm rfl rfl rfl rfl ?_
    refine jx_load c1 hm rfl rfl rfl rfl ?_
    refine jy_ic c1 hm rfl (by decide) ?_
    refine jy_add c1 hm (b1 + 1) rfl (by omega) ?_
    obtain ⟨z376, kz376, lz376, uz376⟩ := hf ((b1 + 1)).toNat
    refine jx_sald c1 hm rfl ⟨by omega, by omega⟩ kz376 ?_
    refine jv_i c3 hm rfl (plp pj_X11_count rfl) rfl rfl ⟨_, _, _, rfl, sh_0⟩ rfl ((ct_X11_count_0 (X + 8000 * b1) (by omega) M4 hH4 z376 ⟨by omega, by omega⟩).le (by decide)) (fun z377 _ ⟨rfl, lz377, uz377⟩ => ?_)
    refine jx_pop c1 hm rfl rfl ?_
    refine jx_load c1 hm rfl rfl rfl rfl ?_
    refine jx_load c1 hm rfl rfl rfl rfl ?_
    refine jx_load c1 hm rfl rfl rfl rfl ?_
    refine jy_ic c1 hm rfl (by decide) ?_
    refine jy_add c1 hm (b1 + 1) rfl (by omega) ?_
    obtain ⟨z378, kz378, lz378, uz378⟩ := hf ((b1 + 1)).toNat
    refine jx_sald c1 hm rfl ⟨by omega, by omega⟩ kz378 ?_
    refine jv_i c3 hm rfl (plp pj_X12_count rfl) rfl rfl ⟨_, _, _, rfl, sh_173⟩ rfl ((ct_X12_count_173 (X + 8000 * b1) (by omega) M4 hH4 z378 ⟨by omega, by omega⟩).le (by decide)) (fun z379 M380 ⟨hH380, hR380, lz379, uz379⟩ => ?_)
    refine jx_pop c1 hm rfl rfl ?_
    refine jx_goto c1 hm 1445 rfl rfl ?_
    refine jx_iinc c1 hm (v := (b1 + 6)) (L' := [some (.inr (.inr (.inr 0))), some (.inr (.inr (.inl 0))), some (.inr (.inr (.inl 173))), some (.inr (.inr (.inl 198))), some (.inl (b1 + 6)), o2, o3]) rfl rfl (by omega) (by omega) rfl ?_
    refine jx_goto c1 hm 23 rfl rfl ?_
    exact ihW9 (b1 + 6) (by omega) o2 ho2 o3 ho3 M380 (hH380.mono (by omega) (by omega)) k (by omega) (SOK.cg hs1 (fun j h1 h2 => (hR380 175 j rfl))) (KOK.cg hs2 (fun j h1 h2 => (hR380 177 j rfl))) (KOK.cg hs3 (fun j h1 h2 => (hR380 177 j rfl))) (TPQ.cg hs4 (hR380 0 2 rfl) (hR380 173 2 rfl)) (by omega)
   refine jx_tswO c1 hm 1445 rfl (by omega) rfl ?_
   refine jx_iinc c1 hm (v := (b1 + 6)) (L' := [some (.inr (.inr (.inr 0))), some (.inr (.inr (.inl 0))), some (.inr (.inr (.inl 173))), some (.inr (.inr (.inl 198))), some (.inl (b1 + 6)), o2, o3]) rfl rfl (by omega) (by omega) rfl ?_
   refine jx_goto c1 hm 23 rfl rfl ?_
   exact ihW9 (b1 + 6) (by omega) o2 ho2 o3 ho3 M4 (hH4.mono (by omega) (by omega)) k (by omega) (SOK.cg hs1 (fun j h1 h2 => rfl)) (KOK.cg hs2 (fun j h1 h2 => rfl)) (KOK.cg hs3 (fun j h1 h2 => rfl)) (TPQ.cg hs4 rfl rfl) (by omega)
 exact W9 (3072 + 1 : Int).toNat 0 (by omega) none (Or.inl rfl) none (Or.inl rfl) M0 (hH0.mono (by omega) (by omega)) 0 (by omega) hs1 hs2 hs3 hs4 (by omega)
