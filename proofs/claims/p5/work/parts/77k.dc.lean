/-! Contracts of the reference, exact (by wip/q/wlk.py). -/
def md_X11_startTokens_0p : List (Nat × (Nat × Nat)) := [(0, (2, 2)), (1, (2, 2)), (1, (3, 3)), (1, (4, 4)), (1, (5, 5)), (1, (6, 6)), (1, (7, 7)), (1, (9, 9)), (1, (12, 12)), (1, (13, 13))]
theorem ct_X11_startTokens_0p (X : Int) (hX : 0 ≤ X ∧ X ≤ 100000000) (M0 : JM) (hH0 : HI X M0) (a0 : Int) (ha0 : 0 ≤ a0 ∧ a0 ≤ 900) : JOk shp PJ 4 66 [.inr (.inr (.inl 0)), .inl a0] M0 (jRv (fun M' => HI X M' ∧ Fr md_X11_startTokens_0p M0 M' ∧ (CTk M' (uC M0, (M0.1 0 2, a0)) 0 ∧ M'.1 1 12 = 0) ∧ (M'.1 0 2 = 0))) := by
 refine ⟨jr_X11_startTokens, pj_X11_startTokens, fun F c1 c2 c3 => ?_⟩
 have hm := pj_X11_startTokens
 change F 0 [some (.inr (.inr (.inl 0))), some (.inl a0), none] [] M0
 have hF0 : Fr md_X11_startTokens_0p M0 M0 := Fr.rf _ _
 obtain ⟨z1, k2, lz1, uz1⟩ := hH0.ld (c := 0) (i := 2) (A := 0) (B := 940) (bs_18_1 _ _ (by omega) (by omega))
 refine jx_load c1 hm rfl rfl rfl rfl ?_
 refine jx_geti c1 hm rfl sh_0 rfl k2 ?_
 skip
 refine jx_stor c1 hm (L' := [some (.inr (.inr (.inl 0))), some (.inl a0), some (.inl z1)]) rfl rfl rfl rfl rfl ?_
 refine jx_load c1 hm rfl rfl rfl rfl ?_
 refine jy_ic c1 hm rfl (by decide) ?_
 obtain ⟨M3, e3, hH3, hF3, k3, n3, q3⟩ := mup hH0 hF0 (c := 0) (i := 2) (v := 0) (A := 0) (B := 940) (bs_18_1 _ _ (by omega) (by omega)) ⟨by omega, by omega⟩ (jin_of 0 rfl ⟨by omega, by omega⟩)
 refine jm_puti c1 hm rfl sh_0 rfl e3 ?_
 refine jx_load c1 hm rfl rfl rfl rfl ?_
 refine jx_getr c1 hm rfl sh_0 rfl ?_
 refine jx_load c1 hm rfl rfl rfl rfl ?_
 refine jx_load c1 hm rfl rfl rfl rfl ?_
 refine jv_v c3 hm rfl pj_X10_start rfl rfl ⟨_, _, _, rfl, sh_1⟩ rfl ((ct_X10_start_1p X (by omega) M3 hH3 z1 ⟨by omega, by omega⟩ a0 ⟨by omega, by omega⟩).le (by decide)) (fun M6 ⟨hH6, hR6, p4, p5⟩ => ?_)
 have hF6 := hF3.tr hR6 (by decide +kernel)
 obtain ⟨z7, k8, lz7, uz7⟩ := hH6.ld (c := 1) (i := 12) (A := 0) (B := 4) (bs_19_8 _ _ (by omega) (by omega))
 have k9 : M6.1 0 2 = 0 := (hR6 0 2 (by decide +kernel)).trans k3
 exact jx_retv c2 hm rfl rfl ⟨rfl, hH6, hF6, ⟨(show uC M3 = uC M0 from uC_cg (fun j => hF3 2 j rfl)) ▸ (k2 ▸ p4.1), p4.2⟩, (by omega)⟩
def md_X11_duchy_0p : List (Nat × (Nat × Nat)) := [(0, (2, 2)), (0, (3, 3)), (1, (2, 2)), (1, (3, 3)), (1, (4, 4)), (1, (5, 5)), (1, (6, 6)), (1, (7, 7)), (1, (9, 9)), (1, (11, 11)), (1, (12, 12)), (1, (13, 13)), (5, (6, 6)), (5, (7, 7)), (6, (0, 2)), (7, (0, 17)), (8, (0, 5)), (10, (0, 35)), (11, (0, 5)), (12, (7, 7)), (13, (0, 5)), (14, (0, 5)), (15, (0, 5)), (16, (0, 5)), (17, (0, 35)), (18, (0, 35)), (19, (0, 35)), (20, (2, 2)), (20, (3, 3)), (21, (0, 39)), (27, (6, 6)), (27, (7, 7)), (28, (0, 2)), (30, (0, 5)), (31, (0, 5)), (32, (0, 35)), (33, (0, 5)), (34, (7, 7)), (35, (0, 5)), (36, (0, 5)), (37, (0, 5)), (38, (0, 5)), (39, (0, 35)), (40, (0, 35)), (41, (0, 35)), (42, (2, 2)), (42, (3, 3)), (55, (2, 2))]
theorem ct_X11_duchy_0p (X : Int) (hX : 0 ≤ X ∧ X ≤ 100000000) (M0 : JM) (hH0 : HI X M0)  : JOk shp PJ 7 34 [.inr (.inr (.inl 0))] M0 (jRi (fun v M' => HI X M' ∧ Fr md_X11_duchy_0p M0 M' ∧ (-941) ≤ v ∧ v ≤ 900 ∧ (v = duS (uC M0) (M0.1 0 2)) ∧ (M'.1 0 2 = 0))) := by
 refine ⟨jr_X11_duchy, pj_X11_duchy, fun F c1 c2 c3 => ?_⟩
 have hm := pj_X11_duchy
 change F 0 [some (.inr (.inr (.inl 0))), none] [] M0
 have hF0 : Fr md_X11_duchy_0p M0 M0 := Fr.rf _ _
 obtain ⟨z1, k2, lz1, uz1⟩ := hH0.ld (c := 0) (i := 2) (A := 0) (B := 940) (bs_18_1 _ _ (by omega) (by omega))
 refine jx_load c1 hm rfl rfl rfl rfl ?_
 refine jy_sp c1 hm rfl (by decide) ?_
 refine jv_v c3 hm rfl pj_X11_startTokens rfl rfl ⟨_, _, _, rfl, sh_0⟩ rfl ((ct_X11_startTokens_0p X (by omega) M0 hH0 900 ⟨by omega, by omega⟩).le (by decide)) (fun M5 ⟨hH5, hR5, p3, p4⟩ => ?_)
 have hF5 := hF0.tr hR5 (by decide +kernel)
 obtain ⟨z6, k7, lz6, uz6⟩ := hH5.ld (c := 1) (i := 12) (A := 0) (B := 4) (bs_19_8 _ _ (by omega) (by omega))
 obtain ⟨z8, k9, lz8, uz8⟩ := hH5.ld (c := 0) (i := 2) (A := 0) (B := 940) (bs_18_1 _ _ (by omega) (by omega))
 refine jx_load c1 hm rfl rfl rfl rfl ?_
 refine jx_getr c1 hm rfl sh_0 rfl ?_
 refine jx_load c1 hm rfl rfl rfl rfl ?_
 refine jx_getr c1 hm rfl sh_0 rfl ?_
 refine jv_i c3 hm rfl pj_X2_readLines rfl rfl ⟨_, _, _, rfl, sh_27⟩ rfl ((ct_X2_readLines_27_1p X (by omega) M5 hH5 ).le (by decide)) (fun z10 M13 ⟨hH13, hR13, lz10, uz10, p11, p12⟩ => ?_)
 have hF13 := hF5.tr hR13 (by decide +kernel)
 obtain ⟨z14, k15, lz14, uz14⟩ := hH13.ld (c := 27) (i := 6) (A := (-1)) (B := 9) (bs_23_1 _ _ (by omega) (by omega))
 obtain ⟨z16, k17, lz16, uz16⟩ := hH13.ld (c := 27) (i := 7) (A := (-1)) (B := 9) (bs_23_1 _ _ (by omega) (by omega))
 obtain ⟨z18, k19, lz18, uz18⟩ := hH13.ld (c := 1) (i := 12) (A := 0) (B := 4) (bs_19_8 _ _ (by omega) (by omega))
 obtain ⟨z20, k21, lz20, uz20⟩ := hH13.ld (c := 1) (i := 13) (A := 0) (B := 940) (bs_19_9 _ _ (by omega) (by omega))
 refine jx_stor c1 hm (L' := [some (.inr (.inr (.inl 0))), some (.inl z10)]) rfl rfl rfl rfl rfl ?_
 refine jx_load c1 hm rfl rfl rfl rfl ?_
 refine jx_load c1 hm rfl rfl rfl rfl ?_
 refine jx_getr c1 hm rfl sh_0 rfl ?_
 refine jx_geti c1 hm rfl sh_1 rfl k19 ?_
 obtain ⟨M22, e22, hH22, hF22, k22, n22, q22⟩ := mup hH13 hF13 (c := 0) (i := 3) (v := z18) (A := (-2147483648)) (B := 2147483647) (bs_18_2 _ _ (by omega) (by omega)) ⟨by omega, by omega⟩ (jin_of 1 rfl ⟨by omega, by omega⟩)
 refine jm_puti c1 hm rfl sh_0 rfl e22 ?_
 refine jx_load c1 hm rfl rfl rfl rfl ?_
 refine jx_getr c1 hm rfl sh_0 rfl ?_
 have k23 : M22.1 1 12 = z18 := (n22 1 12 (fun h => absurd h.1 (by decide))).trans k19
 refine jx_geti c1 hm rfl sh_1 rfl k23 ?_
 refine jz_eq c1 hm 50 rfl rfl (fun h24 => ?_) (fun h24 => ?_)
 ·
  refine jx_load c1 hm rfl rfl rfl rfl ?_
  refine jx_getr c1 hm rfl sh_0 rfl ?_
  refine jx_load c1 hm rfl rfl rfl rfl ?_
  refine jx_getr c1 hm rfl sh_0 rfl ?_
  have k25 : M22.1 27 6 = z14 := (n22 27 6 (fun h => absurd h.1 (by decide))).trans k15
  have k26 : M22.1 27 7 = z16 := (n22 27 7 (fun h => absurd h.1 (by decide))).trans k17
  refine jv_v c3 hm rfl pj_X2_takeAll rfl rfl ⟨_, _, _, rfl, sh_5⟩ rfl ((ct_X2_takeAll_5_27 X (by omega) M22 hH22 (by omega)).le (by decide)) (fun M27 ⟨hH27, hR27⟩ => ?_)
  have hF27 := hF22.tr hR27 (by decide +kernel)
  refine jx_load c1 hm rfl rfl rfl rfl ?_
  refine jx_getr c1 hm rfl sh_0 rfl ?_
  refine jv_v c3 hm rfl pj_X4_forget rfl rfl ⟨_, _, _, rfl, sh_55⟩ rfl ((ct_X4_forget_55 X (by omega) M27 hH27 ).le (by decide)) (fun M28 ⟨hH28, hR28⟩ => ?_)
  have hF28 := hF27.tr hR28 (by decide +kernel)
  refine jx_load c1 hm rfl rfl rfl rfl ?_
  have k29 : M28.1 0 2 = z8 := (hR28 0 2 (by decide +kernel)).trans ((hR27 0 2 (by decide +kernel)).trans ((n22 0 2 (by decide)).trans ((hR13 0 2 (by decide +kernel)).trans k9)))
  exact jx_reti c2 hm rfl rfl ⟨_, rfl, hH28, hF28, by omega, by omega, (by have y9 := p12 (uC M0, (M0.1 0 2, 900)) rfl (by show M0.1 0 2 ≤ 940; omega) (by show 0 ≤ M0.1 0 2; omega) p3.1 p3.2; show _ = allS (uC M0, (M0.1 0 2, 900)) 1000 0 st0; omega), (by omega)⟩
 refine jy_ic c1 hm rfl (by decide) ?_
 refine jx_load c1 hm rfl rfl rfl rfl ?_
 refine jx_getr c1 hm rfl sh_0 rfl ?_
 have k30 : M22.1 1 13 = z20 := (n22 1 13 (fun h => absurd h.1 (by decide))).trans k21
 refine jx_geti c1 hm rfl sh_1 rfl k30 ?_
 refine jy_sub c1 hm (-z20 - 1) rfl (by omega) ?_
 have k31 : M22.1 0 2 = z8 := (n22 0 2 (by decide)).trans ((hR13 0 2 (by decide +kernel)).trans k9)
 exact jx_reti c2 hm rfl rfl ⟨_, rfl, hH22, hF22, by omega, by omega, (by have y9 := p12 (uC M0, (M0.1 0 2, 900)) rfl (by show M0.1 0 2 ≤ 940; omega) (by show 0 ≤ M0.1 0 2; omega) p3.1 p3.2; show _ = allS (uC M0, (M0.1 0 2, 900)) 1000 0 st0; omega), (by omega)⟩
