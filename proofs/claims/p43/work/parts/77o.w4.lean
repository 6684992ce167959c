/-! Contracts that tell the five numbers of a Duchy (by wip/q/wlk.py). -/
def md_X11_copyRow_6_138w : List (Nat × (Nat × Nat)) := [(138, (0, 2))]
theorem ct_X11_copyRow_6_138w (X : Int) (hX : 0 ≤ X ∧ X ≤ 100000000) (M0 : JM) (hH0 : HI X M0)  : JOk shp PJ 1 29 [.inr (.inr (.inl 6)), .inr (.inr (.inl 138))] M0 (jRv (fun M' => HI X M' ∧ Fr md_X11_copyRow_6_138w M0 M' ∧ (∀ j : Nat, (j : Int) < 3 → M'.1 138 j = M0.1 6 j))) := by
 refine ⟨jr_X11_copyRow, pj_X11_copyRow, fun F c1 c2 c3 => ?_⟩
 have hm := pj_X11_copyRow
 change F 0 [some (.inr (.inr (.inl 6))), some (.inr (.inr (.inl 138)))] [] M0
 have hF0 : Fr md_X11_copyRow_6_138w M0 M0 := Fr.rf _ _
 refine jx_load c1 hm rfl rfl rfl rfl ?_
 refine jy_ic c1 hm rfl (by decide) ?_
 refine jx_load c1 hm rfl rfl rfl rfl ?_
 refine jy_ic c1 hm rfl (by decide) ?_
 refine jx_load c1 hm rfl rfl rfl rfl ?_
 refine jx_alen c1 hm (v := 3) rfl sh_6 rfl rfl ?_
 refine jx_load c1 hm rfl rfl rfl rfl ?_
 refine jx_alen c1 hm (v := 3) rfl sh_138 rfl rfl ?_
 refine jx_min c1 hm rfl rfl (fun z1 lz1 uz1 ez1 => ?_)
 obtain ⟨M2, e2, hH2, hF2, n2, _⟩ := mcp hH0 hF0 (c1 := 6) (c2 := 138) (n := z1) (fun _ _ => rfl) (fun j hj => jin_of 0 rfl ⟨by omega, by omega⟩)
 refine jm_acpi c1 hm rfl rfl sh_6 sh_138 ⟨by omega, by omega, by omega⟩ e2 ?_
 exact jx_retv c2 hm rfl rfl ⟨rfl, hH2, hF2, (fun j hj => cp_at e2 (by omega))⟩
def md_X2_takeAll_137_5w : List (Nat × (Nat × Nat)) := [(137, (6, 6)), (137, (7, 7)), (138, (0, 2)), (139, (0, 17)), (140, (0, 5)), (142, (0, 35)), (143, (0, 5)), (144, (7, 7)), (145, (0, 5)), (146, (0, 5)), (147, (0, 5)), (148, (0, 5)), (149, (0, 35)), (150, (0, 35)), (151, (0, 35)), (152, (2, 2)), (152, (3, 3)), (153, (0, 39))]
theorem ct_X2_takeAll_137_5w (X : Int) (hX : 0 ≤ X ∧ X ≤ 100000000) (M0 : JM) (hH0 : HI X M0)  : JOk shp PJ 3 231 [.inr (.inr (.inl 137)), .inr (.inr (.inl 5))] M0 (jRv (fun M' => HI X M' ∧ Fr md_X2_takeAll_137_5w M0 M' ∧ (dq M' 137 = dq M0 5))) := by
 refine ⟨jr_X2_takeAll, pj_X2_takeAll, fun F c1 c2 c3 => ?_⟩
 have hm := pj_X2_takeAll
 change F 0 [some (.inr (.inr (.inl 137))), some (.inr (.inr (.inl 5)))] [] M0
 have hF0 : Fr md_X2_takeAll_137_5w M0 M0 := Fr.rf _ _
 obtain ⟨z1, k2, lz1, uz1⟩ := hH0.ld (c := 5) (i := 6) (A := 0) (B := 9) (bs_20_1 _ _ (by omega) (by omega))
 obtain ⟨z3, k4, lz3, uz3⟩ := hH0.ld (c := 5) (i := 7) (A := 0) (B := 9) (bs_20_1 _ _ (by omega) (by omega))
 refine jx_load c1 hm rfl rfl rfl rfl ?_
 refine jx_getr c1 hm rfl sh_5 rfl ?_
 refine jx_load c1 hm rfl rfl rfl rfl ?_
 refine jx_getr c1 hm rfl sh_137 rfl ?_
 refine jt_v c3 hm rfl rfl pj_X11_copyRow rfl rfl rfl ((ct_X11_copyRow_6_138w X (by omega) M0 hH0 ).le (by decide)) (fun M6 ⟨hH6, hR6, p5⟩ => ?_)
 have hF6 := hF0.tr hR6 (by decide +kernel)
 refine jx_load c1 hm rfl rfl rfl rfl ?_
 refine jx_getr c1 hm rfl sh_5 rfl ?_
 refine jy_ic c1 hm rfl (by decide) ?_
 refine jx_load c1 hm rfl rfl rfl rfl ?_
 refine jx_getr c1 hm rfl sh_137 rfl ?_
 refine jy_ic c1 hm rfl (by decide) ?_
 refine jy_bp c1 hm rfl (by decide) ?_
 obtain ⟨M7, e7, hH7, hF7, n7⟩ := mcl hH6 hF6 (c1 := 7) (c2 := 139) (n := 18) rfl
 refine jm_acpl c1 hm rfl rfl sh_7 sh_139 ⟨by omega, by omega, by omega⟩ e7 ?_
 refine jx_load c1 hm rfl rfl rfl rfl ?_
 refine jx_getr c1 hm rfl sh_5 rfl ?_
 refine jx_load c1 hm rfl rfl rfl rfl ?_
 refine jx_getr c1 hm rfl sh_137 rfl ?_
 refine jt_v c3 hm rfl rfl pj_X11_copyRow rfl rfl rfl ((ct_X11_copyRow_8_140 X (by omega) M7 hH7 ).le (by decide)) (fun M8 ⟨hH8, hR8⟩ => ?_)
 have hF8 := hF7.tr hR8 (by decide +kernel)
 refine jx_load c1 hm rfl rfl rfl rfl ?_
 refine jx_getr c1 hm rfl sh_5 rfl ?_
 refine jx_load c1 hm rfl rfl rfl rfl ?_
 refine jx_getr c1 hm rfl sh_137 rfl ?_
 refine jt_v c3 hm rfl rfl pj_X11_copyRow rfl rfl rfl ((ct_X11_copyRow_10_142 X (by omega) M8 hH8 ).le (by decide)) (fun M9 ⟨hH9, hR9⟩ => ?_)
 have hF9 := hF8.tr hR9 (by decide +kernel)
 refine jx_load c1 hm rfl rfl rfl rfl ?_
 refine jx_getr c1 hm rfl sh_5 rfl ?_
 refine jx_load c1 hm rfl rfl rfl rfl ?_
 refine jx_getr c1 hm rfl sh_137 rfl ?_
 refine jt_v c3 hm rfl rfl pj_X11_copyRow rfl rfl rfl ((ct_X11_copyRow_11_143 X (by omega) M9 hH9 ).le (by decide)) (fun M10 ⟨hH10, hR10⟩ => ?_)
 have hF10 := hF9.tr hR10 (by decide +kernel)
 refine jx_load c1 hm rfl rfl rfl rfl ?_
 refine jx_load c1 hm rfl rfl rfl rfl ?_
 have k11 : M10.1 5 6 = z1 := (hR10 5 6 (by decide +kernel)).trans ((hR9 5 6 (by decide +kernel)).trans ((hR8 5 6 (by decide +kernel)).trans ((n7 5 6).trans ((hR6 5 6 (by decide +kernel)).trans k2))))
 refine jx_geti c1 hm rfl sh_5 rfl k11 ?_
 obtain ⟨M12, e12, hH12, hF12, k12, n12, q12⟩ := mup hH10 hF10 (c := 137) (i := 6) (v := z1) (A := 0) (B := 9) (bs_20_1 _ _ (by omega) (by omega)) ⟨by omega, by omega⟩ (jin_of 0 rfl ⟨by omega, by omega⟩)
 refine jm_puti c1 hm rfl sh_137 rfl e12 ?_
 refine jx_load c1 hm rfl rfl rfl rfl ?_
 refine jx_load c1 hm rfl rfl rfl rfl ?_
 have k13 : M12.1 5 7 = z3 := (n12 5 7 (fun h => absurd h.1 (by decide))).trans ((hR10 5 7 (by decide +kernel)).trans ((hR9 5 7 (by decide +kernel)).trans ((hR8 5 7 (by decide +kernel)).trans ((n7 5 7).trans ((hR6 5 7 (by decide +kernel)).trans k4)))))
 refine jx_geti c1 hm rfl sh_5 rfl k13 ?_
 obtain ⟨M14, e14, hH14, hF14, k14, n14, q14⟩ := mup hH12 hF12 (c := 137) (i := 7) (v := z3) (A := 0) (B := 9) (bs_20_1 _ _ (by omega) (by omega)) ⟨by omega, by omega⟩ (jin_of 1 rfl ⟨by omega, by omega⟩)
 refine jm_puti c1 hm rfl sh_137 rfl e14 ?_
 refine jx_load c1 hm rfl rfl rfl rfl ?_
 refine jx_getr c1 hm rfl sh_137 rfl ?_
 refine jx_load c1 hm rfl rfl rfl rfl ?_
 refine jx_getr c1 hm rfl sh_5 rfl ?_
 refine jv_v c3 hm rfl pj_X8_takeAll rfl rfl ⟨_, _, _, rfl, sh_144⟩ rfl ((ct_X8_takeAll_144_12 X (by omega) M14 hH14 ).le (by decide)) (fun M15 ⟨hH15, hR15⟩ => ?_)
 have hF15 := hF14.tr hR15 (by decide +kernel)
 refine jx_load c1 hm rfl rfl rfl rfl ?_
 refine jx_getr c1 hm rfl sh_137 rfl ?_
 refine jx_load c1 hm rfl rfl rfl rfl ?_
 refine jx_getr c1 hm rfl sh_5 rfl ?_
 refine jv_v c3 hm rfl pj_X7_takeAll rfl rfl ⟨_, _, _, rfl, sh_152⟩ rfl ((ct_X7_takeAll_152_20 X (by omega) M15 hH15 ).le (by decide)) (fun M16 ⟨hH16, hR16⟩ => ?_)
 have hF16 := hF15.tr hR16 (by decide +kernel)
 exact jx_retv c2 hm rfl rfl ⟨rfl, hH16, hF16, (dq_cp (fun j hj => ((((((((hR16 138 j rfl).trans (hR15 138 j rfl)).trans (n14 138 j (fun h => absurd h.1 (by decide)))).trans (n12 138 j (fun h => absurd h.1 (by decide)))).trans (hR10 138 j rfl)).trans (hR9 138 j rfl)).trans (hR8 138 j rfl)).trans (n7 138 j)).trans (p5 j hj)) (by have y9 := (((hR16 137 6 rfl).trans (hR15 137 6 rfl)).trans (n14 137 6 (by decide))); omega) (by have y9 := ((hR16 137 7 rfl).trans (hR15 137 7 rfl)); omega))⟩
def md_X11_copyRow_6_156w : List (Nat × (Nat × Nat)) := [(156, (0, 2))]
theorem ct_X11_copyRow_6_156w (X : Int) (hX : 0 ≤ X ∧ X ≤ 100000000) (M0 : JM) (hH0 : HI X M0)  : JOk shp PJ 1 29 [.inr (.inr (.inl 6)), .inr (.inr (.inl 156))] M0 (jRv (fun M' => HI X M' ∧ Fr md_X11_copyRow_6_156w M0 M' ∧ (∀ j : Nat, (j : Int) < 3 → M'.1 156 j = M0.1 6 j))) := by
 refine ⟨jr_X11_copyRow, pj_X11_copyRow, fun F c1 c2 c3 => ?_⟩
 have hm := pj_X11_copyRow
 change F 0 [some (.inr (.inr (.inl 6))), some (.inr (.inr (.inl 156)))] [] M0
 have hF0 : Fr md_X11_copyRow_6_156w M0 M0 := Fr.rf _ _
 refine jx_load c1 hm rfl rfl rfl rfl ?_
 refine jy_ic c1 hm rfl (by decide) ?_
 refine jx_load c1 hm rfl rfl rfl rfl ?_
 refine jy_ic c1 hm rfl (by decide) ?_
 refine jx_load c1 hm rfl rfl rfl rfl ?_
 refine jx_alen c1 hm (v := 3) rfl sh_6 rfl rfl ?_
 refine jx_load c1 hm rfl rfl rfl rfl ?_
 refine jx_alen c1 hm (v := 3) rfl sh_156 rfl rfl ?_
 refine jx_min c1 hm rfl rfl (fun z1 lz1 uz1 ez1 => ?_)
 obtain ⟨M2, e2, hH2, hF2, n2, _⟩ := mcp hH0 hF0 (c1 := 6) (c2 := 156) (n := z1) (fun _ _ => rfl) (fun j hj => jin_of 0 rfl ⟨by omega, by omega⟩)
 refine jm_acpi c1 hm rfl rfl sh_6 sh_156 ⟨by omega, by omega, by omega⟩ e2 ?_
 exact jx_retv c2 hm rfl rfl ⟨rfl, hH2, hF2, (fun j hj => cp_at e2 (by omega))⟩
def md_X2_takeAll_155_5w : List (Nat × (Nat × Nat)) := [(155, (6, 6)), (155, (7, 7)), (156, (0, 2)), (157, (0, 17)), (158, (0, 5)), (160, (0, 35)), (161, (0, 5)), (162, (7, 7)), (163, (0, 5)), (164, (0, 5)), (165, (0, 5)), (166, (0, 5)), (167, (0, 35)), (168, (0, 35)), (169, (0, 35)), (170, (2, 2)), (170, (3, 3)), (171, (0, 39))]
theorem ct_X2_takeAll_155_5w (X : Int) (hX : 0 ≤ X ∧ X ≤ 100000000) (M0 : JM) (hH0 : HI X M0)  : JOk shp PJ 3 231 [.inr (.inr (.inl 155)), .inr (.inr (.inl 5))] M0 (jRv (fun M' => HI X M' ∧ Fr md_X2_takeAll_155_5w M0 M' ∧ (dq M' 155 = dq M0 5))) := by
 refine ⟨jr_X2_takeAll, pj_X2_takeAll, fun F c1 c2 c3 => ?_⟩
 have hm := pj_X2_takeAll
 change F 0 [some (.inr (.inr (.inl 155))), some (.inr (.inr (.inl 5)))] [] M0
 have hF0 : Fr md_X2_takeAll_155_5w M0 M0 := Fr.rf _ _
 obtain ⟨z1, k2, lz1, uz1⟩ := hH0.ld (c := 5) (i := 6) (A := 0) (B := 9) (bs_20_1 _ _ (by omega) (by omega))
 obtain ⟨z3, k4, lz3, uz3⟩ := hH0.ld (c := 5) (i := 7) (A := 0) (B := 9) (bs_20_1 _ _ (by omega) (by omega))
 refine jx_load c1 hm rfl rfl rfl rfl ?_
 refine jx_getr c1 hm rfl sh_5 rfl ?_
 refine jx_load c1 hm rfl rfl rfl rfl ?_
 refine jx_getr c1 hm rfl sh_155 rfl ?_
 refine jt_v c3 hm rfl rfl pj_X11_copyRow rfl rfl rfl ((ct_X11_copyRow_6_156w X (by omega) M0 hH0 ).le (by decide)) (fun M6 ⟨hH6, hR6, p5⟩ => ?_)
 have hF6 := hF0.tr hR6 (by decide +kernel)
 refine jx_load c1 hm rfl rfl rfl rfl ?_
 refine jx_getr c1 hm rfl sh_5 rfl ?_
 refine jy_ic c1 hm rfl (by decide) ?_
 refine jx_load c1 hm rfl rfl rfl rfl ?_
 refine jx_getr c1 hm rfl sh_155 rfl ?_
 refine jy_ic c1 hm rfl (by decide) ?_
 refine jy_bp c1 hm rfl (by decide) ?_
 obtain ⟨M7, e7, hH7, hF7, n7⟩ := mcl hH6 hF6 (c1 := 7) (c2 := 157) (n := 18) rfl
 refine jm_acpl c1 hm rfl rfl sh_7 sh_157 ⟨by omega, by omega, by omega⟩ e7 ?_
 refine jx_load c1 hm rfl rfl rfl rfl ?_
 refine jx_getr c1 hm rfl sh_5 rfl ?_
 refine jx_load c1 hm rfl rfl rfl rfl ?_
 refine jx_getr c1 hm rfl sh_155 rfl ?_
 refine jt_v c3 hm rfl rfl pj_X11_copyRow rfl rfl rfl ((ct_X11_copyRow_8_158 X (by omega) M7 hH7 ).le (by decide)) (fun M8 ⟨hH8, hR8⟩ => ?_)
 have hF8 := hF7.tr hR8 (by decide +kernel)
 refine jx_load c1 hm rfl rfl rfl rfl ?_
 refine jx_getr c1 hm rfl sh_5 rfl ?_
 refine jx_load c1 hm rfl rfl rfl rfl ?_
 refine jx_getr c1 hm rfl sh_155 rfl ?_
 refine jt_v c3 hm rfl rfl pj_X11_copyRow rfl rfl rfl ((ct_X11_copyRow_10_160 X (by omega) M8 hH8 ).le (by decide)) (fun M9 ⟨hH9, hR9⟩ => ?_)
 have hF9 := hF8.tr hR9 (by decide +kernel)
 refine jx_load c1 hm rfl rfl rfl rfl ?_
 refine jx_getr c1 hm rfl sh_5 rfl ?_
 refine jx_load c1 hm rfl rfl rfl rfl ?_
 refine jx_getr c1 hm rfl sh_155 rfl ?_
 refine jt_v c3 hm rfl rfl pj_X11_copyRow rfl rfl rfl ((ct_X11_copyRow_11_161 X (by omega) M9 hH9 ).le (by decide)) (fun M10 ⟨hH10, hR10⟩ => ?_)
 have hF10 := hF9.tr hR10 (by decide +kernel)
 refine jx_load c1 hm rfl rfl rfl rfl ?_
 refine jx_load c1 hm rfl rfl rfl rfl ?_
 have k11 : M10.1 5 6 = z1 := (hR10 5 6 (by decide +kernel)).trans ((hR9 5 6 (by decide +kernel)).trans ((hR8 5 6 (by decide +kernel)).trans ((n7 5 6).trans ((hR6 5 6 (by decide +kernel)).trans k2))))
 refine jx_geti c1 hm rfl sh_5 rfl k11 ?_
 obtain ⟨M12, e12, hH12, hF12, k12, n12, q12⟩ := mup hH10 hF10 (c := 155) (i := 6) (v := z1) (A := 0) (B := 9) (bs_20_1 _ _ (by omega) (by omega)) ⟨by omega, by omega⟩ (jin_of 0 rfl ⟨by omega, by omega⟩)
 refine jm_puti c1 hm rfl sh_155 rfl e12 ?_
 refine jx_load c1 hm rfl rfl rfl rfl ?_
 refine jx_load c1 hm rfl rfl rfl rfl ?_
 have k13 : M12.1 5 7 = z3 := (n12 5 7 (fun h => absurd h.1 (by decide))).trans ((hR10 5 7 (by decide +kernel)).trans ((hR9 5 7 (by decide +kernel)).trans ((hR8 5 7 (by decide +kernel)).trans ((n7 5 7).trans ((hR6 5 7 (by decide +kernel)).trans k4)))))
 refine jx_geti c1 hm rfl sh_5 rfl k13 ?_
 obtain ⟨M14, e14, hH14, hF14, k14, n14, q14⟩ := mup hH12 hF12 (c := 155) (i := 7) (v := z3) (A := 0) (B := 9) (bs_20_1 _ _ (by omega) (by omega)) ⟨by omega, by omega⟩ (jin_of 1 rfl ⟨by omega, by omega⟩)
 refine jm_puti c1 hm rfl sh_155 rfl e14 ?_
 refine jx_load c1 hm rfl rfl rfl rfl ?_
 refine jx_getr c1 hm rfl sh_155 rfl ?_
 refine jx_load c1 hm rfl rfl rfl rfl ?_
 refine jx_getr c1 hm rfl sh_5 rfl ?_
 refine jv_v c3 hm rfl pj_X8_takeAll rfl rfl ⟨_, _, _, rfl, sh_162⟩ rfl ((ct_X8_takeAll_162_12 X (by omega) M14 hH14 ).le (by decide)) (fun M15 ⟨hH15, hR15⟩ => ?_)
 have hF15 := hF14.tr hR15 (by decide +kernel)
 refine jx_load c1 hm rfl rfl rfl rfl ?_
 refine jx_getr c1 hm rfl sh_155 rfl ?_
 refine jx_load c1 hm rfl rfl rfl rfl ?_
 refine jx_getr c1 hm rfl sh_5 rfl ?_
 refine jv_v c3 hm rfl pj_X7_takeAll rfl rfl ⟨_, _, _, rfl, sh_170⟩ rfl ((ct_X7_takeAll_170_20 X (by omega) M15 hH15 ).le (by decide)) (fun M16 ⟨hH16, hR16⟩ => ?_)
 have hF16 := hF15.tr hR16 (by decide +kernel)
 exact jx_retv c2 hm rfl rfl ⟨rfl, hH16, hF16, (dq_cp (fun j hj => ((((((((hR16 156 j rfl).trans (hR15 156 j rfl)).trans (n14 156 j (fun h => absurd h.1 (by decide)))).trans (n12 156 j (fun h => absurd h.1 (by decide)))).trans (hR10 156 j rfl)).trans (hR9 156 j rfl)).trans (hR8 156 j rfl)).trans (n7 156 j)).trans (p5 j hj)) (by have y9 := (((hR16 155 6 rfl).trans (hR15 155 6 rfl)).trans (n14 155 6 (by decide))); omega) (by have y9 := ((hR16 155 7 rfl).trans (hR15 155 7 rfl)); omega))⟩
def md_X11_image_0w : List (Nat × (Nat × Nat)) := [(46, (0, 0)), (46, (1, 1)), (137, (6, 6)), (137, (7, 7)), (138, (0, 2)), (139, (0, 17)), (140, (0, 5)), (142, (0, 35)), (143, (0, 5)), (144, (7, 7)), (145, (0, 5)), (146, (0, 5)), (147, (0, 5)), (148, (0, 5)), (149, (0, 35)), (150, (0, 35)), (151, (0, 35)), (152, (2, 2)), (152, (3, 3)), (153, (0, 39)), (155, (6, 6)), (155, (7, 7)), (156, (0, 2)), (157, (0, 17)), (158, (0, 5)), (160, (0, 35)), (161, (0, 5)), (162, (7, 7)), (163, (0, 5)), (164, (0, 5)), (165, (0, 5)), (166, (0, 5)), (167, (0, 35)), (168, (0, 35)), (169, (0, 35)), (170, (2, 2)), (170, (3, 3)), (171, (0, 39))]
theorem ct_X11_image_0w (X : Int) (hX : 0 ≤ X ∧ X ≤ 100000000) (M0 : JM) (hH0 : HI X M0) (a0 : Int) (ha0 : (-2147483648) ≤ a0 ∧ a0 ≤ 2147483647) : JOk shp PJ 4 44 [.inr (.inr (.inl 0)), .inl a0] M0 (jRi (fun v M' => HI X M' ∧ Fr md_X11_image_0w M0 M' ∧ 0 ≤ v ∧ v ≤ 1 ∧ (imP 46 a0 M0 M') ∧ (v = 1 → 0 ≤ a0 ∧ a0 ≤ 1) ∧ (v = 1 ∨ a0 < 0 ∨ 1 < a0) ∧ (IMC a0 v M0 M'))) := by
 refine ⟨jr_X11_image, pj_X11_image, fun F c1 c2 c3 => ?_⟩
 have hm := pj_X11_image
 change F 0 [some (.inr (.inr (.inl 0))), some (.inl a0)] [] M0
 have hF0 : Fr md_X11_image_0w M0 M0 := Fr.rf _ _
 refine jx_load c1 hm rfl rfl rfl rfl ?_
 refine jz_lt c1 hm 9 rfl rfl (fun h1 => ?_) (fun h1 => ?_)
 ·
  refine jy_ic c1 hm rfl (by decide) ?_
  exact jx_retz c2 hm rfl rfl ⟨by omega, by omega⟩ ⟨_, rfl, hH0, hF0, by omega, by omega, (imP.no (fun _ => rfl) (by omega)), (by omega), (by omega), (IMC.no (by omega) rfl rfl)⟩
 refine jx_load c1 hm rfl rfl rfl rfl ?_
 refine jy_ic c1 hm rfl (by decide) ?_
 refine jc_lt c1 hm 11 rfl rfl (fun h2 => ?_) (fun h2 => ?_)
 ·
  refine jx_load c1 hm rfl rfl rfl rfl ?_
  refine jx_getr c1 hm rfl sh_0 rfl ?_
  refine jx_load c1 hm rfl rfl rfl rfl ?_
  have h3 : a0 = 0 ∨ a0 = 1 := by omega
  rcases h3 with h3 | h3
  ·
   refine jx_aald c1 hm rfl sh_45 (by omega) (by rw [h3]; rfl) ?_
   refine jx_load c1 hm rfl rfl rfl rfl ?_
   refine jx_getr c1 hm rfl sh_0 rfl ?_
   refine jv_v c3 hm rfl pj_X2_takeAll rfl rfl ⟨_, _, _, rfl, sh_137⟩ rfl ((ct_X2_takeAll_137_5w X (by omega) M0 hH0 ).le (by decide)) (fun M5 ⟨hH5, hR5, p4⟩ => ?_)
   have hF5 := hF0.tr hR5 (by decide +kernel)
   refine jx_load c1 hm rfl rfl rfl rfl ?_
   refine jx_getr c1 hm rfl sh_0 rfl ?_
   refine jx_load c1 hm rfl rfl rfl rfl ?_
   refine jy_ic c1 hm rfl (by decide) ?_
   obtain ⟨M6, e6, hH6, hF6, k6, n6, q6⟩ := mup hH5 hF5 (c := 46) (i := (a0).toNat) (v := 1) (A := 0) (B := 1) rfl ⟨by omega, by omega⟩ (jin_of 0 rfl ⟨by omega, by omega⟩)
   refine jm_bast c1 hm rfl sh_46 (Or.inr ⟨rfl, by omega, by omega⟩) ⟨by omega, by omega⟩ e6 ?_
   refine jy_ic c1 hm rfl (by decide) ?_
   exact jx_retz c2 hm rfl rfl ⟨by omega, by omega⟩ ⟨_, rfl, hH6, hF6, by omega, by omega, (imP.st k6 n6 (fun j => (hR5 46 _ rfl)) (by omega)), (by omega), (by omega), (IMC.i0 (by omega) (by omega) ((dq_cg (d := 137) (fun j => (n6 138 j (fun h => absurd h.1 (by decide)))) (n6 137 6 (fun h => absurd h.1 (by decide))) (n6 137 7 (fun h => absurd h.1 (by decide)))).trans p4) (dq_cg (d := 155) (fun j => ((n6 156 j (fun h => absurd h.1 (by decide))).trans (hR5 156 j rfl))) ((n6 155 6 (fun h => absurd h.1 (by decide))).trans (hR5 155 6 rfl)) ((n6 155 7 (fun h => absurd h.1 (by decide))).trans (hR5 155 7 rfl))))⟩
  ·
   refine jx_aald c1 hm rfl sh_45 (by omega) (by rw [h3]; rfl) ?_
   refine jx_load c1 hm rfl rfl rfl rfl ?_
   refine jx_getr c1 hm rfl sh_0 rfl ?_
   refine jv_v c3 hm rfl pj_X2_takeAll rfl rfl ⟨_, _, _, rfl, sh_155⟩ rfl ((ct_X2_takeAll_155_5w X (by omega) M0 hH0 ).le (by decide)) (fun M8 ⟨hH8, hR8, p7⟩ => ?_)
   have hF8 := hF0.tr hR8 (by decide +kernel)
   refine jx_load c1 hm rfl rfl rfl rfl ?_
   refine jx_getr c1 hm rfl sh_0 rfl ?_
   refine jx_load c1 hm rfl rfl rfl rfl ?_
   refine jy_ic c1 hm rfl (by decide) ?_
   obtain ⟨M9, e9, hH9, hF9, k9, n9, q9⟩ := mup hH8 hF8 (c := 46) (i := (a0).toNat) (v := 1) (A := 0) (B := 1) rfl ⟨by omega, by omega⟩ (jin_of 1 rfl ⟨by omega, by omega⟩)
   refine jm_bast c1 hm rfl sh_46 (Or.inr ⟨rfl, by omega, by omega⟩) ⟨by omega, by omega⟩ e9 ?_
   refine jy_ic c1 hm rfl (by decide) ?_
   exact jx_retz c2 hm rfl rfl ⟨by omega, by omega⟩ ⟨_, rfl, hH9, hF9, by omega, by omega, (imP.st k9 n9 (fun j => (hR8 46 _ rfl)) (by omega)), (by omega), (by omega), (IMC.i1 (by omega) (by omega) ((dq_cg (d := 155) (fun j => (n9 156 j (fun h => absurd h.1 (by decide)))) (n9 155 6 (fun h => absurd h.1 (by decide))) (n9 155 7 (fun h => absurd h.1 (by decide)))).trans p7) (dq_cg (d := 137) (fun j => ((n9 138 j (fun h => absurd h.1 (by decide))).trans (hR8 138 j rfl))) ((n9 137 6 (fun h => absurd h.1 (by decide))).trans (hR8 137 6 rfl)) ((n9 137 7 (fun h => absurd h.1 (by decide))).trans (hR8 137 7 rfl))))⟩
 refine jy_ic c1 hm rfl (by decide) ?_
 exact jx_retz c2 hm rfl rfl ⟨by omega, by omega⟩ ⟨_, rfl, hH0, hF0, by omega, by omega, (imP.no (fun _ => rfl) (by omega)), (by omega), (by omega), (IMC.no (by omega) rfl rfl)⟩
def md_X11_copyRow_138_6w : List (Nat × (Nat × Nat)) := [(6, (0, 2))]
theorem ct_X11_copyRow_138_6w (X : Int) (hX : 0 ≤ X ∧ X ≤ 100000000) (M0 : JM) (hH0 : HI X M0)  : JOk shp PJ 1 29 [.inr (.inr (.inl 138)), .inr (.inr (.inl 6))] M0 (jRv (fun M' => HI X M' ∧ Fr md_X11_copyRow_138_6w M0 M' ∧ (∀ j : Nat, (j : Int) < 3 → M'.1 6 j = M0.1 138 j))) := by
 refine ⟨jr_X11_copyRow, pj_X11_copyRow, fun F c1 c2 c3 => ?_⟩
 have hm := pj_X11_copyRow
 change F 0 [some (.inr (.inr (.inl 138))), some (.inr (.inr (.inl 6)))] [] M0
 have hF0 : Fr md_X11_copyRow_138_6w M0 M0 := Fr.rf _ _
 refine jx_load c1 hm rfl rfl rfl rfl ?_
 refine jy_ic c1 hm rfl (by decide) ?_
 refine jx_load c1 hm rfl rfl rfl rfl ?_
 refine jy_ic c1 hm rfl (by decide) ?_
 refine jx_load c1 hm rfl rfl rfl rfl ?_
 refine jx_alen c1 hm (v := 3) rfl sh_138 rfl rfl ?_
 refine jx_load c1 hm rfl rfl rfl rfl ?_
 refine jx_alen c1 hm (v := 3) rfl sh_6 rfl rfl ?_
 refine jx_min c1 hm rfl rfl (fun z1 lz1 uz1 ez1 => ?_)
 obtain ⟨M2, e2, hH2, hF2, n2, _⟩ := mcp hH0 hF0 (c1 := 138) (c2 := 6) (n := z1) (fun _ _ => rfl) (fun j hj => jin_of 0 rfl ⟨by omega, by omega⟩)
 refine jm_acpi c1 hm rfl rfl sh_138 sh_6 ⟨by omega, by omega, by omega⟩ e2 ?_
 exact jx_retv c2 hm rfl rfl ⟨rfl, hH2, hF2, (fun j hj => cp_at e2 (by omega))⟩
def md_X2_takeAll_5_137w : List (Nat × (Nat × Nat)) := [(5, (6, 6)), (5, (7, 7)), (6, (0, 2)), (7, (0, 17)), (8, (0, 5)), (10, (0, 35)), (11, (0, 5)), (12, (7, 7)), (13, (0, 5)), (14, (0, 5)), (15, (0, 5)), (16, (0, 5)), (17, (0, 35)), (18, (0, 35)), (19, (0, 35)), (20, (2, 2)), (20, (3, 3)), (21, (0, 39))]
theorem ct_X2_takeAll_5_137w (X : Int) (hX : 0 ≤ X ∧ X ≤ 100000000) (M0 : JM) (hH0 : HI X M0)  : JOk shp PJ 3 231 [.inr (.inr (.inl 5)), .inr (.inr (.inl 137))] M0 (jRv (fun M' => HI X M' ∧ Fr md_X2_takeAll_5_137w M0 M' ∧ (dq M' 5 = dq M0 137))) := by
 refine ⟨jr_X2_takeAll, pj_X2_takeAll, fun F c1 c2 c3 => ?_⟩
 have hm := pj_X2_takeAll
 change F 0 [some (.inr (.inr (.inl 5))), some (.inr (.inr (.inl 137)))] [] M0
 have hF0 : Fr md_X2_takeAll_5_137w M0 M0 := Fr.rf _ _
 obtain ⟨z1, k2, lz1, uz1⟩ := hH0.ld (c := 137) (i := 6) (A := 0) (B := 9) (bs_20_1 _ _ (by omega) (by omega))
 obtain ⟨z3, k4, lz3, uz3⟩ := hH0.ld (c := 137) (i := 7) (A := 0) (B := 9) (bs_20_1 _ _ (by omega) (by omega))
 refine jx_load c1 hm rfl rfl rfl rfl ?_
 refine jx_getr c1 hm rfl sh_137 rfl ?_
 refine jx_load c1 hm rfl rfl rfl rfl ?_
 refine jx_getr c1 hm rfl sh_5 rfl ?_
 refine jt_v c3 hm rfl rfl pj_X11_copyRow rfl rfl rfl ((ct_X11_copyRow_138_6w X (by omega) M0 hH0 ).le (by decide)) (fun M6 ⟨hH6, hR6, p5⟩ => ?_)
 have hF6 := hF0.tr hR6 (by decide +kernel)
 refine jx_load c1 hm rfl rfl rfl rfl ?_
 refine jx_getr c1 hm rfl sh_137 rfl ?_
 refine jy_ic c1 hm rfl (by decide) ?_
 refine jx_load c1 hm rfl rfl rfl rfl ?_
 refine jx_getr c1 hm rfl sh_5 rfl ?_
 refine jy_ic c1 hm rfl (by decide) ?_
 refine jy_bp c1 hm rfl (by decide) ?_
 obtain ⟨M7, e7, hH7, hF7, n7⟩ := mcl hH6 hF6 (c1 := 139) (c2 := 7) (n := 18) rfl
 refine jm_acpl c1 hm rfl rfl sh_139 sh_7 ⟨by omega, by omega, by omega⟩ e7 ?_
 refine jx_load c1 hm rfl rfl rfl rfl ?_
 refine jx_getr c1 hm rfl sh_137 rfl ?_
 refine jx_load c1 hm rfl rfl rfl rfl ?_
 refine jx_getr c1 hm rfl sh_5 rfl ?_
 refine jt_v c3 hm rfl rfl pj_X11_copyRow rfl rfl rfl ((ct_X11_copyRow_140_8 X (by omega) M7 hH7 ).le (by decide)) (fun M8 ⟨hH8, hR8⟩ => ?_)
 have hF8 := hF7.tr hR8 (by decide +kernel)
 refine jx_load c1 hm rfl rfl rfl rfl ?_
 refine jx_getr c1 hm rfl sh_137 rfl ?_
 refine jx_load c1 hm rfl rfl rfl rfl ?_
 refine jx_getr c1 hm rfl sh_5 rfl ?_
 refine jt_v c3 hm rfl rfl pj_X11_copyRow rfl rfl rfl ((ct_X11_copyRow_142_10 X (by omega) M8 hH8 ).le (by decide)) (fun M9 ⟨hH9, hR9⟩ => ?_)
 have hF9 := hF8.tr hR9 (by decide +kernel)
 refine jx_load c1 hm rfl rfl rfl rfl ?_
 refine jx_getr c1 hm rfl sh_137 rfl ?_
 refine jx_load c1 hm rfl rfl rfl rfl ?_
 refine jx_getr c1 hm rfl sh_5 rfl ?_
 refine jt_v c3 hm rfl rfl pj_X11_copyRow rfl rfl rfl ((ct_X11_copyRow_143_11 X (by omega) M9 hH9 ).le (by decide)) (fun M10 ⟨hH10, hR10⟩ => ?_)
 have hF10 := hF9.tr hR10 (by decide +kernel)
 refine jx_load c1 hm rfl rfl rfl rfl ?_
 refine jx_load c1 hm rfl rfl rfl rfl ?_
 have k11 : M10.1 137 6 = z1 := (hR10 137 6 (by decide +kernel)).trans ((hR9 137 6 (by decide +kernel)).trans ((hR8 137 6 (by decide +kernel)).trans ((n7 137 6).trans ((hR6 137 6 (by decide +kernel)).trans k2))))
 refine jx_geti c1 hm rfl sh_137 rfl k11 ?_
 obtain ⟨M12, e12, hH12, hF12, k12, n12, q12⟩ := mup hH10 hF10 (c := 5) (i := 6) (v := z1) (A := 0) (B := 9) (bs_20_1 _ _ (by omega) (by omega)) ⟨by omega, by omega⟩ (jin_of 0 rfl ⟨by omega, by omega⟩)
 refine jm_puti c1 hm rfl sh_5 rfl e12 ?_
 refine jx_load c1 hm rfl rfl rfl rfl ?_
 refine jx_load c1 hm rfl rfl rfl rfl ?_
 have k13 : M12.1 137 7 = z3 := (n12 137 7 (fun h => absurd h.1 (by decide))).trans ((hR10 137 7 (by decide +kernel)).trans ((hR9 137 7 (by decide +kernel)).trans ((hR8 137 7 (by decide +kernel)).trans ((n7 137 7).trans ((hR6 137 7 (by decide +kernel)).trans k4)))))
 refine jx_geti c1 hm rfl sh_137 rfl k13 ?_
 obtain ⟨M14, e14, hH14, hF14, k14, n14, q14⟩ := mup hH12 hF12 (c := 5) (i := 7) (v := z3) (A := 0) (B := 9) (bs_20_1 _ _ (by omega) (by omega)) ⟨by omega, by omega⟩ (jin_of 1 rfl ⟨by omega, by omega⟩)
 refine jm_puti c1 hm rfl sh_5 rfl e14 ?_
 refine jx_load c1 hm rfl rfl rfl rfl ?_
 refine jx_getr c1 hm rfl sh_5 rfl ?_
 refine jx_load c1 hm rfl rfl rfl rfl ?_
 refine jx_getr c1 hm rfl sh_137 rfl ?_
 refine jv_v c3 hm rfl pj_X8_takeAll rfl rfl ⟨_, _, _, rfl, sh_12⟩ rfl ((ct_X8_takeAll_12_144 X (by omega) M14 hH14 ).le (by decide)) (fun M15 ⟨hH15, hR15⟩ => ?_)
 have hF15 := hF14.tr hR15 (by decide +kernel)
 refine jx_load c1 hm rfl rfl rfl rfl ?_
 refine jx_getr c1 hm rfl sh_5 rfl ?_
 refine jx_load c1 hm rfl rfl rfl rfl ?_
 refine jx_getr c1 hm rfl sh_137 rfl ?_
 refine jv_v c3 hm rfl pj_X7_takeAll rfl rfl ⟨_, _, _, rfl, sh_20⟩ rfl ((ct_X7_takeAll_20_152 X (by omega) M15 hH15 ).le (by decide)) (fun M16 ⟨hH16, hR16⟩ => ?_)
 have hF16 := hF15.tr hR16 (by decide +kernel)
 exact jx_retv c2 hm rfl rfl ⟨rfl, hH16, hF16, (dq_cp (fun j hj => ((((((((hR16 6 j rfl).trans (hR15 6 j rfl)).trans (n14 6 j (fun h => absurd h.1 (by decide)))).trans (n12 6 j (fun h => absurd h.1 (by decide)))).trans (hR10 6 j rfl)).trans (hR9 6 j rfl)).trans (hR8 6 j rfl)).trans (n7 6 j)).trans (p5 j hj)) (by have y9 := (((hR16 5 6 rfl).trans (hR15 5 6 rfl)).trans (n14 5 6 (by decide))); omega) (by have y9 := ((hR16 5 7 rfl).trans (hR15 5 7 rfl)); omega))⟩
def md_X11_copyRow_156_6w : List (Nat × (Nat × Nat)) := [(6, (0, 2))]
theorem ct_X11_copyRow_156_6w (X : Int) (hX : 0 ≤ X ∧ X ≤ 100000000) (M0 : JM) (hH0 : HI X M0)  : JOk shp PJ 1 29 [.inr (.inr (.inl 156)), .inr (.inr (.inl 6))] M0 (jRv (fun M' => HI X M' ∧ Fr md_X11_copyRow_156_6w M0 M' ∧ (∀ j : Nat, (j : Int) < 3 → M'.1 6 j = M0.1 156 j))) := by
 refine ⟨jr_X11_copyRow, pj_X11_copyRow, fun F c1 c2 c3 => ?_⟩
 have hm := pj_X11_copyRow
 change F 0 [some (.inr (.inr (.inl 156))), some (.inr (.inr (.inl 6)))] [] M0
 have hF0 : Fr md_X11_copyRow_156_6w M0 M0 := Fr.rf _ _
 refine jx_load c1 hm rfl rfl rfl rfl ?_
 refine jy_ic c1 hm rfl (by decide) ?_
 refine jx_load c1 hm rfl rfl rfl rfl ?_
 refine jy_ic c1 hm rfl (by decide) ?_
 refine jx_load c1 hm rfl rfl rfl rfl ?_
 refine jx_alen c1 hm (v := 3) rfl sh_156 rfl rfl ?_
 refine jx_load c1 hm rfl rfl rfl rfl ?_
 refine jx_alen c1 hm (v := 3) rfl sh_6 rfl rfl ?_
 refine jx_min c1 hm rfl rfl (fun z1 lz1 uz1 ez1 => ?_)
 obtain ⟨M2, e2, hH2, hF2, n2, _⟩ := mcp hH0 hF0 (c1 := 156) (c2 := 6) (n := z1) (fun _ _ => rfl) (fun j hj => jin_of 0 rfl ⟨by omega, by omega⟩)
 refine jm_acpi c1 hm rfl rfl sh_156 sh_6 ⟨by omega, by omega, by omega⟩ e2 ?_
 exact jx_retv c2 hm rfl rfl ⟨rfl, hH2, hF2, (fun j hj => cp_at e2 (by omega))⟩
def md_X2_takeAll_5_155w : List (Nat × (Nat × Nat)) := [(5, (6, 6)), (5, (7, 7)), (6, (0, 2)), (7, (0, 17)), (8, (0, 5)), (10, (0, 35)), (11, (0, 5)), (12, (7, 7)), (13, (0, 5)), (14, (0, 5)), (15, (0, 5)), (16, (0, 5)), (17, (0, 35)), (18, (0, 35)), (19, (0, 35)), (20, (2, 2)), (20, (3, 3)), (21, (0, 39))]
theorem ct_X2_takeAll_5_155w (X : Int) (hX : 0 ≤ X ∧ X ≤ 100000000) (M0 : JM) (hH0 : HI X M0)  : JOk shp PJ 3 231 [.inr (.inr (.inl 5)), .inr (.inr (.inl 155))] M0 (jRv (fun M' => HI X M' ∧ Fr md_X2_takeAll_5_155w M0 M' ∧ (dq M' 5 = dq M0 155))) := by
 refine ⟨jr_X2_takeAll, pj_X2_takeAll, fun F c1 c2 c3 => ?_⟩
 have hm := pj_X2_takeAll
 change F 0 [some (.inr (.inr (.inl 5))), some (.inr (.inr (.inl 155)))] [] M0
 have hF0 : Fr md_X2_takeAll_5_155w M0 M0 := Fr.rf _ _
 obtain ⟨z1, k2, lz1, uz1⟩ := hH0.ld (c := 155) (i := 6) (A := 0) (B := 9) (bs_20_1 _ _ (by omega) (by omega))
 obtain ⟨z3, k4, lz3, uz3⟩ := hH0.ld (c := 155) (i := 7) (A := 0) (B := 9) (bs_20_1 _ _ (by omega) (by omega))
 refine jx_load c1 hm rfl rfl rfl rfl ?_
 refine jx_getr c1 hm rfl sh_155 rfl ?_
 refine jx_load c1 hm rfl rfl rfl rfl ?_
 refine jx_getr c1 hm rfl sh_5 rfl ?_
 refine jt_v c3 hm rfl rfl pj_X11_copyRow rfl rfl rfl ((ct_X11_copyRow_156_6w X (by omega) M0 hH0 ).le (by decide)) (fun M6 ⟨hH6, hR6, p5⟩ => ?_)
 have hF6 := hF0.tr hR6 (by decide +kernel)
 refine jx_load c1 hm rfl rfl rfl rfl ?_
 refine jx_getr c1 hm rfl sh_155 rfl ?_
 refine jy_ic c1 hm rfl (by decide) ?_
 refine jx_load c1 hm rfl rfl rfl rfl ?_
 refine jx_getr c1 hm rfl sh_5 rfl ?_
 refine jy_ic c1 hm rfl (by decide) ?_
 refine jy_bp c1 hm rfl (by decide) ?_
 obtain ⟨M7, e7, hH7, hF7, n7⟩ := mcl hH6 hF6 (c1 := 157) (c2 := 7) (n := 18) rfl
 refine jm_acpl c1 hm rfl rfl sh_157 sh_7 ⟨by omega, by omega, by omega⟩ e7 ?_
 refine jx_load c1 hm rfl rfl rfl rfl ?_
 refine jx_getr c1 hm rfl sh_155 rfl ?_
 refine jx_load c1 hm rfl rfl rfl rfl ?_
 refine jx_getr c1 hm rfl sh_5 rfl ?_
 refine jt_v c3 hm rfl rfl pj_X11_copyRow rfl rfl rfl ((ct_X11_copyRow_158_8 X (by omega) M7 hH7 ).le (by decide)) (fun M8 ⟨hH8, hR8⟩ => ?_)
 have hF8 := hF7.tr hR8 (by decide +kernel)
 refine jx_load c1 hm rfl rfl rfl rfl ?_
 refine jx_getr c1 hm rfl sh_155 rfl ?_
 refine jx_load c1 hm rfl rfl rfl rfl ?_
 refine jx_getr c1 hm rfl sh_5 rfl ?_
 refine jt_v c3 hm rfl rfl pj_X11_copyRow rfl rfl rfl ((ct_X11_copyRow_160_10 X (by omega) M8 hH8 ).le (by decide)) (fun M9 ⟨hH9, hR9⟩ => ?_)
 have hF9 := hF8.tr hR9 (by decide +kernel)
 refine jx_load c1 hm rfl rfl rfl rfl ?_
 refine jx_getr c1 hm rfl sh_155 rfl ?_
 refine jx_load c1 hm rfl rfl rfl rfl ?_
 refine jx_getr c1 hm rfl sh_5 rfl ?_
 refine jt_v c3 hm rfl rfl pj_X11_copyRow rfl rfl rfl ((ct_X11_copyRow_161_11 X (by omega) M9 hH9 ).le (by decide)) (fun M10 ⟨hH10, hR10⟩ => ?_)
 have hF10 := hF9.tr hR10 (by decide +kernel)
 refine jx_load c1 hm rfl rfl rfl rfl ?_
 refine jx_load c1 hm rfl rfl rfl rfl ?_
 have k11 : M10.1 155 6 = z1 := (hR10 155 6 (by decide +kernel)).trans ((hR9 155 6 (by decide +kernel)).trans ((hR8 155 6 (by decide +kernel)).trans ((n7 155 6).trans ((hR6 155 6 (by decide +kernel)).trans k2))))
 refine jx_geti c1 hm rfl sh_155 rfl k11 ?_
 obtain ⟨M12, e12, hH12, hF12, k12, n12, q12⟩ := mup hH10 hF10 (c := 5) (i := 6) (v := z1) (A := 0) (B := 9) (bs_20_1 _ _ (by omega) (by omega)) ⟨by omega, by omega⟩ (jin_of 0 rfl ⟨by omega, by omega⟩)
 refine jm_puti c1 hm rfl sh_5 rfl e12 ?_
 refine jx_load c1 hm rfl rfl rfl rfl ?_
 refine jx_load c1 hm rfl rfl rfl rfl ?_
 have k13 : M12.1 155 7 = z3 := (n12 155 7 (fun h => absurd h.1 (by decide))).trans ((hR10 155 7 (by decide +kernel)).trans ((hR9 155 7 (by decide +kernel)).trans ((hR8 155 7 (by decide +kernel)).trans ((n7 155 7).trans ((hR6 155 7 (by decide +kernel)).trans k4)))))
 refine jx_geti c1 hm rfl sh_155 rfl k13 ?_
 obtain ⟨M14, e14, hH14, hF14, k14, n14, q14⟩ := mup hH12 hF12 (c := 5) (i := 7) (v := z3) (A := 0) (B := 9) (bs_20_1 _ _ (by omega) (by omega)) ⟨by omega, by omega⟩ (jin_of 1 rfl ⟨by omega, by omega⟩)
 refine jm_puti c1 hm rfl sh_5 rfl e14 ?_
 refine jx_load c1 hm rfl rfl rfl rfl ?_
 refine jx_getr c1 hm rfl sh_5 rfl ?_
 refine jx_load c1 hm rfl rfl rfl rfl ?_
 refine jx_getr c1 hm rfl sh_155 rfl ?_
 refine jv_v c3 hm rfl pj_X8_takeAll rfl rfl ⟨_, _, _, rfl, sh_12⟩ rfl ((ct_X8_takeAll_12_162 X (by omega) M14 hH14 ).le (by decide)) (fun M15 ⟨hH15, hR15⟩ => ?_)
 have hF15 := hF14.tr hR15 (by decide +kernel)
 refine jx_load c1 hm rfl rfl rfl rfl ?_
 refine jx_getr c1 hm rfl sh_5 rfl ?_
 refine jx_load c1 hm rfl rfl rfl rfl ?_
 refine jx_getr c1 hm rfl sh_155 rfl ?_
 refine jv_v c3 hm rfl pj_X7_takeAll rfl rfl ⟨_, _, _, rfl, sh_20⟩ rfl ((ct_X7_takeAll_20_170 X (by omega) M15 hH15 ).le (by decide)) (fun M16 ⟨hH16, hR16⟩ => ?_)
 have hF16 := hF15.tr hR16 (by decide +kernel)
 exact jx_retv c2 hm rfl rfl ⟨rfl, hH16, hF16, (dq_cp (fun j hj => ((((((((hR16 6 j rfl).trans (hR15 6 j rfl)).trans (n14 6 j (fun h => absurd h.1 (by decide)))).trans (n12 6 j (fun h => absurd h.1 (by decide)))).trans (hR10 6 j rfl)).trans (hR9 6 j rfl)).trans (hR8 6 j rfl)).trans (n7 6 j)).trans (p5 j hj)) (by have y9 := (((hR16 5 6 rfl).trans (hR15 5 6 rfl)).trans (n14 5 6 (by decide))); omega) (by have y9 := ((hR16 5 7 rfl).trans (hR15 5 7 rfl)); omega))⟩
def md_X11_restore_0w : List (Nat × (Nat × Nat)) := [(5, (6, 6)), (5, (7, 7)), (6, (0, 2)), (7, (0, 17)), (8, (0, 5)), (10, (0, 35)), (11, (0, 5)), (12, (7, 7)), (13, (0, 5)), (14, (0, 5)), (15, (0, 5)), (16, (0, 5)), (17, (0, 35)), (18, (0, 35)), (19, (0, 35)), (20, (2, 2)), (20, (3, 3)), (21, (0, 39)), (55, (2, 2))]
theorem ct_X11_restore_0w (X : Int) (hX : 0 ≤ X ∧ X ≤ 100000000) (M0 : JM) (hH0 : HI X M0) (a0 : Int) (ha0 : (-2147483648) ≤ a0 ∧ a0 ≤ 2147483647) : JOk shp PJ 4 60 [.inr (.inr (.inl 0)), .inl a0] M0 (jRi (fun v M' => HI X M' ∧ Fr md_X11_restore_0w M0 M' ∧ 0 ≤ v ∧ v ≤ 1 ∧ (v = imR 46 a0 M0) ∧ (RSC a0 v M0 M'))) := by
 refine ⟨jr_X11_restore, pj_X11_restore, fun F c1 c2 c3 => ?_⟩
 have hm := pj_X11_restore
 change F 0 [some (.inr (.inr (.inl 0))), some (.inl a0)] [] M0
 have hF0 : Fr md_X11_restore_0w M0 M0 := Fr.rf _ _
 refine jx_load c1 hm rfl rfl rfl rfl ?_
 refine jz_lt c1 hm 18 rfl rfl (fun h1 => ?_) (fun h1 => ?_)
 ·
  refine jy_ic c1 hm rfl (by decide) ?_
  exact jx_retz c2 hm rfl rfl ⟨by omega, by omega⟩ ⟨_, rfl, hH0, hF0, by omega, by omega, (by unfold imR; split <;> omega), (RSC.no (by omega) rfl)⟩
 refine jx_load c1 hm rfl rfl rfl rfl ?_
 refine jy_ic c1 hm rfl (by decide) ?_
 refine jc_ge c1 hm 18 rfl rfl (fun h2 => ?_) (fun h2 => ?_)
 ·
  refine jy_ic c1 hm rfl (by decide) ?_
  exact jx_retz c2 hm rfl rfl ⟨by omega, by omega⟩ ⟨_, rfl, hH0, hF0, by omega, by omega, (by unfold imR; split <;> omega), (RSC.no (by omega) rfl)⟩
 refine jx_load c1 hm rfl rfl rfl rfl ?_
 refine jx_getr c1 hm rfl sh_0 rfl ?_
 refine jx_load c1 hm rfl rfl rfl rfl ?_
 obtain ⟨z3, k4, lz3, uz3⟩ := hH0.ld (c := 46) (i := (a0).toNat) (A := 0) (B := 1) rfl
 refine jx_bald c1 hm rfl sh_46 rfl ⟨by omega, by omega⟩ k4 ?_
 refine jz_ne c1 hm 20 rfl rfl (fun h5 => ?_) (fun h5 => ?_)
 ·
  refine jx_load c1 hm rfl rfl rfl rfl ?_
  refine jx_getr c1 hm rfl sh_0 rfl ?_
  refine jx_load c1 hm rfl rfl rfl rfl ?_
  refine jx_getr c1 hm rfl sh_0 rfl ?_
  refine jx_load c1 hm rfl rfl rfl rfl ?_
  have h6 : a0 = 0 ∨ a0 = 1 := by omega
  rcases h6 with h6 | h6
  ·
   refine jx_aald c1 hm rfl sh_45 (by omega) (by rw [h6]; rfl) ?_
   refine jv_v c3 hm rfl pj_X2_takeAll rfl rfl ⟨_, _, _, rfl, sh_5⟩ rfl ((ct_X2_takeAll_5_137w X (by omega) M0 hH0 ).le (by decide)) (fun M8 ⟨hH8, hR8, p7⟩ => ?_)
   have hF8 := hF0.tr hR8 (by decide +kernel)
   refine jx_load c1 hm rfl rfl rfl rfl ?_
   refine jx_getr c1 hm rfl sh_0 rfl ?_
   refine jv_v c3 hm rfl pj_X4_forget rfl rfl ⟨_, _, _, rfl, sh_55⟩ rfl ((ct_X4_forget_55 X (by omega) M8 hH8 ).le (by decide)) (fun M9 ⟨hH9, hR9⟩ => ?_)
   have hF9 := hF8.tr hR9 (by decide +kernel)
   refine jy_ic c1 hm rfl (by decide) ?_
   exact jx_retz c2 hm rfl rfl ⟨by omega, by omega⟩ ⟨_, rfl, hH9, hF9, by omega, by omega, (by unfold imR; split <;> omega), (RSC.i0 (by omega) (by omega) ((dq_cg (d := 5) (fun j => (hR9 6 j rfl)) (hR9 5 6 rfl) (hR9 5 7 rfl)).trans p7))⟩
  ·
   refine jx_aald c1 hm rfl sh_45 (by omega) (by rw [h6]; rfl) ?_
   refine jv_v c3 hm rfl pj_X2_takeAll rfl rfl ⟨_, _, _, rfl, sh_5⟩ rfl ((ct_X2_takeAll_5_155w X (by omega) M0 hH0 ).le (by decide)) (fun M11 ⟨hH11, hR11, p10⟩ => ?_)
   have hF11 := hF0.tr hR11 (by decide +kernel)
   refine jx_load c1 hm rfl rfl rfl rfl ?_
   refine jx_getr c1 hm rfl sh_0 rfl ?_
   refine jv_v c3 hm rfl pj_X4_forget rfl rfl ⟨_, _, _, rfl, sh_55⟩ rfl ((ct_X4_forget_55 X (by omega) M11 hH11 ).le (by decide)) (fun M12 ⟨hH12, hR12⟩ => ?_)
   have hF12 := hF11.tr hR12 (by decide +kernel)
   refine jy_ic c1 hm rfl (by decide) ?_
   exact jx_retz c2 hm rfl rfl ⟨by omega, by omega⟩ ⟨_, rfl, hH12, hF12, by omega, by omega, (by unfold imR; split <;> omega), (RSC.i1 (by omega) (by omega) ((dq_cg (d := 5) (fun j => (hR12 6 j rfl)) (hR12 5 6 rfl) (hR12 5 7 rfl)).trans p10))⟩
 refine jy_ic c1 hm rfl (by decide) ?_
 exact jx_retz c2 hm rfl rfl ⟨by omega, by omega⟩ ⟨_, rfl, hH0, hF0, by omega, by omega, (by unfold imR; split <;> omega), (RSC.no (by omega) rfl)⟩
def md_X12_image_173w : List (Nat × (Nat × Nat)) := [(173, (0, 0)), (177, (0, 951)), (183, (0, 1))]
theorem ct_X12_image_173w (X : Int) (hX : 0 ≤ X ∧ X ≤ 100000000) (M0 : JM) (hH0 : HI X M0) (a0 : Int) (ha0 : (-2147483648) ≤ a0 ∧ a0 ≤ 2147483647) (hp0 : SOK M0) (hp1 : KOK M0 0) (hp2 : KOK M0 1) : JOk shp PJ 2 114 [.inr (.inr (.inl 173)), .inl a0] M0 (jRi (fun v M' => HI X M' ∧ Fr md_X12_image_173w M0 M' ∧ 0 ≤ v ∧ v ≤ 1 ∧ (KOK M' 0) ∧ (KOK M' 1) ∧ (imP 183 a0 M0 M') ∧ (v = 1 → 0 ≤ a0 ∧ a0 ≤ 1) ∧ (v = 1 ∨ a0 < 0 ∨ 1 < a0) ∧ (IMN a0 v M0 M'))) := by
 refine ⟨jr_X12_image, pj_X12_image, fun F c1 c2 c3 => ?_⟩
 have hm := pj_X12_image
 change F 0 [some (.inr (.inr (.inl 173))), some (.inl a0), none] [] M0
 have hF0 : Fr md_X12_image_173w M0 M0 := Fr.rf _ _
 refine jx_load c1 hm rfl rfl rfl rfl ?_
 refine jy_ic c1 hm rfl (by decide) ?_
 obtain ⟨M1, e1, hH1, hF1, k1, n1, q1⟩ := mup hH0 hF0 (c := 173) (i := 0) (v := 0) (A := (-2147483648)) (B := 2147483647) (bs_28_0 _ _ (by omega) (by omega)) ⟨by omega, by omega⟩ (jin_of 0 rfl ⟨by omega, by omega⟩)
 refine jm_puti c1 hm rfl sh_173 rfl e1 ?_
 refine jx_load c1 hm rfl rfl rfl rfl ?_
 refine jy_ic c1 hm rfl (by decide) ?_
 refine jy_ic c1 hm rfl (by decide) ?_
 refine jt_i c3 hm rfl rfl pj_X12_isIn rfl rfl rfl ((ct_X12_isInp X (by omega) M1 hH1 a0 ⟨by omega, by omega⟩ 0 ⟨by omega, by omega⟩ 1 ⟨by omega, by omega⟩).le (by decide)) (fun z2 _ ⟨rfl, lz2, uz2, p3, p4⟩ => ?_)
 refine jz_ne c1 hm 16 rfl rfl (fun h5 => ?_) (fun h5 => ?_)
 ·
  refine jy_ic c1 hm rfl (by decide) ?_
  refine jx_stor c1 hm (L' := [some (.inr (.inr (.inl 173))), some (.inl a0), some (.inl 0)]) rfl rfl rfl rfl rfl ?_
  have W12 : ∀ (n13 : Nat) (b6 : Int) (hb6 : 0 ≤ b6 ∧ b6 ≤ 476) (M7 : JM) (hH7 : HI (X) M7) (hF7 : Fr md_X12_image_173w M0 M7) (k8 : M7.1 173 0 = 0) (hcI : ∀ j : Nat, (j : Int) < b6 → M7.1 177 (476 * (a0).toNat + j) = M0.1 175 j) (hcO : ∀ j : Nat, j < 476 * (a0).toNat ∨ 476 * (a0).toNat + 476 ≤ j → M7.1 177 j = M0.1 177 j) (hcK : ∀ j : Nat, M7.1 183 j = M0.1 183 j), (-b6 + 476) < (n13 : Int) → F 18 [some (.inr (.inr (.inl 173))), some (.inl a0), some (.inl b6)] [] M7 := by
   intro n13
   induction n13 with
   | zero => intros; omega
   | succ n13 ihW12 =>
    intro b6 hb6 M7 hH7 hF7 k8 hcI hcO hcK hrW12
    refine jx_load c1 hm rfl rfl rfl rfl ?_
    refine jy_sp c1 hm rfl (by decide) ?_
    refine jc_ge c1 hm 49 rfl rfl (fun h14 => ?_) (fun h14 => ?_)
    ·
     refine jy_ic c1 hm rfl (by decide) ?_
     refine jx_stor c1 hm (L' := [some (.inr (.inr (.inl 173))), some (.inl a0), some (.inl 0)]) rfl rfl rfl rfl rfl ?_
     have W24 : ∀ (n25 : Nat) (b18 : Int) (hb18 : 0 ≤ b18 ∧ b18 ≤ 18) (M19 : JM) (hH19 : HI (X) M19) (hF19 : Fr md_X12_image_173w M0 M19) (k20 : M19.1 173 0 = 0) (hcI : ∀ j : Nat, j < 476 → M19.1 177 (476 * (a0).toNat + j) = M0.1 175 j) (hcO : ∀ j : Nat, j < 476 * (a0).toNat ∨ 476 * (a0).toNat + 476 ≤ j → M19.1 177 j = M0.1 177 j) (hcK : ∀ j : Nat, M19.1 183 j = M0.1 183 j), (-b18 + 18) < (n25 : Int) → F 51 [some (.inr (.inr (.inl 173))), some (.inl a0), some (.inl b18)] [] M19 := by
      intro n25
      induction n25 with
      | zero => intros; omega
      | succ n25 ihW24 =>
       intro b18 hb18 M19 hH19 hF19 k20 hcI hcO hcK hrW24
       refine jx_load c1 hm rfl rfl rfl rfl ?_
       skip
       refine jy_bp c1 hm rfl (by decide) ?_
       refine jc_ge c1 hm 80 rfl rfl (fun h26 => ?_) (fun h26 => ?_)
       ·
        refine jx_load c1 hm rfl rfl rfl rfl ?_
        refine jx_getr c1 hm rfl sh_173 rfl ?_
        refine jx_load c1 hm rfl rfl rfl rfl ?_
        refine jy_ic c1 hm rfl (by decide) ?_
        obtain ⟨M29, e29, hH29, hF29, k29, n29, q29⟩ := mup hH19 hF19 (c := 183) (i := (a0).toNat) (v := 1) (A := 0) (B := 1) rfl ⟨by omega, by omega⟩ (jin_of 2 rfl ⟨by omega, by omega⟩)
        refine jm_bast c1 hm rfl sh_183 (Or.inr ⟨rfl, by omega, by omega⟩) ⟨by omega, by omega⟩ e29 ?_
        refine jy_ic c1 hm rfl (by decide) ?_
        exact jx_retz c2 hm rfl rfl ⟨by omega, by omega⟩ ⟨_, rfl, hH29, hF29, by omega, by omega, (if c : a0 = 0 then KOK.of hp0 (fun j _ y => (n29 177 _ (fun h => absurd h.1 (by decide))).trans (by have z := hcI j (by omega); rw [show 476 * (a0).toNat + j = 476 * 0 + j by omega] at z; exact z)) else KOK.cg hp1 (fun j y1 y2 => (n29 177 _ (fun h => absurd h.1 (by decide))).trans (hcO j (by omega)))), (if c : a0 = 1 then KOK.of hp0 (fun j _ y => (n29 177 _ (fun h => absurd h.1 (by decide))).trans (by have z := hcI j (by omega); rw [show 476 * (a0).toNat + j = 476 * 1 + j by omega] at z; exact z)) else KOK.cg hp2 (fun j y1 y2 => (n29 177 _ (fun h => absurd h.1 (by decide))).trans (hcO j (by omega)))), (imP.st k29 n29 (fun j => hcK j) (by omega)), (by omega), (by omega), (IMN.ok (by omega) (by omega) (fun j hj => (n29 177 _ (fun h => absurd h.1 (by decide))).trans (hcI j hj)) (fun j hj => (n29 177 _ (fun h => absurd h.1 (by decide))).trans (hcO j hj)))⟩
       refine jx_load c1 hm rfl rfl rfl rfl ?_
       refine jx_getr c1 hm rfl sh_173 rfl ?_
       refine jy_bp c1 hm rfl (by decide) ?_
       refine jx_load c1 hm rfl rfl rfl rfl ?_
       refine jy_mul c1 hm (18 * a0) rfl (by omega) ?_
       refine jx_load c1 hm rfl rfl rfl rfl ?_
       refine jy_add c1 hm (18 * a0 + b18) rfl (by omega) ?_
       refine jx_load c1 hm rfl rfl rfl rfl ?_
       refine jx_getr c1 hm rfl sh_173 rfl ?_
       refine jx_load c1 hm rfl rfl rfl rfl ?_
       obtain ⟨w27, kw27⟩ : ∃ w, M19.2 180 (b18).toNat = w := ⟨_, rfl⟩
       have bw27 : LB w27.toInt := kw27 ▸ hH19.2.1 180 _ rfl
       refine jx_lald c1 hm rfl sh_180 ⟨by omega, by omega⟩ kw27 ?_
       obtain ⟨M28, e28, hH28, hF28, n28, k28, _⟩ := mul hH19 hF19 (c := 182) (i := ((18 * a0 + b18)).toNat) (v := w27) (fun _ => bw27)
       refine jm_last c1 hm rfl sh_182 ⟨by omega, by omega⟩ e28 ?_
       refine jx_iinc c1 hm (v := (b18 + 1)) (L' := [some (.inr (.inr (.inl 173))), some (.inl a0), some (.inl (b18 + 1))]) rfl rfl (by omega) (by omega) rfl ?_
       refine jx_goto c1 hm 51 rfl rfl ?_
       have k30 : M28.1 173 0 = 0 := (n28 173 0).trans k20
       exact ihW24 (b18 + 1) (by omega) M28 hH28 hF28 k30 (fun j hj => (n28 177 _).trans (hcI j hj)) (fun j hj => (n28 177 _).trans (hcO j hj)) (fun j => (n28 183 _).trans (hcK j)) (by omega)
     exact W24 (18 + 1 : Int).toNat 0 (by omega) M7 hH7 hF7 k8 (fun j hj => hcI j (by omega)) hcO hcK (by omega)
    refine jx_load c1 hm rfl rfl rfl rfl ?_
    refine jx_getr c1 hm rfl sh_173 rfl ?_
    refine jy_sp c1 hm rfl (by decide) ?_
    refine jx_load c1 hm rfl rfl rfl rfl ?_
    refine jy_mul c1 hm (476 * a0) rfl (by omega) ?_
    refine jx_load c1 hm rfl rfl rfl rfl ?_
    refine jy_add c1 hm (476 * a0 + b6) rfl (by omega) ?_
    refine jx_load c1 hm rfl rfl rfl rfl ?_
    refine jx_getr c1 hm rfl sh_173 rfl ?_
    refine jx_load c1 hm rfl rfl rfl rfl ?_
    obtain ⟨z15, k16, lz15, uz15⟩ := hH7.any (by omega) (by omega) 175 (b6).toNat
    refine jx_iald c1 hm rfl sh_175 ⟨by omega, by omega⟩ k16 ?_
    obtain ⟨M17, e17, hH17, hF17, k17, n17, q17⟩ := mupc hH7 hF7 hH7 (c := 177) (i := ((476 * a0 + b6)).toNat) (c1 := 175) (i1 := (b6).toNat) (v := z15) k16 (ckp (by omega)) (jin_of 1 rfl ⟨by omega, by omega⟩)
    refine jm_iast c1 hm rfl sh_177 ⟨by omega, by omega⟩ e17 ?_
    refine jx_iinc c1 hm (v := (b6 + 1)) (L' := [some (.inr (.inr (.inl 173))), some (.inl a0), some (.inl (b6 + 1))]) rfl rfl (by omega) (by omega) rfl ?_
    refine jx_goto c1 hm 18 rfl rfl ?_
    have k31 : M17.1 173 0 = 0 := (n17 173 0 (fun h => absurd h.1 (by decide))).trans k8
    exact ihW12 (b6 + 1) (by omega) M17 hH17 hF17 k31 (fun j hj => if c : (j : Int) < b6 then (n17 177 _ (by omega)).trans (hcI j c) else (by have e : j = (b6).toNat := (by omega); subst e; rw [show 476 * (a0).toNat + (b6).toNat = ((476 * a0 + b6)).toNat by omega]; exact k17.trans (k16.symm.trans (hF7 175 _ rfl)))) (fun j hj => (n17 177 j (by omega)).trans (hcO j hj)) (fun j => (n17 183 _ (fun h => absurd h.1 (by decide))).trans (hcK j)) (by omega)
  exact W12 (476 + 1 : Int).toNat 0 (by omega) M1 hH1 hF1 k1 (fun j hj => by omega) (fun j _ => (n1 177 _ (fun h => absurd h.1 (by decide)))) (fun j => (n1 183 _ (fun h => absurd h.1 (by decide)))) (by omega)
 refine jy_ic c1 hm rfl (by decide) ?_
 exact jx_retz c2 hm rfl rfl ⟨by omega, by omega⟩ ⟨_, rfl, hH1, hF1, by omega, by omega, (KOK.cg hp1 (fun j _ _ => (n1 177 _ (fun h => absurd h.1 (by decide))))), (KOK.cg hp2 (fun j _ _ => (n1 177 _ (fun h => absurd h.1 (by decide))))), (imP.no (fun j => (n1 183 _ (fun h => absurd h.1 (by decide)))) (by omega)), (by omega), (by omega), (IMN.no (by omega) (fun j => (n1 177 j (fun h => absurd h.1 (by decide)))))⟩
def md_X12_restore_173w : List (Nat × (Nat × Nat)) := [(173, (0, 0)), (173, (23, 23)), (175, (0, 475))]
theorem ct_X12_restore_173w (X : Int) (hX : 0 ≤ X ∧ X ≤ 100000000) (M0 : JM) (hH0 : HI X M0) (a0 : Int) (ha0 : (-2147483648) ≤ a0 ∧ a0 ≤ 2147483647) (hp0 : SOK M0) (hp1 : KOK M0 0) (hp2 : KOK M0 1) : JOk shp PJ 2 175 [.inr (.inr (.inl 173)), .inl a0] M0 (jRi (fun v M' => HI X M' ∧ Fr md_X12_restore_173w M0 M' ∧ 0 ≤ v ∧ v ≤ 1 ∧ (SOK M') ∧ (v = imR 183 a0 M0) ∧ (RSN a0 v M0 M'))) := by
 refine ⟨jr_X12_restore, pj_X12_restore, fun F c1 c2 c3 => ?_⟩
 have hm := pj_X12_restore
 change F 0 [some (.inr (.inr (.inl 173))), some (.inl a0), none] [] M0
 have hF0 : Fr md_X12_restore_173w M0 M0 := Fr.rf _ _
 refine jx_load c1 hm rfl rfl rfl rfl ?_
 refine jy_ic c1 hm rfl (by decide) ?_
 obtain ⟨M1, e1, hH1, hF1, k1, n1, q1⟩ := mup hH0 hF0 (c := 173) (i := 0) (v := 0) (A := (-2147483648)) (B := 2147483647) (bs_28_0 _ _ (by omega) (by omega)) ⟨by omega, by omega⟩ (jin_of 0 rfl ⟨by omega, by omega⟩)
 refine jm_puti c1 hm rfl sh_173 rfl e1 ?_
 refine jx_load c1 hm rfl rfl rfl rfl ?_
 skip
 refine jy_ic c1 hm rfl (by decide) ?_
 refine jy_ic c1 hm rfl (by decide) ?_
 refine jt_i c3 hm rfl rfl pj_X12_isIn rfl rfl rfl ((ct_X12_isInp X (by omega) M1 hH1 a0 ⟨by omega, by omega⟩ 0 ⟨by omega, by omega⟩ 1 ⟨by omega, by omega⟩).le (by decide)) (fun z2 _ ⟨rfl, lz2, uz2, p3, p4⟩ => ?_)
 refine jz_eq c1 hm 23 rfl rfl (fun h5 => ?_) (fun h5 => ?_)
 ·
  refine jy_ic c1 hm rfl (by decide) ?_
  exact jx_retz c2 hm rfl rfl ⟨by omega, by omega⟩ ⟨_, rfl, hH1, hF1, by omega, by omega, (SOK.cg hp0 (fun j _ _ => (n1 175 _ (fun h => absurd h.1 (by decide))))), (by have y9 : M1.1 183 (a0).toNat = M0.1 183 (a0).toNat := (n1 183 _ (fun h => absurd h.1 (by decide))); unfold imR; split <;> omega), (RSN.no (by omega) (fun j => (n1 175 j (fun h => absurd h.1 (by decide)))))⟩
 refine jx_load c1 hm rfl rfl rfl rfl ?_
 refine jx_getr c1 hm rfl sh_173 rfl ?_
 refine jx_load c1 hm rfl rfl rfl rfl ?_
 obtain ⟨z6, k7, lz6, uz6⟩ := hH1.ld (c := 183) (i := (a0).toNat) (A := 0) (B := 1) rfl
 refine jx_bald c1 hm rfl sh_183 rfl ⟨by omega, by omega⟩ k7 ?_
 refine jz_ne c1 hm 25 rfl rfl (fun h8 => ?_) (fun h8 => ?_)
 ·
  refine jy_ic c1 hm rfl (by decide) ?_
  refine jx_stor c1 hm (L' := [some (.inr (.inr (.inl 173))), some (.inl a0), some (.inl 0)]) rfl rfl rfl rfl rfl ?_
  have W13 : ∀ (n14 : Nat) (b9 : Int) (hb9 : 0 ≤ b9 ∧ b9 ≤ 476) (M10 : JM) (hH10 : HI (X) M10) (hF10 : Fr md_X12_restore_173w M0 M10) (k11 : M10.1 173 0 = 0) (hcI : ∀ j : Nat, (j : Int) < b9 → M10.1 175 j = M0.1 177 (476 * (a0).toNat + j)), (-b9 + 476) < (n14 : Int) → F 27 [some (.inr (.inr (.inl 173))), some (.inl a0), some (.inl b9)] [] M10 := by
   intro n14
   induction n14 with
   | zero => intros; omega
   | succ n14 ihW13 =>
    intro b9 hb9 M10 hH10 hF10 k11 hcI hrW13
    refine jx_load c1 hm rfl rfl rfl rfl ?_
    refine jy_sp c1 hm rfl (by decide) ?_
    refine jc_ge c1 hm 58 rfl rfl (fun h15 => ?_) (fun h15 => ?_)
    ·
     refine jy_ic c1 hm rfl (by decide) ?_
     refine jx_stor c1 hm (L' := [some (.inr (.inr (.inl 173))), some (.inl a0), some (.inl 0)]) rfl rfl rfl rfl rfl ?_
     have W23 : ∀ (n24 : Nat) (b19 : Int) (hb19 : 0 ≤ b19 ∧ b19 ≤ 18) (M20 : JM) (hH20 : HI (X) M20) (hF20 : Fr md_X12_restore_173w M0 M20) (k21 : M20.1 173 0 = 0) (hcI : ∀ j : Nat, j < 476 → M20.1 175 j = M0.1 177 (476 * (a0).toNat + j)), (-b19 + 18) < (n24 : Int) → F 60 [some (.inr (.inr (.inl 173))), some (.inl a0), some (.inl b19)] [] M20 := by
      intro n24
      induction n24 with
      | zero => intros; omega
      | succ n24 ihW23 =>
       intro b19 hb19 M20 hH20 hF20 k21 hcI hrW23
       refine jx_load c1 hm rfl rfl rfl rfl ?_
       skip
       refine jy_bp c1 hm rfl (by decide) ?_
       refine jc_ge c1 hm 89 rfl rfl (fun h25 => ?_) (fun h25 => ?_)
       ·
        refine jx_load c1 hm rfl rfl rfl rfl ?_
        refine jy_ic c1 hm rfl (by decide) ?_
        obtain ⟨M28, e28, hH28, hF28, k28, n28, q28⟩ := mup hH20 hF20 (c := 173) (i := 23) (v := 0) (A := 0) (B := 8) (bs_28_8 _ _ (by omega) (by omega)) ⟨by omega, by omega⟩ (jin_of 1 rfl ⟨by omega, by omega⟩)
        refine jm_puti c1 hm rfl sh_173 rfl e28 ?_
        refine jy_ic c1 hm rfl (by decide) ?_
        exact jx_retz c2 hm rfl rfl ⟨by omega, by omega⟩ ⟨_, rfl, hH28, hF28, by omega, by omega, (if c : a0 = 0 then SOK.of hp1 (fun j _ y => (n28 175 _ (fun h => absurd h.1 (by decide))).trans (by have z := hcI j (by omega); rw [show 476 * (a0).toNat + j = 476 * 0 + j by omega] at z; exact z)) else SOK.of hp2 (fun j _ y => (n28 175 _ (fun h => absurd h.1 (by decide))).trans (by have z := hcI j (by omega); rw [show 476 * (a0).toNat + j = 476 * 1 + j by omega] at z; exact z))), (by have y9 : M1.1 183 (a0).toNat = M0.1 183 (a0).toNat := (n1 183 _ (fun h => absurd h.1 (by decide))); unfold imR; split <;> omega), (RSN.ok (by omega) (by omega) (fun j hj => (n28 175 j (fun h => absurd h.1 (by decide))).trans (hcI j hj)))⟩
       refine jx_load c1 hm rfl rfl rfl rfl ?_
       refine jx_getr c1 hm rfl sh_173 rfl ?_
       refine jx_load c1 hm rfl rfl rfl rfl ?_
       refine jx_load c1 hm rfl rfl rfl rfl ?_
       refine jx_getr c1 hm rfl sh_173 rfl ?_
       refine jy_bp c1 hm rfl (by decide) ?_
       refine jx_load c1 hm rfl rfl rfl rfl ?_
       refine jy_mul c1 hm (18 * a0) rfl (by omega) ?_
       refine jx_load c1 hm rfl rfl rfl rfl ?_
       refine jy_add c1 hm (18 * a0 + b19) rfl (by omega) ?_
       obtain ⟨w26, kw26⟩ : ∃ w, M20.2 182 ((18 * a0 + b19)).toNat = w := ⟨_, rfl⟩
       have bw26 : LB w26.toInt := kw26 ▸ hH20.2.1 182 _ rfl
       refine jx_lald c1 hm rfl sh_182 ⟨by omega, by omega⟩ kw26 ?_
       obtain ⟨M27, e27, hH27, hF27, n27, k27, _⟩ := mul hH20 hF20 (c := 180) (i := (b19).toNat) (v := w26) (fun _ => bw26)
       refine jm_last c1 hm rfl sh_180 ⟨by omega, by omega⟩ e27 ?_
       refine jx_iinc c1 hm (v := (b19 + 1)) (L' := [some (.inr (.inr (.inl 173))), some (.inl a0), some (.inl (b19 + 1))]) rfl rfl (by omega) (by omega) rfl ?_
       refine jx_goto c1 hm 60 rfl rfl ?_
       have k29 : M27.1 173 0 = 0 := (n27 173 0).trans k21
       exact ihW23 (b19 + 1) (by omega) M27 hH27 hF27 k29 (fun j hj => (n27 175 _).trans (hcI j hj)) (by omega)
     exact W23 (18 + 1 : Int).toNat 0 (by omega) M10 hH10 hF10 k11 (fun j hj => hcI j (by omega)) (by omega)
    refine jx_load c1 hm rfl rfl rfl rfl ?_
    refine jx_getr c1 hm rfl sh_173 rfl ?_
    refine jx_load c1 hm rfl rfl rfl rfl ?_
    refine jx_load c1 hm rfl rfl rfl rfl ?_
    refine jx_getr c1 hm rfl sh_173 rfl ?_
    refine jy_sp c1 hm rfl (by decide) ?_
    refine jx_load c1 hm rfl rfl rfl rfl ?_
    refine jy_mul c1 hm (476 * a0) rfl (by omega) ?_
    refine jx_load c1 hm rfl rfl rfl rfl ?_
    refine jy_add c1 hm (476 * a0 + b9) rfl (by omega) ?_
    obtain ⟨z16, k17, lz16, uz16⟩ := hH10.any (by omega) (by omega) 177 ((476 * a0 + b9)).toNat
    refine jx_iald c1 hm rfl sh_177 ⟨by omega, by omega⟩ k17 ?_
    obtain ⟨M18, e18, hH18, hF18, k18, n18, q18⟩ := mupc hH10 hF10 hH10 (c := 175) (i := (b9).toNat) (c1 := 177) (i1 := ((476 * a0 + b9)).toNat) (v := z16) k17 ((ckp (by omega)).symm) (jin_of 2 rfl ⟨by omega, by omega⟩)
    refine jm_iast c1 hm rfl sh_175 ⟨by omega, by omega⟩ e18 ?_
    refine jx_iinc c1 hm (v := (b9 + 1)) (L' := [some (.inr (.inr (.inl 173))), some (.inl a0), some (.inl (b9 + 1))]) rfl rfl (by omega) (by omega) rfl ?_
    refine jx_goto c1 hm 27 rfl rfl ?_
    have k30 : M18.1 173 0 = 0 := (n18 173 0 (fun h => absurd h.1 (by decide))).trans k11
    exact ihW13 (b9 + 1) (by omega) M18 hH18 hF18 k30 (fun j hj => if c : (j : Int) < b9 then (n18 175 j (by omega)).trans (hcI j c) else (by have e : j = (b9).toNat := (by omega); subst e; have y := k18.trans (k17.symm.trans (hF10 177 _ rfl)); rw [show ((476 * a0 + b9)).toNat = 476 * (a0).toNat + (b9).toNat by omega] at y; exact y)) (by omega)
  exact W13 (476 + 1 : Int).toNat 0 (by omega) M1 hH1 hF1 k1 (fun j hj => by omega) (by omega)
 refine jy_ic c1 hm rfl (by decide) ?_
 exact jx_retz c2 hm rfl rfl ⟨by omega, by omega⟩ ⟨_, rfl, hH1, hF1, by omega, by omega, (SOK.cg hp0 (fun j _ _ => (n1 175 _ (fun h => absurd h.1 (by decide))))), (by have y9 : M1.1 183 (a0).toNat = M0.1 183 (a0).toNat := (n1 183 _ (fun h => absurd h.1 (by decide))); unfold imR; split <;> omega), (RSN.no (by omega) (fun j => (n1 175 j (fun h => absurd h.1 (by decide)))))⟩
theorem ct_X2_men_5w (X : Int) (hX : 0 ≤ X ∧ X ≤ 100000000) (M0 : JM) (hH0 : HI X M0)  : JOk shp PJ 1 220 [.inr (.inr (.inl 5))] M0 (jRi (fun v M' => M0 = M' ∧ 0 ≤ v ∧ v ≤ 6 ∧ (v = M0.1 6 0))) := by
 refine ⟨jr_X2_men, pj_X2_men, fun F c1 c2 c3 => ?_⟩
 have hm := pj_X2_men
 change F 0 [some (.inr (.inr (.inl 5)))] [] M0
 obtain ⟨z1, k2, lz1, uz1⟩ := hH0.ld (c := 6) (i := 0) (A := 0) (B := 6) rfl
 refine jx_load c1 hm rfl rfl rfl rfl ?_
 refine jx_getr c1 hm rfl sh_5 rfl ?_
 refine jy_ic c1 hm rfl (by decide) ?_
 refine jx_iald c1 hm rfl sh_6 ⟨by omega, by omega⟩ k2 ?_
 exact jx_reti c2 hm rfl rfl ⟨_, rfl, rfl, by omega, by omega, (by omega)⟩
theorem ct_X2_forfeits_5w (X : Int) (hX : 0 ≤ X ∧ X ≤ 100000000) (M0 : JM) (hH0 : HI X M0)  : JOk shp PJ 1 217 [.inr (.inr (.inl 5))] M0 (jRi (fun v M' => M0 = M' ∧ 0 ≤ v ∧ v ≤ 6 ∧ (v = M0.1 6 1))) := by
 refine ⟨jr_X2_forfeits, pj_X2_forfeits, fun F c1 c2 c3 => ?_⟩
 have hm := pj_X2_forfeits
 change F 0 [some (.inr (.inr (.inl 5)))] [] M0
 obtain ⟨z1, k2, lz1, uz1⟩ := hH0.ld (c := 6) (i := 1) (A := 0) (B := 6) rfl
 refine jx_load c1 hm rfl rfl rfl rfl ?_
 refine jx_getr c1 hm rfl sh_5 rfl ?_
 refine jy_ic c1 hm rfl (by decide) ?_
 refine jx_iald c1 hm rfl sh_6 ⟨by omega, by omega⟩ k2 ?_
 exact jx_reti c2 hm rfl rfl ⟨_, rfl, rfl, by omega, by omega, (by omega)⟩
theorem ct_X2_goods_5w (X : Int) (hX : 0 ≤ X ∧ X ≤ 100000000) (M0 : JM) (hH0 : HI X M0)  : JOk shp PJ 1 218 [.inr (.inr (.inl 5))] M0 (jRi (fun v M' => M0 = M' ∧ 0 ≤ v ∧ v ≤ 6 ∧ (v = M0.1 6 2))) := by
 refine ⟨jr_X2_goods, pj_X2_goods, fun F c1 c2 c3 => ?_⟩
 have hm := pj_X2_goods
 change F 0 [some (.inr (.inr (.inl 5)))] [] M0
 obtain ⟨z1, k2, lz1, uz1⟩ := hH0.ld (c := 6) (i := 2) (A := 0) (B := 6) rfl
 refine jx_load c1 hm rfl rfl rfl rfl ?_
 refine jx_getr c1 hm rfl sh_5 rfl ?_
 refine jy_ic c1 hm rfl (by decide) ?_
 refine jx_iald c1 hm rfl sh_6 ⟨by omega, by omega⟩ k2 ?_
 exact jx_reti c2 hm rfl rfl ⟨_, rfl, rfl, by omega, by omega, (by omega)⟩
theorem ct_X11_count_0w (X : Int) (hX : 0 ≤ X ∧ X ≤ 100000000) (M0 : JM) (hH0 : HI X M0) (a0 : Int) (ha0 : (-2147483648) ≤ a0 ∧ a0 ≤ 2147483647) : JOk shp PJ 2 31 [.inr (.inr (.inl 0)), .inl a0] M0 (jRi (fun v M' => M0 = M' ∧ (-1) ≤ v ∧ v ≤ 940 ∧ (v = ctS a0 (dq M0 5) (M0.1 0 2)))) := by
 refine ⟨jr_X11_count, pj_X11_count, fun F c1 c2 c3 => ?_⟩
 have hm := pj_X11_count
 change F 0 [some (.inr (.inr (.inl 0))), some (.inl a0)] [] M0
 obtain ⟨z1, k2, lz1, uz1⟩ := hH0.ld (c := 0) (i := 2) (A := 0) (B := 940) (bs_18_1 _ _ (by omega) (by omega))
 obtain ⟨z3, k4, lz3, uz3⟩ := hH0.ld (c := 6) (i := 0) (A := 0) (B := 6) rfl
 obtain ⟨z5, k6, lz5, uz5⟩ := hH0.ld (c := 6) (i := 1) (A := 0) (B := 6) rfl
 obtain ⟨z7, k8, lz7, uz7⟩ := hH0.ld (c := 6) (i := 2) (A := 0) (B := 6) rfl
 obtain ⟨z9, k10, lz9, uz9⟩ := hH0.ld (c := 5) (i := 6) (A := 0) (B := 9) (bs_20_1 _ _ (by omega) (by omega))
 obtain ⟨z11, k12, lz11, uz11⟩ := hH0.ld (c := 5) (i := 7) (A := 0) (B := 9) (bs_20_1 _ _ (by omega) (by omega))
 refine jx_load c1 hm rfl rfl rfl rfl ?_
 by_cases h13 : a0 = 0
 ·
  refine jx_tswI c1 hm 40 rfl ⟨by omega, by omega⟩ (by rw [h13] <;> rfl) rfl ?_
  refine jx_load c1 hm rfl rfl rfl rfl ?_
  refine jx_getr c1 hm rfl sh_0 rfl ?_
  refine jv_i c3 hm rfl pj_X2_men rfl rfl ⟨_, _, _, rfl, sh_5⟩ rfl ((ct_X2_men_5w X (by omega) M0 hH0 ).le (by decide)) (fun z14 _ ⟨rfl, lz14, uz14, p15⟩ => ?_)
  exact jx_reti c2 hm rfl rfl ⟨_, rfl, rfl, by omega, by omega, (by rw [ctS_0 (by omega)]; dsimp only [dq]; omega)⟩
 by_cases h16 : a0 = 1
 ·
  refine jx_tswI c1 hm 48 rfl ⟨by omega, by omega⟩ (by rw [h16] <;> rfl) rfl ?_
  refine jx_load c1 hm rfl rfl rfl rfl ?_
  refine jx_getr c1 hm rfl sh_0 rfl ?_
  refine jv_i c3 hm rfl pj_X2_forfeits rfl rfl ⟨_, _, _, rfl, sh_5⟩ rfl ((ct_X2_forfeits_5w X (by omega) M0 hH0 ).le (by decide)) (fun z17 _ ⟨rfl, lz17, uz17, p18⟩ => ?_)
  exact jx_reti c2 hm rfl rfl ⟨_, rfl, rfl, by omega, by omega, (by rw [ctS_1 (by omega)]; dsimp only [dq]; omega)⟩
 by_cases h19 : a0 = 2
 ·
  refine jx_tswI c1 hm 56 rfl ⟨by omega, by omega⟩ (by rw [h19] <;> rfl) rfl ?_
  refine jx_load c1 hm rfl rfl rfl rfl ?_
  refine jx_getr c1 hm rfl sh_0 rfl ?_
  refine jv_i c3 hm rfl pj_X2_goods rfl rfl ⟨_, _, _, rfl, sh_5⟩ rfl ((ct_X2_goods_5w X (by omega) M0 hH0 ).le (by decide)) (fun z20 _ ⟨rfl, lz20, uz20, p21⟩ => ?_)
  exact jx_reti c2 hm rfl rfl ⟨_, rfl, rfl, by omega, by omega, (by rw [ctS_2 (by omega)]; dsimp only [dq]; omega)⟩
 by_cases h22 : a0 = 3
 ·
  refine jx_tswI c1 hm 64 rfl ⟨by omega, by omega⟩ (by rw [h22] <;> rfl) rfl ?_
  refine jx_load c1 hm rfl rfl rfl rfl ?_
  refine jx_getr c1 hm rfl sh_0 rfl ?_
  refine jx_geti c1 hm rfl sh_5 rfl k10 ?_
  exact jx_reti c2 hm rfl rfl ⟨_, rfl, rfl, by omega, by omega, (by rw [ctS_3 (by omega)]; dsimp only [dq]; omega)⟩
 by_cases h23 : a0 = 4
 ·
  refine jx_tswI c1 hm 72 rfl ⟨by omega, by omega⟩ (by rw [h23] <;> rfl) rfl ?_
  refine jx_load c1 hm rfl rfl rfl rfl ?_
  refine jx_getr c1 hm rfl sh_0 rfl ?_
  refine jx_geti c1 hm rfl sh_5 rfl k12 ?_
  exact jx_reti c2 hm rfl rfl ⟨_, rfl, rfl, by omega, by omega, (by rw [ctS_4 (by omega)]; dsimp only [dq]; omega)⟩
 by_cases h24 : a0 = 5
 ·
  refine jx_tswI c1 hm 80 rfl ⟨by omega, by omega⟩ (by rw [h24] <;> rfl) rfl ?_
  refine jx_load c1 hm rfl rfl rfl rfl ?_
  refine jx_geti c1 hm rfl sh_0 rfl k2 ?_
  exact jx_reti c2 hm rfl rfl ⟨_, rfl, rfl, by omega, by omega, (by rw [ctS_5 (by omega)]; omega)⟩
 refine jx_tswO c1 hm 85 rfl (by omega) rfl ?_
 refine jy_ic c1 hm rfl (by decide) ?_
 exact jx_reti c2 hm rfl rfl ⟨_, rfl, rfl, by omega, by omega, (by rw [ctS_6 (by omega)])⟩
def md_X12_count_173w : List (Nat × (Nat × Nat)) := [(173, (0, 0))]
theorem ct_X12_count_173w (X : Int) (hX : 0 ≤ X ∧ X ≤ 100000000) (M0 : JM) (hH0 : HI X M0) (a0 : Int) (ha0 : (-2147483648) ≤ a0 ∧ a0 ≤ 2147483647) : JOk shp PJ 1 92 [.inr (.inr (.inl 173)), .inl a0] M0 (jRi (fun v M' => HI X M' ∧ Fr md_X12_count_173w M0 M' ∧ (-1) ≤ v ∧ v ≤ 940 ∧ (v = ctS a0 (nq M0 175 0) (M0.1 173 2)))) := by
 refine ⟨jr_X12_count, pj_X12_count, fun F c1 c2 c3 => ?_⟩
 have hm := pj_X12_count
 change F 0 [some (.inr (.inr (.inl 173))), some (.inl a0)] [] M0
 have hF0 : Fr md_X12_count_173w M0 M0 := Fr.rf _ _
 obtain ⟨z1, k2, lz1, uz1⟩ := hH0.ld (c := 173) (i := 2) (A := 0) (B := 940) (bs_28_1 _ _ (by omega) (by omega))
 obtain ⟨z3, k4, lz3, uz3⟩ := hH0.ld (c := 175) (i := 0) (A := 0) (B := 6) (bs_11_0 _ _ (by omega) (by omega))
 obtain ⟨z5, k6, lz5, uz5⟩ := hH0.ld (c := 175) (i := 1) (A := 0) (B := 6) (bs_11_0 _ _ (by omega) (by omega))
 obtain ⟨z7, k8, lz7, uz7⟩ := hH0.ld (c := 175) (i := 2) (A := 0) (B := 6) (bs_11_0 _ _ (by omega) (by omega))
 obtain ⟨z9, k10, lz9, uz9⟩ := hH0.ld (c := 175) (i := 3) (A := 0) (B := 9) (bs_11_1 _ _ (by omega) (by omega))
 obtain ⟨z11, k12, lz11, uz11⟩ := hH0.ld (c := 175) (i := 4) (A := 0) (B := 9) (bs_11_1 _ _ (by omega) (by omega))
 refine jx_load c1 hm rfl rfl rfl rfl ?_
 refine jy_ic c1 hm rfl (by decide) ?_
 obtain ⟨M13, e13, hH13, hF13, k13, n13, q13⟩ := mup hH0 hF0 (c := 173) (i := 0) (v := 0) (A := (-2147483648)) (B := 2147483647) (bs_28_0 _ _ (by omega) (by omega)) ⟨by omega, by omega⟩ (jin_of 0 rfl ⟨by omega, by omega⟩)
 refine jm_puti c1 hm rfl sh_173 rfl e13 ?_
 refine jx_load c1 hm rfl rfl rfl rfl ?_
 by_cases h14 : a0 = 0
 ·
  refine jx_tswI c1 hm 44 rfl ⟨by omega, by omega⟩ (by rw [h14] <;> rfl) rfl ?_
  refine jx_load c1 hm rfl rfl rfl rfl ?_
  refine jx_getr c1 hm rfl sh_173 rfl ?_
  refine jy_ic c1 hm rfl (by decide) ?_
  have k15 : M13.1 175 0 = z3 := (n13 175 0 (fun h => absurd h.1 (by decide))).trans k4
  refine jx_iald c1 hm rfl sh_175 ⟨by omega, by omega⟩ k15 ?_
  have k16 : M13.1 173 2 = z1 := (n13 173 2 (by decide)).trans k2
  exact jx_reti c2 hm rfl rfl ⟨_, rfl, hH13, hF13, by omega, by omega, (by rw [ctS_0 (by omega)]; simp only [nq, Nat.zero_add]; omega)⟩
 by_cases h17 : a0 = 1
 ·
  refine jx_tswI c1 hm 51 rfl ⟨by omega, by omega⟩ (by rw [h17] <;> rfl) rfl ?_
  refine jx_load c1 hm rfl rfl rfl rfl ?_
  refine jx_getr c1 hm rfl sh_173 rfl ?_
  refine jy_ic c1 hm rfl (by decide) ?_
  have k18 : M13.1 175 1 = z5 := (n13 175 1 (fun h => absurd h.1 (by decide))).trans k6
  refine jx_iald c1 hm rfl sh_175 ⟨by omega, by omega⟩ k18 ?_
  have k19 : M13.1 173 2 = z1 := (n13 173 2 (by decide)).trans k2
  exact jx_reti c2 hm rfl rfl ⟨_, rfl, hH13, hF13, by omega, by omega, (by rw [ctS_1 (by omega)]; simp only [nq, Nat.zero_add]; omega)⟩
 by_cases h20 : a0 = 2
 ·
  refine jx_tswI c1 hm 58 rfl ⟨by omega, by omega⟩ (by rw [h20] <;> rfl) rfl ?_
  refine jx_load c1 hm rfl rfl rfl rfl ?_
  refine jx_getr c1 hm rfl sh_173 rfl ?_
  refine jy_ic c1 hm rfl (by decide) ?_
  have k21 : M13.1 175 2 = z7 := (n13 175 2 (fun h => absurd h.1 (by decide))).trans k8
  refine jx_iald c1 hm rfl sh_175 ⟨by omega, by omega⟩ k21 ?_
  have k22 : M13.1 173 2 = z1 := (n13 173 2 (by decide)).trans k2
  exact jx_reti c2 hm rfl rfl ⟨_, rfl, hH13, hF13, by omega, by omega, (by rw [ctS_2 (by omega)]; simp only [nq, Nat.zero_add]; omega)⟩
 by_cases h23 : a0 = 3
 ·
  refine jx_tswI c1 hm 65 rfl ⟨by omega, by omega⟩ (by rw [h23] <;> rfl) rfl ?_
  refine jx_load c1 hm rfl rfl rfl rfl ?_
  refine jx_getr c1 hm rfl sh_173 rfl ?_
  refine jy_ic c1 hm rfl (by decide) ?_
  have k24 : M13.1 175 3 = z9 := (n13 175 3 (fun h => absurd h.1 (by decide))).trans k10
  refine jx_iald c1 hm rfl sh_175 ⟨by omega, by omega⟩ k24 ?_
  have k25 : M13.1 173 2 = z1 := (n13 173 2 (by decide)).trans k2
  exact jx_reti c2 hm rfl rfl ⟨_, rfl, hH13, hF13, by omega, by omega, (by rw [ctS_3 (by omega)]; simp only [nq, Nat.zero_add]; omega)⟩
 by_cases h26 : a0 = 4
 ·
  refine jx_tswI c1 hm 72 rfl ⟨by omega, by omega⟩ (by rw [h26] <;> rfl) rfl ?_
  refine jx_load c1 hm rfl rfl rfl rfl ?_
  refine jx_getr c1 hm rfl sh_173 rfl ?_
  refine jy_ic c1 hm rfl (by decide) ?_
  have k27 : M13.1 175 4 = z11 := (n13 175 4 (fun h => absurd h.1 (by decide))).trans k12
  refine jx_iald c1 hm rfl sh_175 ⟨by omega, by omega⟩ k27 ?_
  have k28 : M13.1 173 2 = z1 := (n13 173 2 (by decide)).trans k2
  exact jx_reti c2 hm rfl rfl ⟨_, rfl, hH13, hF13, by omega, by omega, (by rw [ctS_4 (by omega)]; simp only [nq, Nat.zero_add]; omega)⟩
 by_cases h29 : a0 = 5
 ·
  refine jx_tswI c1 hm 79 rfl ⟨by omega, by omega⟩ (by rw [h29] <;> rfl) rfl ?_
  refine jx_load c1 hm rfl rfl rfl rfl ?_
  have k30 : M13.1 173 2 = z1 := (n13 173 2 (by decide)).trans k2
  refine jx_geti c1 hm rfl sh_173 rfl k30 ?_
  exact jx_reti c2 hm rfl rfl ⟨_, rfl, hH13, hF13, by omega, by omega, (by rw [ctS_5 (by omega)]; omega)⟩
 refine jx_tswO c1 hm 84 rfl (by omega) rfl ?_
 refine jy_ic c1 hm rfl (by decide) ?_
 have k31 : M13.1 173 2 = z1 := (n13 173 2 (by decide)).trans k2
 exact jx_reti c2 hm rfl rfl ⟨_, rfl, hH13, hF13, by omega, by omega, (by rw [ctS_6 (by omega)])⟩
