/-! Contracts of the class (by wip/q/wlk.py). -/
def md_X11_copyRow_13_58 : List (Nat × (Nat × Nat)) := [(58, (0, 5))]
theorem ct_X11_copyRow_13_58 (X : Int) (hX : 0 ≤ X ∧ X ≤ 100000000) (M0 : JM) (hH0 : HI X M0)  : JOk shp PJ 1 29 [.inr (.inr (.inl 13)), .inr (.inr (.inl 58))] M0 (jRv (fun M' => HI X M' ∧ Fr md_X11_copyRow_13_58 M0 M' )) := by
 refine ⟨jr_X11_copyRow, pj_X11_copyRow, fun F c1 c2 c3 => ?_⟩
 have hm := pj_X11_copyRow
 change F 0 [some (.inr (.inr (.inl 13))), some (.inr (.inr (.inl 58)))] [] M0
 have hF0 : Fr md_X11_copyRow_13_58 M0 M0 := Fr.rf _ _
 refine jx_load c1 hm rfl rfl rfl rfl ?_
 refine jy_ic c1 hm rfl (by decide) ?_
 refine jx_load c1 hm rfl rfl rfl rfl ?_
 refine jy_ic c1 hm rfl (by decide) ?_
 refine jx_load c1 hm rfl rfl rfl rfl ?_
 refine jx_alen c1 hm (v := 6) rfl sh_13 rfl rfl ?_
 refine jx_load c1 hm rfl rfl rfl rfl ?_
 refine jx_alen c1 hm (v := 6) rfl sh_58 rfl rfl ?_
 refine jx_min c1 hm rfl rfl (fun z1 lz1 uz1 ez1 => ?_)
 obtain ⟨M2, e2, hH2, hF2, n2, _⟩ := mcp hH0 hF0 (c1 := 13) (c2 := 58) (n := z1) (fun _ _ => rfl) (fun j hj => jin_of 0 rfl ⟨by omega, by omega⟩)
 refine jm_acpi c1 hm rfl rfl sh_13 sh_58 ⟨by omega, by omega, by omega⟩ e2 ?_
 exact jx_retv c2 hm rfl rfl ⟨rfl, hH2, hF2⟩
def md_X11_copyRow_14_59 : List (Nat × (Nat × Nat)) := [(59, (0, 5))]
theorem ct_X11_copyRow_14_59 (X : Int) (hX : 0 ≤ X ∧ X ≤ 100000000) (M0 : JM) (hH0 : HI X M0)  : JOk shp PJ 1 29 [.inr (.inr (.inl 14)), .inr (.inr (.inl 59))] M0 (jRv (fun M' => HI X M' ∧ Fr md_X11_copyRow_14_59 M0 M' )) := by
 refine ⟨jr_X11_copyRow, pj_X11_copyRow, fun F c1 c2 c3 => ?_⟩
 have hm := pj_X11_copyRow
 change F 0 [some (.inr (.inr (.inl 14))), some (.inr (.inr (.inl 59)))] [] M0
 have hF0 : Fr md_X11_copyRow_14_59 M0 M0 := Fr.rf _ _
 refine jx_load c1 hm rfl rfl rfl rfl ?_
 refine jy_ic c1 hm rfl (by decide) ?_
 refine jx_load c1 hm rfl rfl rfl rfl ?_
 refine jy_ic c1 hm rfl (by decide) ?_
 refine jx_load c1 hm rfl rfl rfl rfl ?_
 refine jx_alen c1 hm (v := 6) rfl sh_14 rfl rfl ?_
 refine jx_load c1 hm rfl rfl rfl rfl ?_
 refine jx_alen c1 hm (v := 6) rfl sh_59 rfl rfl ?_
 refine jx_min c1 hm rfl rfl (fun z1 lz1 uz1 ez1 => ?_)
 obtain ⟨M2, e2, hH2, hF2, n2, _⟩ := mcp hH0 hF0 (c1 := 14) (c2 := 59) (n := z1) (fun _ _ => rfl) (fun j hj => jin_of 0 rfl ⟨by omega, by omega⟩)
 refine jm_acpi c1 hm rfl rfl sh_14 sh_59 ⟨by omega, by omega, by omega⟩ e2 ?_
 exact jx_retv c2 hm rfl rfl ⟨rfl, hH2, hF2⟩
def md_X11_copyRow_15_60 : List (Nat × (Nat × Nat)) := [(60, (0, 5))]
theorem ct_X11_copyRow_15_60 (X : Int) (hX : 0 ≤ X ∧ X ≤ 100000000) (M0 : JM) (hH0 : HI X M0)  : JOk shp PJ 1 29 [.inr (.inr (.inl 15)), .inr (.inr (.inl 60))] M0 (jRv (fun M' => HI X M' ∧ Fr md_X11_copyRow_15_60 M0 M' )) := by
 refine ⟨jr_X11_copyRow, pj_X11_copyRow, fun F c1 c2 c3 => ?_⟩
 have hm := pj_X11_copyRow
 change F 0 [some (.inr (.inr (.inl 15))), some (.inr (.inr (.inl 60)))] [] M0
 have hF0 : Fr md_X11_copyRow_15_60 M0 M0 := Fr.rf _ _
 refine jx_load c1 hm rfl rfl rfl rfl ?_
 refine jy_ic c1 hm rfl (by decide) ?_
 refine jx_load c1 hm rfl rfl rfl rfl ?_
 refine jy_ic c1 hm rfl (by decide) ?_
 refine jx_load c1 hm rfl rfl rfl rfl ?_
 refine jx_alen c1 hm (v := 6) rfl sh_15 rfl rfl ?_
 refine jx_load c1 hm rfl rfl rfl rfl ?_
 refine jx_alen c1 hm (v := 6) rfl sh_60 rfl rfl ?_
 refine jx_min c1 hm rfl rfl (fun z1 lz1 uz1 ez1 => ?_)
 obtain ⟨M2, e2, hH2, hF2, n2, _⟩ := mcp hH0 hF0 (c1 := 15) (c2 := 60) (n := z1) (fun _ _ => rfl) (fun j hj => jin_of 0 rfl ⟨by omega, by omega⟩)
 refine jm_acpi c1 hm rfl rfl sh_15 sh_60 ⟨by omega, by omega, by omega⟩ e2 ?_
 exact jx_retv c2 hm rfl rfl ⟨rfl, hH2, hF2⟩
def md_X11_copyRow_16_61 : List (Nat × (Nat × Nat)) := [(61, (0, 5))]
theorem ct_X11_copyRow_16_61 (X : Int) (hX : 0 ≤ X ∧ X ≤ 100000000) (M0 : JM) (hH0 : HI X M0)  : JOk shp PJ 1 29 [.inr (.inr (.inl 16)), .inr (.inr (.inl 61))] M0 (jRv (fun M' => HI X M' ∧ Fr md_X11_copyRow_16_61 M0 M' )) := by
 refine ⟨jr_X11_copyRow, pj_X11_copyRow, fun F c1 c2 c3 => ?_⟩
 have hm := pj_X11_copyRow
 change F 0 [some (.inr (.inr (.inl 16))), some (.inr (.inr (.inl 61)))] [] M0
 have hF0 : Fr md_X11_copyRow_16_61 M0 M0 := Fr.rf _ _
 refine jx_load c1 hm rfl rfl rfl rfl ?_
 refine jy_ic c1 hm rfl (by decide) ?_
 refine jx_load c1 hm rfl rfl rfl rfl ?_
 refine jy_ic c1 hm rfl (by decide) ?_
 refine jx_load c1 hm rfl rfl rfl rfl ?_
 refine jx_alen c1 hm (v := 6) rfl sh_16 rfl rfl ?_
 refine jx_load c1 hm rfl rfl rfl rfl ?_
 refine jx_alen c1 hm (v := 6) rfl sh_61 rfl rfl ?_
 refine jx_min c1 hm rfl rfl (fun z1 lz1 uz1 ez1 => ?_)
 obtain ⟨M2, e2, hH2, hF2, n2, _⟩ := mcp hH0 hF0 (c1 := 16) (c2 := 61) (n := z1) (fun _ _ => rfl) (fun j hj => jin_of 0 rfl ⟨by omega, by omega⟩)
 refine jm_acpi c1 hm rfl rfl sh_16 sh_61 ⟨by omega, by omega, by omega⟩ e2 ?_
 exact jx_retv c2 hm rfl rfl ⟨rfl, hH2, hF2⟩
def md_X11_copyRow_17_62 : List (Nat × (Nat × Nat)) := [(62, (0, 35))]
theorem ct_X11_copyRow_17_62 (X : Int) (hX : 0 ≤ X ∧ X ≤ 100000000) (M0 : JM) (hH0 : HI X M0)  : JOk shp PJ 1 29 [.inr (.inr (.inl 17)), .inr (.inr (.inl 62))] M0 (jRv (fun M' => HI X M' ∧ Fr md_X11_copyRow_17_62 M0 M' )) := by
 refine ⟨jr_X11_copyRow, pj_X11_copyRow, fun F c1 c2 c3 => ?_⟩
 have hm := pj_X11_copyRow
 change F 0 [some (.inr (.inr (.inl 17))), some (.inr (.inr (.inl 62)))] [] M0
 have hF0 : Fr md_X11_copyRow_17_62 M0 M0 := Fr.rf _ _
 refine jx_load c1 hm rfl rfl rfl rfl ?_
 refine jy_ic c1 hm rfl (by decide) ?_
 refine jx_load c1 hm rfl rfl rfl rfl ?_
 refine jy_ic c1 hm rfl (by decide) ?_
 refine jx_load c1 hm rfl rfl rfl rfl ?_
 refine jx_alen c1 hm (v := 36) rfl sh_17 rfl rfl ?_
 refine jx_load c1 hm rfl rfl rfl rfl ?_
 refine jx_alen c1 hm (v := 36) rfl sh_62 rfl rfl ?_
 refine jx_min c1 hm rfl rfl (fun z1 lz1 uz1 ez1 => ?_)
 obtain ⟨M2, e2, hH2, hF2, n2, _⟩ := mcp hH0 hF0 (c1 := 17) (c2 := 62) (n := z1) (fun _ _ => rfl) (fun j hj => jin_of 0 rfl ⟨by omega, by omega⟩)
 refine jm_acpi c1 hm rfl rfl sh_17 sh_62 ⟨by omega, by omega, by omega⟩ e2 ?_
 exact jx_retv c2 hm rfl rfl ⟨rfl, hH2, hF2⟩
def md_X11_copyRow_18_63 : List (Nat × (Nat × Nat)) := [(63, (0, 35))]
theorem ct_X11_copyRow_18_63 (X : Int) (hX : 0 ≤ X ∧ X ≤ 100000000) (M0 : JM) (hH0 : HI X M0)  : JOk shp PJ 1 29 [.inr (.inr (.inl 18)), .inr (.inr (.inl 63))] M0 (jRv (fun M' => HI X M' ∧ Fr md_X11_copyRow_18_63 M0 M' )) := by
 refine ⟨jr_X11_copyRow, pj_X11_copyRow, fun F c1 c2 c3 => ?_⟩
 have hm := pj_X11_copyRow
 change F 0 [some (.inr (.inr (.inl 18))), some (.inr (.inr (.inl 63)))] [] M0
 have hF0 : Fr md_X11_copyRow_18_63 M0 M0 := Fr.rf _ _
 refine jx_load c1 hm rfl rfl rfl rfl ?_
 refine jy_ic c1 hm rfl (by decide) ?_
 refine jx_load c1 hm rfl rfl rfl rfl ?_
 refine jy_ic c1 hm rfl (by decide) ?_
 refine jx_load c1 hm rfl rfl rfl rfl ?_
 refine jx_alen c1 hm (v := 36) rfl sh_18 rfl rfl ?_
 refine jx_load c1 hm rfl rfl rfl rfl ?_
 refine jx_alen c1 hm (v := 36) rfl sh_63 rfl rfl ?_
 refine jx_min c1 hm rfl rfl (fun z1 lz1 uz1 ez1 => ?_)
 obtain ⟨M2, e2, hH2, hF2, n2, _⟩ := mcp hH0 hF0 (c1 := 18) (c2 := 63) (n := z1) (fun _ _ => rfl) (fun j hj => jin_of 0 rfl ⟨by omega, by omega⟩)
 refine jm_acpi c1 hm rfl rfl sh_18 sh_63 ⟨by omega, by omega, by omega⟩ e2 ?_
 exact jx_retv c2 hm rfl rfl ⟨rfl, hH2, hF2⟩
def md_X11_copyRow_19_64 : List (Nat × (Nat × Nat)) := [(64, (0, 35))]
theorem ct_X11_copyRow_19_64 (X : Int) (hX : 0 ≤ X ∧ X ≤ 100000000) (M0 : JM) (hH0 : HI X M0)  : JOk shp PJ 1 29 [.inr (.inr (.inl 19)), .inr (.inr (.inl 64))] M0 (jRv (fun M' => HI X M' ∧ Fr md_X11_copyRow_19_64 M0 M' )) := by
 refine ⟨jr_X11_copyRow, pj_X11_copyRow, fun F c1 c2 c3 => ?_⟩
 have hm := pj_X11_copyRow
 change F 0 [some (.inr (.inr (.inl 19))), some (.inr (.inr (.inl 64)))] [] M0
 have hF0 : Fr md_X11_copyRow_19_64 M0 M0 := Fr.rf _ _
 refine jx_load c1 hm rfl rfl rfl rfl ?_
 refine jy_ic c1 hm rfl (by decide) ?_
 refine jx_load c1 hm rfl rfl rfl rfl ?_
 refine jy_ic c1 hm rfl (by decide) ?_
 refine jx_load c1 hm rfl rfl rfl rfl ?_
 refine jx_alen c1 hm (v := 36) rfl sh_19 rfl rfl ?_
 refine jx_load c1 hm rfl rfl rfl rfl ?_
 refine jx_alen c1 hm (v := 36) rfl sh_64 rfl rfl ?_
 refine jx_min c1 hm rfl rfl (fun z1 lz1 uz1 ez1 => ?_)
 obtain ⟨M2, e2, hH2, hF2, n2, _⟩ := mcp hH0 hF0 (c1 := 19) (c2 := 64) (n := z1) (fun _ _ => rfl) (fun j hj => jin_of 0 rfl ⟨by omega, by omega⟩)
 refine jm_acpi c1 hm rfl rfl sh_19 sh_64 ⟨by omega, by omega, by omega⟩ e2 ?_
 exact jx_retv c2 hm rfl rfl ⟨rfl, hH2, hF2⟩
def md_X8_takeAll_57_12 : List (Nat × (Nat × Nat)) := [(57, (7, 7)), (58, (0, 5)), (59, (0, 5)), (60, (0, 5)), (61, (0, 5)), (62, (0, 35)), (63, (0, 35)), (64, (0, 35))]
theorem ct_X8_takeAll_57_12 (X : Int) (hX : 0 ≤ X ∧ X ≤ 100000000) (M0 : JM) (hH0 : HI X M0)  : JOk shp PJ 2 264 [.inr (.inr (.inl 57)), .inr (.inr (.inl 12))] M0 (jRv (fun M' => HI X M' ∧ Fr md_X8_takeAll_57_12 M0 M' )) := by
 refine ⟨jr_X8_takeAll, pj_X8_takeAll, fun F c1 c2 c3 => ?_⟩
 have hm := pj_X8_takeAll
 change F 0 [some (.inr (.inr (.inl 57))), some (.inr (.inr (.inl 12)))] [] M0
 have hF0 : Fr md_X8_takeAll_57_12 M0 M0 := Fr.rf _ _
 refine jx_load c1 hm rfl rfl rfl rfl ?_
 refine jx_getr c1 hm rfl sh_12 rfl ?_
 refine jx_load c1 hm rfl rfl rfl rfl ?_
 refine jx_getr c1 hm rfl sh_57 rfl ?_
 refine jt_v c3 hm rfl rfl pj_X11_copyRow rfl rfl rfl ((ct_X11_copyRow_13_58 X (by omega) M0 hH0 ).le (by decide)) (fun M1 ⟨hH1, hR1⟩ => ?_)
 have hF1 := hF0.tr hR1 (by decide +kernel)
 refine jx_load c1 hm rfl rfl rfl rfl ?_
 refine jx_getr c1 hm rfl sh_12 rfl ?_
 refine jx_load c1 hm rfl rfl rfl rfl ?_
 refine jx_getr c1 hm rfl sh_57 rfl ?_
 refine jt_v c3 hm rfl rfl pj_X11_copyRow rfl rfl rfl ((ct_X11_copyRow_14_59 X (by omega) M1 hH1 ).le (by decide)) (fun M2 ⟨hH2, hR2⟩ => ?_)
 have hF2 := hF1.tr hR2 (by decide +kernel)
 refine jx_load c1 hm rfl rfl rfl rfl ?_
 refine jx_getr c1 hm rfl sh_12 rfl ?_
 refine jx_load c1 hm rfl rfl rfl rfl ?_
 refine jx_getr c1 hm rfl sh_57 rfl ?_
 refine jt_v c3 hm rfl rfl pj_X11_copyRow rfl rfl rfl ((ct_X11_copyRow_15_60 X (by omega) M2 hH2 ).le (by decide)) (fun M3 ⟨hH3, hR3⟩ => ?_)
 have hF3 := hF2.tr hR3 (by decide +kernel)
 refine jx_load c1 hm rfl rfl rfl rfl ?_
 refine jx_getr c1 hm rfl sh_12 rfl ?_
 refine jx_load c1 hm rfl rfl rfl rfl ?_
 refine jx_getr c1 hm rfl sh_57 rfl ?_
 refine jt_v c3 hm rfl rfl pj_X11_copyRow rfl rfl rfl ((ct_X11_copyRow_16_61 X (by omega) M3 hH3 ).le (by decide)) (fun M4 ⟨hH4, hR4⟩ => ?_)
 have hF4 := hF3.tr hR4 (by decide +kernel)
 refine jx_load c1 hm rfl rfl rfl rfl ?_
 refine jx_getr c1 hm rfl sh_12 rfl ?_
 refine jx_load c1 hm rfl rfl rfl rfl ?_
 refine jx_getr c1 hm rfl sh_57 rfl ?_
 refine jt_v c3 hm rfl rfl pj_X11_copyRow rfl rfl rfl ((ct_X11_copyRow_17_62 X (by omega) M4 hH4 ).le (by decide)) (fun M5 ⟨hH5, hR5⟩ => ?_)
 have hF5 := hF4.tr hR5 (by decide +kernel)
 refine jx_load c1 hm rfl rfl rfl rfl ?_
 refine jx_getr c1 hm rfl sh_12 rfl ?_
 refine jx_load c1 hm rfl rfl rfl rfl ?_
 refine jx_getr c1 hm rfl sh_57 rfl ?_
 refine jt_v c3 hm rfl rfl pj_X11_copyRow rfl rfl rfl ((ct_X11_copyRow_18_63 X (by omega) M5 hH5 ).le (by decide)) (fun M6 ⟨hH6, hR6⟩ => ?_)
 have hF6 := hF5.tr hR6 (by decide +kernel)
 refine jx_load c1 hm rfl rfl rfl rfl ?_
 refine jx_getr c1 hm rfl sh_12 rfl ?_
 refine jx_load c1 hm rfl rfl rfl rfl ?_
 refine jx_getr c1 hm rfl sh_57 rfl ?_
 refine jt_v c3 hm rfl rfl pj_X11_copyRow rfl rfl rfl ((ct_X11_copyRow_19_64 X (by omega) M6 hH6 ).le (by decide)) (fun M7 ⟨hH7, hR7⟩ => ?_)
 have hF7 := hF6.tr hR7 (by decide +kernel)
 refine jx_load c1 hm rfl rfl rfl rfl ?_
 refine jx_load c1 hm rfl rfl rfl rfl ?_
 obtain ⟨z8, k9, lz8, uz8⟩ := hH7.ld (c := 12) (i := 7) (A := (-2147483648)) (B := 2147483647) rfl
 refine jx_geti c1 hm rfl sh_12 rfl k9 ?_
 obtain ⟨M10, e10, hH10, hF10, k10, n10, _⟩ := mup hH7 hF7 (c := 57) (i := 7) (v := z8) (A := (-2147483648)) (B := 2147483647) rfl ⟨by omega, by omega⟩ (jin_of 0 rfl ⟨by omega, by omega⟩)
 refine jm_puti c1 hm rfl sh_57 rfl e10 ?_
 exact jx_retv c2 hm rfl rfl ⟨rfl, hH10, hF10⟩
def md_X11_copyRow_13_66 : List (Nat × (Nat × Nat)) := [(66, (0, 5))]
theorem ct_X11_copyRow_13_66 (X : Int) (hX : 0 ≤ X ∧ X ≤ 100000000) (M0 : JM) (hH0 : HI X M0)  : JOk shp PJ 1 29 [.inr (.inr (.inl 13)), .inr (.inr (.inl 66))] M0 (jRv (fun M' => HI X M' ∧ Fr md_X11_copyRow_13_66 M0 M' )) := by
 refine ⟨jr_X11_copyRow, pj_X11_copyRow, fun F c1 c2 c3 => ?_⟩
 have hm := pj_X11_copyRow
 change F 0 [some (.inr (.inr (.inl 13))), some (.inr (.inr (.inl 66)))] [] M0
 have hF0 : Fr md_X11_copyRow_13_66 M0 M0 := Fr.rf _ _
 refine jx_load c1 hm rfl rfl rfl rfl ?_
 refine jy_ic c1 hm rfl (by decide) ?_
 refine jx_load c1 hm rfl rfl rfl rfl ?_
 refine jy_ic c1 hm rfl (by decide) ?_
 refine jx_load c1 hm rfl rfl rfl rfl ?_
 refine jx_alen c1 hm (v := 6) rfl sh_13 rfl rfl ?_
 refine jx_load c1 hm rfl rfl rfl rfl ?_
 refine jx_alen c1 hm (v := 6) rfl sh_66 rfl rfl ?_
 refine jx_min c1 hm rfl rfl (fun z1 lz1 uz1 ez1 => ?_)
 obtain ⟨M2, e2, hH2, hF2, n2, _⟩ := mcp hH0 hF0 (c1 := 13) (c2 := 66) (n := z1) (fun _ _ => rfl) (fun j hj => jin_of 0 rfl ⟨by omega, by omega⟩)
 refine jm_acpi c1 hm rfl rfl sh_13 sh_66 ⟨by omega, by omega, by omega⟩ e2 ?_
 exact jx_retv c2 hm rfl rfl ⟨rfl, hH2, hF2⟩
def md_X11_copyRow_14_67 : List (Nat × (Nat × Nat)) := [(67, (0, 5))]
theorem ct_X11_copyRow_14_67 (X : Int) (hX : 0 ≤ X ∧ X ≤ 100000000) (M0 : JM) (hH0 : HI X M0)  : JOk shp PJ 1 29 [.inr (.inr (.inl 14)), .inr (.inr (.inl 67))] M0 (jRv (fun M' => HI X M' ∧ Fr md_X11_copyRow_14_67 M0 M' )) := by
 refine ⟨jr_X11_copyRow, pj_X11_copyRow, fun F c1 c2 c3 => ?_⟩
 have hm := pj_X11_copyRow
 change F 0 [some (.inr (.inr (.inl 14))), some (.inr (.inr (.inl 67)))] [] M0
 have hF0 : Fr md_X11_copyRow_14_67 M0 M0 := Fr.rf _ _
 refine jx_load c1 hm rfl rfl rfl rfl ?_
 refine jy_ic c1 hm rfl (by decide) ?_
 refine jx_load c1 hm rfl rfl rfl rfl ?_
 refine jy_ic c1 hm rfl (by decide) ?_
 refine jx_load c1 hm rfl rfl rfl rfl ?_
 refine jx_alen c1 hm (v := 6) rfl sh_14 rfl rfl ?_
 refine jx_load c1 hm rfl rfl rfl rfl ?_
 refine jx_alen c1 hm (v := 6) rfl sh_67 rfl rfl ?_
 refine jx_min c1 hm rfl rfl (fun z1 lz1 uz1 ez1 => ?_)
 obtain ⟨M2, e2, hH2, hF2, n2, _⟩ := mcp hH0 hF0 (c1 := 14) (c2 := 67) (n := z1) (fun _ _ => rfl) (fun j hj => jin_of 0 rfl ⟨by omega, by omega⟩)
 refine jm_acpi c1 hm rfl rfl sh_14 sh_67 ⟨by omega, by omega, by omega⟩ e2 ?_
 exact jx_retv c2 hm rfl rfl ⟨rfl, hH2, hF2⟩
def md_X11_copyRow_15_68 : List (Nat × (Nat × Nat)) := [(68, (0, 5))]
theorem ct_X11_copyRow_15_68 (X : Int) (hX : 0 ≤ X ∧ X ≤ 100000000) (M0 : JM) (hH0 : HI X M0)  : JOk shp PJ 1 29 [.inr (.inr (.inl 15)), .inr (.inr (.inl 68))] M0 (jRv (fun M' => HI X M' ∧ Fr md_X11_copyRow_15_68 M0 M' )) := by
 refine ⟨jr_X11_copyRow, pj_X11_copyRow, fun F c1 c2 c3 => ?_⟩
 have hm := pj_X11_copyRow
 change F 0 [some (.inr (.inr (.inl 15))), some (.inr (.inr (.inl 68)))] [] M0
 have hF0 : Fr md_X11_copyRow_15_68 M0 M0 := Fr.rf _ _
 refine jx_load c1 hm rfl rfl rfl rfl ?_
 refine jy_ic c1 hm rfl (by decide) ?_
 refine jx_load c1 hm rfl rfl rfl rfl ?_
 refine jy_ic c1 hm rfl (by decide) ?_
 refine jx_load c1 hm rfl rfl rfl rfl ?_
 refine jx_alen c1 hm (v := 6) rfl sh_15 rfl rfl ?_
 refine jx_load c1 hm rfl rfl rfl rfl ?_
 refine jx_alen c1 hm (v := 6) rfl sh_68 rfl rfl ?_
 refine jx_min c1 hm rfl rfl (fun z1 lz1 uz1 ez1 => ?_)
 obtain ⟨M2, e2, hH2, hF2, n2, _⟩ := mcp hH0 hF0 (c1 := 15) (c2 := 68) (n := z1) (fun _ _ => rfl) (fun j hj => jin_of 0 rfl ⟨by omega, by omega⟩)
 refine jm_acpi c1 hm rfl rfl sh_15 sh_68 ⟨by omega, by omega, by omega⟩ e2 ?_
 exact jx_retv c2 hm rfl rfl ⟨rfl, hH2, hF2⟩
def md_X11_copyRow_16_69 : List (Nat × (Nat × Nat)) := [(69, (0, 5))]
theorem ct_X11_copyRow_16_69 (X : Int) (hX : 0 ≤ X ∧ X ≤ 100000000) (M0 : JM) (hH0 : HI X M0)  : JOk shp PJ 1 29 [.inr (.inr (.inl 16)), .inr (.inr (.inl 69))] M0 (jRv (fun M' => HI X M' ∧ Fr md_X11_copyRow_16_69 M0 M' )) := by
 refine ⟨jr_X11_copyRow, pj_X11_copyRow, fun F c1 c2 c3 => ?_⟩
 have hm := pj_X11_copyRow
 change F 0 [some (.inr (.inr (.inl 16))), some (.inr (.inr (.inl 69)))] [] M0
 have hF0 : Fr md_X11_copyRow_16_69 M0 M0 := Fr.rf _ _
 refine jx_load c1 hm rfl rfl rfl rfl ?_
 refine jy_ic c1 hm rfl (by decide) ?_
 refine jx_load c1 hm rfl rfl rfl rfl ?_
 refine jy_ic c1 hm rfl (by decide) ?_
 refine jx_load c1 hm rfl rfl rfl rfl ?_
 refine jx_alen c1 hm (v := 6) rfl sh_16 rfl rfl ?_
 refine jx_load c1 hm rfl rfl rfl rfl ?_
 refine jx_alen c1 hm (v := 6) rfl sh_69 rfl rfl ?_
 refine jx_min c1 hm rfl rfl (fun z1 lz1 uz1 ez1 => ?_)
 obtain ⟨M2, e2, hH2, hF2, n2, _⟩ := mcp hH0 hF0 (c1 := 16) (c2 := 69) (n := z1) (fun _ _ => rfl) (fun j hj => jin_of 0 rfl ⟨by omega, by omega⟩)
 refine jm_acpi c1 hm rfl rfl sh_16 sh_69 ⟨by omega, by omega, by omega⟩ e2 ?_
 exact jx_retv c2 hm rfl rfl ⟨rfl, hH2, hF2⟩
def md_X11_copyRow_17_70 : List (Nat × (Nat × Nat)) := [(70, (0, 35))]
theorem ct_X11_copyRow_17_70 (X : Int) (hX : 0 ≤ X ∧ X ≤ 100000000) (M0 : JM) (hH0 : HI X M0)  : JOk shp PJ 1 29 [.inr (.inr (.inl 17)), .inr (.inr (.inl 70))] M0 (jRv (fun M' => HI X M' ∧ Fr md_X11_copyRow_17_70 M0 M' )) := by
 refine ⟨jr_X11_copyRow, pj_X11_copyRow, fun F c1 c2 c3 => ?_⟩
 have hm := pj_X11_copyRow
 change F 0 [some (.inr (.inr (.inl 17))), some (.inr (.inr (.inl 70)))] [] M0
 have hF0 : Fr md_X11_copyRow_17_70 M0 M0 := Fr.rf _ _
 refine jx_load c1 hm rfl rfl rfl rfl ?_
 refine jy_ic c1 hm rfl (by decide) ?_
 refine jx_load c1 hm rfl rfl rfl rfl ?_
 refine jy_ic c1 hm rfl (by decide) ?_
 refine jx_load c1 hm rfl rfl rfl rfl ?_
 refine jx_alen c1 hm (v := 36) rfl sh_17 rfl rfl ?_
 refine jx_load c1 hm rfl rfl rfl rfl ?_
 refine jx_alen c1 hm (v := 36) rfl sh_70 rfl rfl ?_
 refine jx_min c1 hm rfl rfl (fun z1 lz1 uz1 ez1 => ?_)
 obtain ⟨M2, e2, hH2, hF2, n2, _⟩ := mcp hH0 hF0 (c1 := 17) (c2 := 70) (n := z1) (fun _ _ => rfl) (fun j hj => jin_of 0 rfl ⟨by omega, by omega⟩)
 refine jm_acpi c1 hm rfl rfl sh_17 sh_70 ⟨by omega, by omega, by omega⟩ e2 ?_
 exact jx_retv c2 hm rfl rfl ⟨rfl, hH2, hF2⟩
def md_X11_copyRow_18_71 : List (Nat × (Nat × Nat)) := [(71, (0, 35))]
theorem ct_X11_copyRow_18_71 (X : Int) (hX : 0 ≤ X ∧ X ≤ 100000000) (M0 : JM) (hH0 : HI X M0)  : JOk shp PJ 1 29 [.inr (.inr (.inl 18)), .inr (.inr (.inl 71))] M0 (jRv (fun M' => HI X M' ∧ Fr md_X11_copyRow_18_71 M0 M' )) := by
 refine ⟨jr_X11_copyRow, pj_X11_copyRow, fun F c1 c2 c3 => ?_⟩
 have hm := pj_X11_copyRow
 change F 0 [some (.inr (.inr (.inl 18))), some (.inr (.inr (.inl 71)))] [] M0
 have hF0 : Fr md_X11_copyRow_18_71 M0 M0 := Fr.rf _ _
 refine jx_load c1 hm rfl rfl rfl rfl ?_
 refine jy_ic c1 hm rfl (by decide) ?_
 refine jx_load c1 hm rfl rfl rfl rfl ?_
 refine jy_ic c1 hm rfl (by decide) ?_
 refine jx_load c1 hm rfl rfl rfl rfl ?_
 refine jx_alen c1 hm (v := 36) rfl sh_18 rfl rfl ?_
 refine jx_load c1 hm rfl rfl rfl rfl ?_
 refine jx_alen c1 hm (v := 36) rfl sh_71 rfl rfl ?_
 refine jx_min c1 hm rfl rfl (fun z1 lz1 uz1 ez1 => ?_)
 obtain ⟨M2, e2, hH2, hF2, n2, _⟩ := mcp hH0 hF0 (c1 := 18) (c2 := 71) (n := z1) (fun _ _ => rfl) (fun j hj => jin_of 0 rfl ⟨by omega, by omega⟩)
 refine jm_acpi c1 hm rfl rfl sh_18 sh_71 ⟨by omega, by omega, by omega⟩ e2 ?_
 exact jx_retv c2 hm rfl rfl ⟨rfl, hH2, hF2⟩
def md_X11_copyRow_19_72 : List (Nat × (Nat × Nat)) := [(72, (0, 35))]
theorem ct_X11_copyRow_19_72 (X : Int) (hX : 0 ≤ X ∧ X ≤ 100000000) (M0 : JM) (hH0 : HI X M0)  : JOk shp PJ 1 29 [.inr (.inr (.inl 19)), .inr (.inr (.inl 72))] M0 (jRv (fun M' => HI X M' ∧ Fr md_X11_copyRow_19_72 M0 M' )) := by
 refine ⟨jr_X11_copyRow, pj_X11_copyRow, fun F c1 c2 c3 => ?_⟩
 have hm := pj_X11_copyRow
 change F 0 [some (.inr (.inr (.inl 19))), some (.inr (.inr (.inl 72)))] [] M0
 have hF0 : Fr md_X11_copyRow_19_72 M0 M0 := Fr.rf _ _
 refine jx_load c1 hm rfl rfl rfl rfl ?_
 refine jy_ic c1 hm rfl (by decide) ?_
 refine jx_load c1 hm rfl rfl rfl rfl ?_
 refine jy_ic c1 hm rfl (by decide) ?_
 refine jx_load c1 hm rfl rfl rfl rfl ?_
 refine jx_alen c1 hm (v := 36) rfl sh_19 rfl rfl ?_
 refine jx_load c1 hm rfl rfl rfl rfl ?_
 refine jx_alen c1 hm (v := 36) rfl sh_72 rfl rfl ?_
 refine jx_min c1 hm rfl rfl (fun z1 lz1 uz1 ez1 => ?_)
 obtain ⟨M2, e2, hH2, hF2, n2, _⟩ := mcp hH0 hF0 (c1 := 19) (c2 := 72) (n := z1) (fun _ _ => rfl) (fun j hj => jin_of 0 rfl ⟨by omega, by omega⟩)
 refine jm_acpi c1 hm rfl rfl sh_19 sh_72 ⟨by omega, by omega, by omega⟩ e2 ?_
 exact jx_retv c2 hm rfl rfl ⟨rfl, hH2, hF2⟩
def md_X8_takeAll_65_12 : List (Nat × (Nat × Nat)) := [(65, (7, 7)), (66, (0, 5)), (67, (0, 5)), (68, (0, 5)), (69, (0, 5)), (70, (0, 35)), (71, (0, 35)), (72, (0, 35))]
theorem ct_X8_takeAll_65_12 (X : Int) (hX : 0 ≤ X ∧ X ≤ 100000000) (M0 : JM) (hH0 : HI X M0)  : JOk shp PJ 2 264 [.inr (.inr (.inl 65)), .inr (.inr (.inl 12))] M0 (jRv (fun M' => HI X M' ∧ Fr md_X8_takeAll_65_12 M0 M' )) := by
 refine ⟨jr_X8_takeAll, pj_X8_takeAll, fun F c1 c2 c3 => ?_⟩
 have hm := pj_X8_takeAll
 change F 0 [some (.inr (.inr (.inl 65))), some (.inr (.inr (.inl 12)))] [] M0
 have hF0 : Fr md_X8_takeAll_65_12 M0 M0 := Fr.rf _ _
 refine jx_load c1 hm rfl rfl rfl rfl ?_
 refine jx_getr c1 hm rfl sh_12 rfl ?_
 refine jx_load c1 hm rfl rfl rfl rfl ?_
 refine jx_getr c1 hm rfl sh_65 rfl ?_
 refine jt_v c3 hm rfl rfl pj_X11_copyRow rfl rfl rfl ((ct_X11_copyRow_13_66 X (by omega) M0 hH0 ).le (by decide)) (fun M1 ⟨hH1, hR1⟩ => ?_)
 have hF1 := hF0.tr hR1 (by decide +kernel)
 refine jx_load c1 hm rfl rfl rfl rfl ?_
 refine jx_getr c1 hm rfl sh_12 rfl ?_
 refine jx_load c1 hm rfl rfl rfl rfl ?_
 refine jx_getr c1 hm rfl sh_65 rfl ?_
 refine jt_v c3 hm rfl rfl pj_X11_copyRow rfl rfl rfl ((ct_X11_copyRow_14_67 X (by omega) M1 hH1 ).le (by decide)) (fun M2 ⟨hH2, hR2⟩ => ?_)
 have hF2 := hF1.tr hR2 (by decide +kernel)
 refine jx_load c1 hm rfl rfl rfl rfl ?_
 refine jx_getr c1 hm rfl sh_12 rfl ?_
 refine jx_load c1 hm rfl rfl rfl rfl ?_
 refine jx_getr c1 hm rfl sh_65 rfl ?_
 refine jt_v c3 hm rfl rfl pj_X11_copyRow rfl rfl rfl ((ct_X11_copyRow_15_68 X (by omega) M2 hH2 ).le (by decide)) (fun M3 ⟨hH3, hR3⟩ => ?_)
 have hF3 := hF2.tr hR3 (by decide +kernel)
 refine jx_load c1 hm rfl rfl rfl rfl ?_
 refine jx_getr c1 hm rfl sh_12 rfl ?_
 refine jx_load c1 hm rfl rfl rfl rfl ?_
 refine jx_getr c1 hm rfl sh_65 rfl ?_
 refine jt_v c3 hm rfl rfl pj_X11_copyRow rfl rfl rfl ((ct_X11_copyRow_16_69 X (by omega) M3 hH3 ).le (by decide)) (fun M4 ⟨hH4, hR4⟩ => ?_)
 have hF4 := hF3.tr hR4 (by decide +kernel)
 refine jx_load c1 hm rfl rfl rfl rfl ?_
 refine jx_getr c1 hm rfl sh_12 rfl ?_
 refine jx_load c1 hm rfl rfl rfl rfl ?_
 refine jx_getr c1 hm rfl sh_65 rfl ?_
 refine jt_v c3 hm rfl rfl pj_X11_copyRow rfl rfl rfl ((ct_X11_copyRow_17_70 X (by omega) M4 hH4 ).le (by decide)) (fun M5 ⟨hH5, hR5⟩ => ?_)
 have hF5 := hF4.tr hR5 (by decide +kernel)
 refine jx_load c1 hm rfl rfl rfl rfl ?_
 refine jx_getr c1 hm rfl sh_12 rfl ?_
 refine jx_load c1 hm rfl rfl rfl rfl ?_
 refine jx_getr c1 hm rfl sh_65 rfl ?_
 refine jt_v c3 hm rfl rfl pj_X11_copyRow rfl rfl rfl ((ct_X11_copyRow_18_71 X (by omega) M5 hH5 ).le (by decide)) (fun M6 ⟨hH6, hR6⟩ => ?_)
 have hF6 := hF5.tr hR6 (by decide +kernel)
 refine jx_load c1 hm rfl rfl rfl rfl ?_
 refine jx_getr c1 hm rfl sh_12 rfl ?_
 refine jx_load c1 hm rfl rfl rfl rfl ?_
 refine jx_getr c1 hm rfl sh_65 rfl ?_
 refine jt_v c3 hm rfl rfl pj_X11_copyRow rfl rfl rfl ((ct_X11_copyRow_19_72 X (by omega) M6 hH6 ).le (by decide)) (fun M7 ⟨hH7, hR7⟩ => ?_)
 have hF7 := hF6.tr hR7 (by decide +kernel)
 refine jx_load c1 hm rfl rfl rfl rfl ?_
 refine jx_load c1 hm rfl rfl rfl rfl ?_
 obtain ⟨z8, k9, lz8, uz8⟩ := hH7.ld (c := 12) (i := 7) (A := (-2147483648)) (B := 2147483647) rfl
 refine jx_geti c1 hm rfl sh_12 rfl k9 ?_
 obtain ⟨M10, e10, hH10, hF10, k10, n10, _⟩ := mup hH7 hF7 (c := 65) (i := 7) (v := z8) (A := (-2147483648)) (B := 2147483647) rfl ⟨by omega, by omega⟩ (jin_of 0 rfl ⟨by omega, by omega⟩)
 refine jm_puti c1 hm rfl sh_65 rfl e10 ?_
 exact jx_retv c2 hm rfl rfl ⟨rfl, hH10, hF10⟩
def md_X11_copyRow_13_74 : List (Nat × (Nat × Nat)) := [(74, (0, 5))]
theorem ct_X11_copyRow_13_74 (X : Int) (hX : 0 ≤ X ∧ X ≤ 100000000) (M0 : JM) (hH0 : HI X M0)  : JOk shp PJ 1 29 [.inr (.inr (.inl 13)), .inr (.inr (.inl 74))] M0 (jRv (fun M' => HI X M' ∧ Fr md_X11_copyRow_13_74 M0 M' )) := by
 refine ⟨jr_X11_copyRow, pj_X11_copyRow, fun F c1 c2 c3 => ?_⟩
 have hm := pj_X11_copyRow
 change F 0 [some (.inr (.inr (.inl 13))), some (.inr (.inr (.inl 74)))] [] M0
 have hF0 : Fr md_X11_copyRow_13_74 M0 M0 := Fr.rf _ _
 refine jx_load c1 hm rfl rfl rfl rfl ?_
 refine jy_ic c1 hm rfl (by decide) ?_
 refine jx_load c1 hm rfl rfl rfl rfl ?_
 refine jy_ic c1 hm rfl (by decide) ?_
 refine jx_load c1 hm rfl rfl rfl rfl ?_
 refine jx_alen c1 hm (v := 6) rfl sh_13 rfl rfl ?_
 refine jx_load c1 hm rfl rfl rfl rfl ?_
 refine jx_alen c1 hm (v := 6) rfl sh_74 rfl rfl ?_
 refine jx_min c1 hm rfl rfl (fun z1 lz1 uz1 ez1 => ?_)
 obtain ⟨M2, e2, hH2, hF2, n2, _⟩ := mcp hH0 hF0 (c1 := 13) (c2 := 74) (n := z1) (fun _ _ => rfl) (fun j hj => jin_of 0 rfl ⟨by omega, by omega⟩)
 refine jm_acpi c1 hm rfl rfl sh_13 sh_74 ⟨by omega, by omega, by omega⟩ e2 ?_
 exact jx_retv c2 hm rfl rfl ⟨rfl, hH2, hF2⟩
def md_X11_copyRow_14_75 : List (Nat × (Nat × Nat)) := [(75, (0, 5))]
theorem ct_X11_copyRow_14_75 (X : Int) (hX : 0 ≤ X ∧ X ≤ 100000000) (M0 : JM) (hH0 : HI X M0)  : JOk shp PJ 1 29 [.inr (.inr (.inl 14)), .inr (.inr (.inl 75))] M0 (jRv (fun M' => HI X M' ∧ Fr md_X11_copyRow_14_75 M0 M' )) := by
 refine ⟨jr_X11_copyRow, pj_X11_copyRow, fun F c1 c2 c3 => ?_⟩
 have hm := pj_X11_copyRow
 change F 0 [some (.inr (.inr (.inl 14))), some (.inr (.inr (.inl 75)))] [] M0
 have hF0 : Fr md_X11_copyRow_14_75 M0 M0 := Fr.rf _ _
 refine jx_load c1 hm rfl rfl rfl rfl ?_
 refine jy_ic c1 hm rfl (by decide) ?_
 refine jx_load c1 hm rfl rfl rfl rfl ?_
 refine jy_ic c1 hm rfl (by decide) ?_
 refine jx_load c1 hm rfl rfl rfl rfl ?_
 refine jx_alen c1 hm (v := 6) rfl sh_14 rfl rfl ?_
 refine jx_load c1 hm rfl rfl rfl rfl ?_
 refine jx_alen c1 hm (v := 6) rfl sh_75 rfl rfl ?_
 refine jx_min c1 hm rfl rfl (fun z1 lz1 uz1 ez1 => ?_)
 obtain ⟨M2, e2, hH2, hF2, n2, _⟩ := mcp hH0 hF0 (c1 := 14) (c2 := 75) (n := z1) (fun _ _ => rfl) (fun j hj => jin_of 0 rfl ⟨by omega, by omega⟩)
 refine jm_acpi c1 hm rfl rfl sh_14 sh_75 ⟨by omega, by omega, by omega⟩ e2 ?_
 exact jx_retv c2 hm rfl rfl ⟨rfl, hH2, hF2⟩
def md_X11_copyRow_15_76 : List (Nat × (Nat × Nat)) := [(76, (0, 5))]
theorem ct_X11_copyRow_15_76 (X : Int) (hX : 0 ≤ X ∧ X ≤ 100000000) (M0 : JM) (hH0 : HI X M0)  : JOk shp PJ 1 29 [.inr (.inr (.inl 15)), .inr (.inr (.inl 76))] M0 (jRv (fun M' => HI X M' ∧ Fr md_X11_copyRow_15_76 M0 M' )) := by
 refine ⟨jr_X11_copyRow, pj_X11_copyRow, fun F c1 c2 c3 => ?_⟩
 have hm := pj_X11_copyRow
 change F 0 [some (.inr (.inr (.inl 15))), some (.inr (.inr (.inl 76)))] [] M0
 have hF0 : Fr md_X11_copyRow_15_76 M0 M0 := Fr.rf _ _
 refine jx_load c1 hm rfl rfl rfl rfl ?_
 refine jy_ic c1 hm rfl (by decide) ?_
 refine jx_load c1 hm rfl rfl rfl rfl ?_
 refine jy_ic c1 hm rfl (by decide) ?_
 refine jx_load c1 hm rfl rfl rfl rfl ?_
 refine jx_alen c1 hm (v := 6) rfl sh_15 rfl rfl ?_
 refine jx_load c1 hm rfl rfl rfl rfl ?_
 refine jx_alen c1 hm (v := 6) rfl sh_76 rfl rfl ?_
 refine jx_min c1 hm rfl rfl (fun z1 lz1 uz1 ez1 => ?_)
 obtain ⟨M2, e2, hH2, hF2, n2, _⟩ := mcp hH0 hF0 (c1 := 15) (c2 := 76) (n := z1) (fun _ _ => rfl) (fun j hj => jin_of 0 rfl ⟨by omega, by omega⟩)
 refine jm_acpi c1 hm rfl rfl sh_15 sh_76 ⟨by omega, by omega, by omega⟩ e2 ?_
 exact jx_retv c2 hm rfl rfl ⟨rfl, hH2, hF2⟩
def md_X11_copyRow_16_77 : List (Nat × (Nat × Nat)) := [(77, (0, 5))]
theorem ct_X11_copyRow_16_77 (X : Int) (hX : 0 ≤ X ∧ X ≤ 100000000) (M0 : JM) (hH0 : HI X M0)  : JOk shp PJ 1 29 [.inr (.inr (.inl 16)), .inr (.inr (.inl 77))] M0 (jRv (fun M' => HI X M' ∧ Fr md_X11_copyRow_16_77 M0 M' )) := by
 refine ⟨jr_X11_copyRow, pj_X11_copyRow, fun F c1 c2 c3 => ?_⟩
 have hm := pj_X11_copyRow
 change F 0 [some (.inr (.inr (.inl 16))), some (.inr (.inr (.inl 77)))] [] M0
 have hF0 : Fr md_X11_copyRow_16_77 M0 M0 := Fr.rf _ _
 refine jx_load c1 hm rfl rfl rfl rfl ?_
 refine jy_ic c1 hm rfl (by decide) ?_
 refine jx_load c1 hm rfl rfl rfl rfl ?_
 refine jy_ic c1 hm rfl (by decide) ?_
 refine jx_load c1 hm rfl rfl rfl rfl ?_
 refine jx_alen c1 hm (v := 6) rfl sh_16 rfl rfl ?_
 refine jx_load c1 hm rfl rfl rfl rfl ?_
 refine jx_alen c1 hm (v := 6) rfl sh_77 rfl rfl ?_
 refine jx_min c1 hm rfl rfl (fun z1 lz1 uz1 ez1 => ?_)
 obtain ⟨M2, e2, hH2, hF2, n2, _⟩ := mcp hH0 hF0 (c1 := 16) (c2 := 77) (n := z1) (fun _ _ => rfl) (fun j hj => jin_of 0 rfl ⟨by omega, by omega⟩)
 refine jm_acpi c1 hm rfl rfl sh_16 sh_77 ⟨by omega, by omega, by omega⟩ e2 ?_
 exact jx_retv c2 hm rfl rfl ⟨rfl, hH2, hF2⟩
def md_X11_copyRow_17_78 : List (Nat × (Nat × Nat)) := [(78, (0, 35))]
theorem ct_X11_copyRow_17_78 (X : Int) (hX : 0 ≤ X ∧ X ≤ 100000000) (M0 : JM) (hH0 : HI X M0)  : JOk shp PJ 1 29 [.inr (.inr (.inl 17)), .inr (.inr (.inl 78))] M0 (jRv (fun M' => HI X M' ∧ Fr md_X11_copyRow_17_78 M0 M' )) := by
 refine ⟨jr_X11_copyRow, pj_X11_copyRow, fun F c1 c2 c3 => ?_⟩
 have hm := pj_X11_copyRow
 change F 0 [some (.inr (.inr (.inl 17))), some (.inr (.inr (.inl 78)))] [] M0
 have hF0 : Fr md_X11_copyRow_17_78 M0 M0 := Fr.rf _ _
 refine jx_load c1 hm rfl rfl rfl rfl ?_
 refine jy_ic c1 hm rfl (by decide) ?_
 refine jx_load c1 hm rfl rfl rfl rfl ?_
 refine jy_ic c1 hm rfl (by decide) ?_
 refine jx_load c1 hm rfl rfl rfl rfl ?_
 refine jx_alen c1 hm (v := 36) rfl sh_17 rfl rfl ?_
 refine jx_load c1 hm rfl rfl rfl rfl ?_
 refine jx_alen c1 hm (v := 36) rfl sh_78 rfl rfl ?_
 refine jx_min c1 hm rfl rfl (fun z1 lz1 uz1 ez1 => ?_)
 obtain ⟨M2, e2, hH2, hF2, n2, _⟩ := mcp hH0 hF0 (c1 := 17) (c2 := 78) (n := z1) (fun _ _ => rfl) (fun j hj => jin_of 0 rfl ⟨by omega, by omega⟩)
 refine jm_acpi c1 hm rfl rfl sh_17 sh_78 ⟨by omega, by omega, by omega⟩ e2 ?_
 exact jx_retv c2 hm rfl rfl ⟨rfl, hH2, hF2⟩
def md_X11_copyRow_18_79 : List (Nat × (Nat × Nat)) := [(79, (0, 35))]
theorem ct_X11_copyRow_18_79 (X : Int) (hX : 0 ≤ X ∧ X ≤ 100000000) (M0 : JM) (hH0 : HI X M0)  : JOk shp PJ 1 29 [.inr (.inr (.inl 18)), .inr (.inr (.inl 79))] M0 (jRv (fun M' => HI X M' ∧ Fr md_X11_copyRow_18_79 M0 M' )) := by
 refine ⟨jr_X11_copyRow, pj_X11_copyRow, fun F c1 c2 c3 => ?_⟩
 have hm := pj_X11_copyRow
 change F 0 [some (.inr (.inr (.inl 18))), some (.inr (.inr (.inl 79)))] [] M0
 have hF0 : Fr md_X11_copyRow_18_79 M0 M0 := Fr.rf _ _
 refine jx_load c1 hm rfl rfl rfl rfl ?_
 refine jy_ic c1 hm rfl (by decide) ?_
 refine jx_load c1 hm rfl rfl rfl rfl ?_
 refine jy_ic c1 hm rfl (by decide) ?_
 refine jx_load c1 hm rfl rfl rfl rfl ?_
 refine jx_alen c1 hm (v := 36) rfl sh_18 rfl rfl ?_
 refine jx_load c1 hm rfl rfl rfl rfl ?_
 refine jx_alen c1 hm (v := 36) rfl sh_79 rfl rfl ?_
 refine jx_min c1 hm rfl rfl (fun z1 lz1 uz1 ez1 => ?_)
 obtain ⟨M2, e2, hH2, hF2, n2, _⟩ := mcp hH0 hF0 (c1 := 18) (c2 := 79) (n := z1) (fun _ _ => rfl) (fun j hj => jin_of 0 rfl ⟨by omega, by omega⟩)
 refine jm_acpi c1 hm rfl rfl sh_18 sh_79 ⟨by omega, by omega, by omega⟩ e2 ?_
 exact jx_retv c2 hm rfl rfl ⟨rfl, hH2, hF2⟩
def md_X11_copyRow_19_80 : List (Nat × (Nat × Nat)) := [(80, (0, 35))]
theorem ct_X11_copyRow_19_80 (X : Int) (hX : 0 ≤ X ∧ X ≤ 100000000) (M0 : JM) (hH0 : HI X M0)  : JOk shp PJ 1 29 [.inr (.inr (.inl 19)), .inr (.inr (.inl 80))] M0 (jRv (fun M' => HI X M' ∧ Fr md_X11_copyRow_19_80 M0 M' )) := by
 refine ⟨jr_X11_copyRow, pj_X11_copyRow, fun F c1 c2 c3 => ?_⟩
 have hm := pj_X11_copyRow
 change F 0 [some (.inr (.inr (.inl 19))), some (.inr (.inr (.inl 80)))] [] M0
 have hF0 : Fr md_X11_copyRow_19_80 M0 M0 := Fr.rf _ _
 refine jx_load c1 hm rfl rfl rfl rfl ?_
 refine jy_ic c1 hm rfl (by decide) ?_
 refine jx_load c1 hm rfl rfl rfl rfl ?_
 refine jy_ic c1 hm rfl (by decide) ?_
 refine jx_load c1 hm rfl rfl rfl rfl ?_
 refine jx_alen c1 hm (v := 36) rfl sh_19 rfl rfl ?_
 refine jx_load c1 hm rfl rfl rfl rfl ?_
 refine jx_alen c1 hm (v := 36) rfl sh_80 rfl rfl ?_
 refine jx_min c1 hm rfl rfl (fun z1 lz1 uz1 ez1 => ?_)
 obtain ⟨M2, e2, hH2, hF2, n2, _⟩ := mcp hH0 hF0 (c1 := 19) (c2 := 80) (n := z1) (fun _ _ => rfl) (fun j hj => jin_of 0 rfl ⟨by omega, by omega⟩)
 refine jm_acpi c1 hm rfl rfl sh_19 sh_80 ⟨by omega, by omega, by omega⟩ e2 ?_
 exact jx_retv c2 hm rfl rfl ⟨rfl, hH2, hF2⟩
def md_X8_takeAll_73_12 : List (Nat × (Nat × Nat)) := [(73, (7, 7)), (74, (0, 5)), (75, (0, 5)), (76, (0, 5)), (77, (0, 5)), (78, (0, 35)), (79, (0, 35)), (80, (0, 35))]
theorem ct_X8_takeAll_73_12 (X : Int) (hX : 0 ≤ X ∧ X ≤ 100000000) (M0 : JM) (hH0 : HI X M0)  : JOk shp PJ 2 264 [.inr (.inr (.inl 73)), .inr (.inr (.inl 12))] M0 (jRv (fun M' => HI X M' ∧ Fr md_X8_takeAll_73_12 M0 M' )) := by
 refine ⟨jr_X8_takeAll, pj_X8_takeAll, fun F c1 c2 c3 => ?_⟩
 have hm := pj_X8_takeAll
 change F 0 [some (.inr (.inr (.inl 73))), some (.inr (.inr (.inl 12)))] [] M0
 have hF0 : Fr md_X8_takeAll_73_12 M0 M0 := Fr.rf _ _
 refine jx_load c1 hm rfl rfl rfl rfl ?_
 refine jx_getr c1 hm rfl sh_12 rfl ?_
 refine jx_load c1 hm rfl rfl rfl rfl ?_
 refine jx_getr c1 hm rfl sh_73 rfl ?_
 refine jt_v c3 hm rfl rfl pj_X11_copyRow rfl rfl rfl ((ct_X11_copyRow_13_74 X (by omega) M0 hH0 ).le (by decide)) (fun M1 ⟨hH1, hR1⟩ => ?_)
 have hF1 := hF0.tr hR1 (by decide +kernel)
 refine jx_load c1 hm rfl rfl rfl rfl ?_
 refine jx_getr c1 hm rfl sh_12 rfl ?_
 refine jx_load c1 hm rfl rfl rfl rfl ?_
 refine jx_getr c1 hm rfl sh_73 rfl ?_
 refine jt_v c3 hm rfl rfl pj_X11_copyRow rfl rfl rfl ((ct_X11_copyRow_14_75 X (by omega) M1 hH1 ).le (by decide)) (fun M2 ⟨hH2, hR2⟩ => ?_)
 have hF2 := hF1.tr hR2 (by decide +kernel)
 refine jx_load c1 hm rfl rfl rfl rfl ?_
 refine jx_getr c1 hm rfl sh_12 rfl ?_
 refine jx_load c1 hm rfl rfl rfl rfl ?_
 refine jx_getr c1 hm rfl sh_73 rfl ?_
 refine jt_v c3 hm rfl rfl pj_X11_copyRow rfl rfl rfl ((ct_X11_copyRow_15_76 X (by omega) M2 hH2 ).le (by decide)) (fun M3 ⟨hH3, hR3⟩ => ?_)
 have hF3 := hF2.tr hR3 (by decide +kernel)
 refine jx_load c1 hm rfl rfl rfl rfl ?_
 refine jx_getr c1 hm rfl sh_12 rfl ?_
 refine jx_load c1 hm rfl rfl rfl rfl ?_
 refine jx_getr c1 hm rfl sh_73 rfl ?_
 refine jt_v c3 hm rfl rfl pj_X11_copyRow rfl rfl rfl ((ct_X11_copyRow_16_77 X (by omega) M3 hH3 ).le (by decide)) (fun M4 ⟨hH4, hR4⟩ => ?_)
 have hF4 := hF3.tr hR4 (by decide +kernel)
 refine jx_load c1 hm rfl rfl rfl rfl ?_
 refine jx_getr c1 hm rfl sh_12 rfl ?_
 refine jx_load c1 hm rfl rfl rfl rfl ?_
 refine jx_getr c1 hm rfl sh_73 rfl ?_
 refine jt_v c3 hm rfl rfl pj_X11_copyRow rfl rfl rfl ((ct_X11_copyRow_17_78 X (by omega) M4 hH4 ).le (by decide)) (fun M5 ⟨hH5, hR5⟩ => ?_)
 have hF5 := hF4.tr hR5 (by decide +kernel)
 refine jx_load c1 hm rfl rfl rfl rfl ?_
 refine jx_getr c1 hm rfl sh_12 rfl ?_
 refine jx_load c1 hm rfl rfl rfl rfl ?_
 refine jx_getr c1 hm rfl sh_73 rfl ?_
 refine jt_v c3 hm rfl rfl pj_X11_copyRow rfl rfl rfl ((ct_X11_copyRow_18_79 X (by omega) M5 hH5 ).le (by decide)) (fun M6 ⟨hH6, hR6⟩ => ?_)
 have hF6 := hF5.tr hR6 (by decide +kernel)
 refine jx_load c1 hm rfl rfl rfl rfl ?_
 refine jx_getr c1 hm rfl sh_12 rfl ?_
 refine jx_load c1 hm rfl rfl rfl rfl ?_
 refine jx_getr c1 hm rfl sh_73 rfl ?_
 refine jt_v c3 hm rfl rfl pj_X11_copyRow rfl rfl rfl ((ct_X11_copyRow_19_80 X (by omega) M6 hH6 ).le (by decide)) (fun M7 ⟨hH7, hR7⟩ => ?_)
 have hF7 := hF6.tr hR7 (by decide +kernel)
 refine jx_load c1 hm rfl rfl rfl rfl ?_
 refine jx_load c1 hm rfl rfl rfl rfl ?_
 obtain ⟨z8, k9, lz8, uz8⟩ := hH7.ld (c := 12) (i := 7) (A := (-2147483648)) (B := 2147483647) rfl
 refine jx_geti c1 hm rfl sh_12 rfl k9 ?_
 obtain ⟨M10, e10, hH10, hF10, k10, n10, _⟩ := mup hH7 hF7 (c := 73) (i := 7) (v := z8) (A := (-2147483648)) (B := 2147483647) rfl ⟨by omega, by omega⟩ (jin_of 0 rfl ⟨by omega, by omega⟩)
 refine jm_puti c1 hm rfl sh_73 rfl e10 ?_
 exact jx_retv c2 hm rfl rfl ⟨rfl, hH10, hF10⟩
def md_X11_copyRow_13_82 : List (Nat × (Nat × Nat)) := [(82, (0, 5))]
theorem ct_X11_copyRow_13_82 (X : Int) (hX : 0 ≤ X ∧ X ≤ 100000000) (M0 : JM) (hH0 : HI X M0)  : JOk shp PJ 1 29 [.inr (.inr (.inl 13)), .inr (.inr (.inl 82))] M0 (jRv (fun M' => HI X M' ∧ Fr md_X11_copyRow_13_82 M0 M' )) := by
 refine ⟨jr_X11_copyRow, pj_X11_copyRow, fun F c1 c2 c3 => ?_⟩
 have hm := pj_X11_copyRow
 change F 0 [some (.inr (.inr (.inl 13))), some (.inr (.inr (.inl 82)))] [] M0
 have hF0 : Fr md_X11_copyRow_13_82 M0 M0 := Fr.rf _ _
 refine jx_load c1 hm rfl rfl rfl rfl ?_
 refine jy_ic c1 hm rfl (by decide) ?_
 refine jx_load c1 hm rfl rfl rfl rfl ?_
 refine jy_ic c1 hm rfl (by decide) ?_
 refine jx_load c1 hm rfl rfl rfl rfl ?_
 refine jx_alen c1 hm (v := 6) rfl sh_13 rfl rfl ?_
 refine jx_load c1 hm rfl rfl rfl rfl ?_
 refine jx_alen c1 hm (v := 6) rfl sh_82 rfl rfl ?_
 refine jx_min c1 hm rfl rfl (fun z1 lz1 uz1 ez1 => ?_)
 obtain ⟨M2, e2, hH2, hF2, n2, _⟩ := mcp hH0 hF0 (c1 := 13) (c2 := 82) (n := z1) (fun _ _ => rfl) (fun j hj => jin_of 0 rfl ⟨by omega, by omega⟩)
 refine jm_acpi c1 hm rfl rfl sh_13 sh_82 ⟨by omega, by omega, by omega⟩ e2 ?_
 exact jx_retv c2 hm rfl rfl ⟨rfl, hH2, hF2⟩
def md_X11_copyRow_14_83 : List (Nat × (Nat × Nat)) := [(83, (0, 5))]
theorem ct_X11_copyRow_14_83 (X : Int) (hX : 0 ≤ X ∧ X ≤ 100000000) (M0 : JM) (hH0 : HI X M0)  : JOk shp PJ 1 29 [.inr (.inr (.inl 14)), .inr (.inr (.inl 83))] M0 (jRv (fun M' => HI X M' ∧ Fr md_X11_copyRow_14_83 M0 M' )) := by
 refine ⟨jr_X11_copyRow, pj_X11_copyRow, fun F c1 c2 c3 => ?_⟩
 have hm := pj_X11_copyRow
 change F 0 [some (.inr (.inr (.inl 14))), some (.inr (.inr (.inl 83)))] [] M0
 have hF0 : Fr md_X11_copyRow_14_83 M0 M0 := Fr.rf _ _
 refine jx_load c1 hm rfl rfl rfl rfl ?_
 refine jy_ic c1 hm rfl (by decide) ?_
 refine jx_load c1 hm rfl rfl rfl rfl ?_
 refine jy_ic c1 hm rfl (by decide) ?_
 refine jx_load c1 hm rfl rfl rfl rfl ?_
 refine jx_alen c1 hm (v := 6) rfl sh_14 rfl rfl ?_
 refine jx_load c1 hm rfl rfl rfl rfl ?_
 refine jx_alen c1 hm (v := 6) rfl sh_83 rfl rfl ?_
 refine jx_min c1 hm rfl rfl (fun z1 lz1 uz1 ez1 => ?_)
 obtain ⟨M2, e2, hH2, hF2, n2, _⟩ := mcp hH0 hF0 (c1 := 14) (c2 := 83) (n := z1) (fun _ _ => rfl) (fun j hj => jin_of 0 rfl ⟨by omega, by omega⟩)
 refine jm_acpi c1 hm rfl rfl sh_14 sh_83 ⟨by omega, by omega, by omega⟩ e2 ?_
 exact jx_retv c2 hm rfl rfl ⟨rfl, hH2, hF2⟩
def md_X11_copyRow_15_84 : List (Nat × (Nat × Nat)) := [(84, (0, 5))]
theorem ct_X11_copyRow_15_84 (X : Int) (hX : 0 ≤ X ∧ X ≤ 100000000) (M0 : JM) (hH0 : HI X M0)  : JOk shp PJ 1 29 [.inr (.inr (.inl 15)), .inr (.inr (.inl 84))] M0 (jRv (fun M' => HI X M' ∧ Fr md_X11_copyRow_15_84 M0 M' )) := by
 refine ⟨jr_X11_copyRow, pj_X11_copyRow, fun F c1 c2 c3 => ?_⟩
 have hm := pj_X11_copyRow
 change F 0 [some (.inr (.inr (.inl 15))), some (.inr (.inr (.inl 84)))] [] M0
 have hF0 : Fr md_X11_copyRow_15_84 M0 M0 := Fr.rf _ _
 refine jx_load c1 hm rfl rfl rfl rfl ?_
 refine jy_ic c1 hm rfl (by decide) ?_
 refine jx_load c1 hm rfl rfl rfl rfl ?_
 refine jy_ic c1 hm rfl (by decide) ?_
 refine jx_load c1 hm rfl rfl rfl rfl ?_
 refine jx_alen c1 hm (v := 6) rfl sh_15 rfl rfl ?_
 refine jx_load c1 hm rfl rfl rfl rfl ?_
 refine jx_alen c1 hm (v := 6) rfl sh_84 rfl rfl ?_
 refine jx_min c1 hm rfl rfl (fun z1 lz1 uz1 ez1 => ?_)
 obtain ⟨M2, e2, hH2, hF2, n2, _⟩ := mcp hH0 hF0 (c1 := 15) (c2 := 84) (n := z1) (fun _ _ => rfl) (fun j hj => jin_of 0 rfl ⟨by omega, by omega⟩)
 refine jm_acpi c1 hm rfl rfl sh_15 sh_84 ⟨by omega, by omega, by omega⟩ e2 ?_
 exact jx_retv c2 hm rfl rfl ⟨rfl, hH2, hF2⟩
def md_X11_copyRow_16_85 : List (Nat × (Nat × Nat)) := [(85, (0, 5))]
theorem ct_X11_copyRow_16_85 (X : Int) (hX : 0 ≤ X ∧ X ≤ 100000000) (M0 : JM) (hH0 : HI X M0)  : JOk shp PJ 1 29 [.inr (.inr (.inl 16)), .inr (.inr (.inl 85))] M0 (jRv (fun M' => HI X M' ∧ Fr md_X11_copyRow_16_85 M0 M' )) := by
 refine ⟨jr_X11_copyRow, pj_X11_copyRow, fun F c1 c2 c3 => ?_⟩
 have hm := pj_X11_copyRow
 change F 0 [some (.inr (.inr (.inl 16))), some (.inr (.inr (.inl 85)))] [] M0
 have hF0 : Fr md_X11_copyRow_16_85 M0 M0 := Fr.rf _ _
 refine jx_load c1 hm rfl rfl rfl rfl ?_
 refine jy_ic c1 hm rfl (by decide) ?_
 refine jx_load c1 hm rfl rfl rfl rfl ?_
 refine jy_ic c1 hm rfl (by decide) ?_
 refine jx_load c1 hm rfl rfl rfl rfl ?_
 refine jx_alen c1 hm (v := 6) rfl sh_16 rfl rfl ?_
 refine jx_load c1 hm rfl rfl rfl rfl ?_
 refine jx_alen c1 hm (v := 6) rfl sh_85 rfl rfl ?_
 refine jx_min c1 hm rfl rfl (fun z1 lz1 uz1 ez1 => ?_)
 obtain ⟨M2, e2, hH2, hF2, n2, _⟩ := mcp hH0 hF0 (c1 := 16) (c2 := 85) (n := z1) (fun _ _ => rfl) (fun j hj => jin_of 0 rfl ⟨by omega, by omega⟩)
 refine jm_acpi c1 hm rfl rfl sh_16 sh_85 ⟨by omega, by omega, by omega⟩ e2 ?_
 exact jx_retv c2 hm rfl rfl ⟨rfl, hH2, hF2⟩
def md_X11_copyRow_17_86 : List (Nat × (Nat × Nat)) := [(86, (0, 35))]
theorem ct_X11_copyRow_17_86 (X : Int) (hX : 0 ≤ X ∧ X ≤ 100000000) (M0 : JM) (hH0 : HI X M0)  : JOk shp PJ 1 29 [.inr (.inr (.inl 17)), .inr (.inr (.inl 86))] M0 (jRv (fun M' => HI X M' ∧ Fr md_X11_copyRow_17_86 M0 M' )) := by
 refine ⟨jr_X11_copyRow, pj_X11_copyRow, fun F c1 c2 c3 => ?_⟩
 have hm := pj_X11_copyRow
 change F 0 [some (.inr (.inr (.inl 17))), some (.inr (.inr (.inl 86)))] [] M0
 have hF0 : Fr md_X11_copyRow_17_86 M0 M0 := Fr.rf _ _
 refine jx_load c1 hm rfl rfl rfl rfl ?_
 refine jy_ic c1 hm rfl (by decide) ?_
 refine jx_load c1 hm rfl rfl rfl rfl ?_
 refine jy_ic c1 hm rfl (by decide) ?_
 refine jx_load c1 hm rfl rfl rfl rfl ?_
 refine jx_alen c1 hm (v := 36) rfl sh_17 rfl rfl ?_
 refine jx_load c1 hm rfl rfl rfl rfl ?_
 refine jx_alen c1 hm (v := 36) rfl sh_86 rfl rfl ?_
 refine jx_min c1 hm rfl rfl (fun z1 lz1 uz1 ez1 => ?_)
 obtain ⟨M2, e2, hH2, hF2, n2, _⟩ := mcp hH0 hF0 (c1 := 17) (c2 := 86) (n := z1) (fun _ _ => rfl) (fun j hj => jin_of 0 rfl ⟨by omega, by omega⟩)
 refine jm_acpi c1 hm rfl rfl sh_17 sh_86 ⟨by omega, by omega, by omega⟩ e2 ?_
 exact jx_retv c2 hm rfl rfl ⟨rfl, hH2, hF2⟩
def md_X11_copyRow_18_87 : List (Nat × (Nat × Nat)) := [(87, (0, 35))]
theorem ct_X11_copyRow_18_87 (X : Int) (hX : 0 ≤ X ∧ X ≤ 100000000) (M0 : JM) (hH0 : HI X M0)  : JOk shp PJ 1 29 [.inr (.inr (.inl 18)), .inr (.inr (.inl 87))] M0 (jRv (fun M' => HI X M' ∧ Fr md_X11_copyRow_18_87 M0 M' )) := by
 refine ⟨jr_X11_copyRow, pj_X11_copyRow, fun F c1 c2 c3 => ?_⟩
 have hm := pj_X11_copyRow
 change F 0 [some (.inr (.inr (.inl 18))), some (.inr (.inr (.inl 87)))] [] M0
 have hF0 : Fr md_X11_copyRow_18_87 M0 M0 := Fr.rf _ _
 refine jx_load c1 hm rfl rfl rfl rfl ?_
 refine jy_ic c1 hm rfl (by decide) ?_
 refine jx_load c1 hm rfl rfl rfl rfl ?_
 refine jy_ic c1 hm rfl (by decide) ?_
 refine jx_load c1 hm rfl rfl rfl rfl ?_
 refine jx_alen c1 hm (v := 36) rfl sh_18 rfl rfl ?_
 refine jx_load c1 hm rfl rfl rfl rfl ?_
 refine jx_alen c1 hm (v := 36) rfl sh_87 rfl rfl ?_
 refine jx_min c1 hm rfl rfl (fun z1 lz1 uz1 ez1 => ?_)
 obtain ⟨M2, e2, hH2, hF2, n2, _⟩ := mcp hH0 hF0 (c1 := 18) (c2 := 87) (n := z1) (fun _ _ => rfl) (fun j hj => jin_of 0 rfl ⟨by omega, by omega⟩)
 refine jm_acpi c1 hm rfl rfl sh_18 sh_87 ⟨by omega, by omega, by omega⟩ e2 ?_
 exact jx_retv c2 hm rfl rfl ⟨rfl, hH2, hF2⟩
def md_X11_copyRow_19_88 : List (Nat × (Nat × Nat)) := [(88, (0, 35))]
theorem ct_X11_copyRow_19_88 (X : Int) (hX : 0 ≤ X ∧ X ≤ 100000000) (M0 : JM) (hH0 : HI X M0)  : JOk shp PJ 1 29 [.inr (.inr (.inl 19)), .inr (.inr (.inl 88))] M0 (jRv (fun M' => HI X M' ∧ Fr md_X11_copyRow_19_88 M0 M' )) := by
 refine ⟨jr_X11_copyRow, pj_X11_copyRow, fun F c1 c2 c3 => ?_⟩
 have hm := pj_X11_copyRow
 change F 0 [some (.inr (.inr (.inl 19))), some (.inr (.inr (.inl 88)))] [] M0
 have hF0 : Fr md_X11_copyRow_19_88 M0 M0 := Fr.rf _ _
 refine jx_load c1 hm rfl rfl rfl rfl ?_
 refine jy_ic c1 hm rfl (by decide) ?_
 refine jx_load c1 hm rfl rfl rfl rfl ?_
 refine jy_ic c1 hm rfl (by decide) ?_
 refine jx_load c1 hm rfl rfl rfl rfl ?_
 refine jx_alen c1 hm (v := 36) rfl sh_19 rfl rfl ?_
 refine jx_load c1 hm rfl rfl rfl rfl ?_
 refine jx_alen c1 hm (v := 36) rfl sh_88 rfl rfl ?_
 refine jx_min c1 hm rfl rfl (fun z1 lz1 uz1 ez1 => ?_)
 obtain ⟨M2, e2, hH2, hF2, n2, _⟩ := mcp hH0 hF0 (c1 := 19) (c2 := 88) (n := z1) (fun _ _ => rfl) (fun j hj => jin_of 0 rfl ⟨by omega, by omega⟩)
 refine jm_acpi c1 hm rfl rfl sh_19 sh_88 ⟨by omega, by omega, by omega⟩ e2 ?_
 exact jx_retv c2 hm rfl rfl ⟨rfl, hH2, hF2⟩
def md_X8_takeAll_81_12 : List (Nat × (Nat × Nat)) := [(81, (7, 7)), (82, (0, 5)), (83, (0, 5)), (84, (0, 5)), (85, (0, 5)), (86, (0, 35)), (87, (0, 35)), (88, (0, 35))]
theorem ct_X8_takeAll_81_12 (X : Int) (hX : 0 ≤ X ∧ X ≤ 100000000) (M0 : JM) (hH0 : HI X M0)  : JOk shp PJ 2 264 [.inr (.inr (.inl 81)), .inr (.inr (.inl 12))] M0 (jRv (fun M' => HI X M' ∧ Fr md_X8_takeAll_81_12 M0 M' )) := by
 refine ⟨jr_X8_takeAll, pj_X8_takeAll, fun F c1 c2 c3 => ?_⟩
 have hm := pj_X8_takeAll
 change F 0 [some (.inr (.inr (.inl 81))), some (.inr (.inr (.inl 12)))] [] M0
 have hF0 : Fr md_X8_takeAll_81_12 M0 M0 := Fr.rf _ _
 refine jx_load c1 hm rfl rfl rfl rfl ?_
 refine jx_getr c1 hm rfl sh_12 rfl ?_
 refine jx_load c1 hm rfl rfl rfl rfl ?_
 refine jx_getr c1 hm rfl sh_81 rfl ?_
 refine jt_v c3 hm rfl rfl pj_X11_copyRow rfl rfl rfl ((ct_X11_copyRow_13_82 X (by omega) M0 hH0 ).le (by decide)) (fun M1 ⟨hH1, hR1⟩ => ?_)
 have hF1 := hF0.tr hR1 (by decide +kernel)
 refine jx_load c1 hm rfl rfl rfl rfl ?_
 refine jx_getr c1 hm rfl sh_12 rfl ?_
 refine jx_load c1 hm rfl rfl rfl rfl ?_
 refine jx_getr c1 hm rfl sh_81 rfl ?_
 refine jt_v c3 hm rfl rfl pj_X11_copyRow rfl rfl rfl ((ct_X11_copyRow_14_83 X (by omega) M1 hH1 ).le (by decide)) (fun M2 ⟨hH2, hR2⟩ => ?_)
 have hF2 := hF1.tr hR2 (by decide +kernel)
 refine jx_load c1 hm rfl rfl rfl rfl ?_
 refine jx_getr c1 hm rfl sh_12 rfl ?_
 refine jx_load c1 hm rfl rfl rfl rfl ?_
 refine jx_getr c1 hm rfl sh_81 rfl ?_
 refine jt_v c3 hm rfl rfl pj_X11_copyRow rfl rfl rfl ((ct_X11_copyRow_15_84 X (by omega) M2 hH2 ).le (by decide)) (fun M3 ⟨hH3, hR3⟩ => ?_)
 have hF3 := hF2.tr hR3 (by decide +kernel)
 refine jx_load c1 hm rfl rfl rfl rfl ?_
 refine jx_getr c1 hm rfl sh_12 rfl ?_
 refine jx_load c1 hm rfl rfl rfl rfl ?_
 refine jx_getr c1 hm rfl sh_81 rfl ?_
 refine jt_v c3 hm rfl rfl pj_X11_copyRow rfl rfl rfl ((ct_X11_copyRow_16_85 X (by omega) M3 hH3 ).le (by decide)) (fun M4 ⟨hH4, hR4⟩ => ?_)
 have hF4 := hF3.tr hR4 (by decide +kernel)
 refine jx_load c1 hm rfl rfl rfl rfl ?_
 refine jx_getr c1 hm rfl sh_12 rfl ?_
 refine jx_load c1 hm rfl rfl rfl rfl ?_
 refine jx_getr c1 hm rfl sh_81 rfl ?_
 refine jt_v c3 hm rfl rfl pj_X11_copyRow rfl rfl rfl ((ct_X11_copyRow_17_86 X (by omega) M4 hH4 ).le (by decide)) (fun M5 ⟨hH5, hR5⟩ => ?_)
 have hF5 := hF4.tr hR5 (by decide +kernel)
 refine jx_load c1 hm rfl rfl rfl rfl ?_
 refine jx_getr c1 hm rfl sh_12 rfl ?_
 refine jx_load c1 hm rfl rfl rfl rfl ?_
 refine jx_getr c1 hm rfl sh_81 rfl ?_
 refine jt_v c3 hm rfl rfl pj_X11_copyRow rfl rfl rfl ((ct_X11_copyRow_18_87 X (by omega) M5 hH5 ).le (by decide)) (fun M6 ⟨hH6, hR6⟩ => ?_)
 have hF6 := hF5.tr hR6 (by decide +kernel)
 refine jx_load c1 hm rfl rfl rfl rfl ?_
 refine jx_getr c1 hm rfl sh_12 rfl ?_
 refine jx_load c1 hm rfl rfl rfl rfl ?_
 refine jx_getr c1 hm rfl sh_81 rfl ?_
 refine jt_v c3 hm rfl rfl pj_X11_copyRow rfl rfl rfl ((ct_X11_copyRow_19_88 X (by omega) M6 hH6 ).le (by decide)) (fun M7 ⟨hH7, hR7⟩ => ?_)
 have hF7 := hF6.tr hR7 (by decide +kernel)
 refine jx_load c1 hm rfl rfl rfl rfl ?_
 refine jx_load c1 hm rfl rfl rfl rfl ?_
 obtain ⟨z8, k9, lz8, uz8⟩ := hH7.ld (c := 12) (i := 7) (A := (-2147483648)) (B := 2147483647) rfl
 refine jx_geti c1 hm rfl sh_12 rfl k9 ?_
 obtain ⟨M10, e10, hH10, hF10, k10, n10, _⟩ := mup hH7 hF7 (c := 81) (i := 7) (v := z8) (A := (-2147483648)) (B := 2147483647) rfl ⟨by omega, by omega⟩ (jin_of 0 rfl ⟨by omega, by omega⟩)
 refine jm_puti c1 hm rfl sh_81 rfl e10 ?_
 exact jx_retv c2 hm rfl rfl ⟨rfl, hH10, hF10⟩
def md_X11_copyRow_13_90 : List (Nat × (Nat × Nat)) := [(90, (0, 5))]
theorem ct_X11_copyRow_13_90 (X : Int) (hX : 0 ≤ X ∧ X ≤ 100000000) (M0 : JM) (hH0 : HI X M0)  : JOk shp PJ 1 29 [.inr (.inr (.inl 13)), .inr (.inr (.inl 90))] M0 (jRv (fun M' => HI X M' ∧ Fr md_X11_copyRow_13_90 M0 M' )) := by
 refine ⟨jr_X11_copyRow, pj_X11_copyRow, fun F c1 c2 c3 => ?_⟩
 have hm := pj_X11_copyRow
 change F 0 [some (.inr (.inr (.inl 13))), some (.inr (.inr (.inl 90)))] [] M0
 have hF0 : Fr md_X11_copyRow_13_90 M0 M0 := Fr.rf _ _
 refine jx_load c1 hm rfl rfl rfl rfl ?_
 refine jy_ic c1 hm rfl (by decide) ?_
 refine jx_load c1 hm rfl rfl rfl rfl ?_
 refine jy_ic c1 hm rfl (by decide) ?_
 refine jx_load c1 hm rfl rfl rfl rfl ?_
 refine jx_alen c1 hm (v := 6) rfl sh_13 rfl rfl ?_
 refine jx_load c1 hm rfl rfl rfl rfl ?_
 refine jx_alen c1 hm (v := 6) rfl sh_90 rfl rfl ?_
 refine jx_min c1 hm rfl rfl (fun z1 lz1 uz1 ez1 => ?_)
 obtain ⟨M2, e2, hH2, hF2, n2, _⟩ := mcp hH0 hF0 (c1 := 13) (c2 := 90) (n := z1) (fun _ _ => rfl) (fun j hj => jin_of 0 rfl ⟨by omega, by omega⟩)
 refine jm_acpi c1 hm rfl rfl sh_13 sh_90 ⟨by omega, by omega, by omega⟩ e2 ?_
 exact jx_retv c2 hm rfl rfl ⟨rfl, hH2, hF2⟩
def md_X11_copyRow_14_91 : List (Nat × (Nat × Nat)) := [(91, (0, 5))]
theorem ct_X11_copyRow_14_91 (X : Int) (hX : 0 ≤ X ∧ X ≤ 100000000) (M0 : JM) (hH0 : HI X M0)  : JOk shp PJ 1 29 [.inr (.inr (.inl 14)), .inr (.inr (.inl 91))] M0 (jRv (fun M' => HI X M' ∧ Fr md_X11_copyRow_14_91 M0 M' )) := by
 refine ⟨jr_X11_copyRow, pj_X11_copyRow, fun F c1 c2 c3 => ?_⟩
 have hm := pj_X11_copyRow
 change F 0 [some (.inr (.inr (.inl 14))), some (.inr (.inr (.inl 91)))] [] M0
 have hF0 : Fr md_X11_copyRow_14_91 M0 M0 := Fr.rf _ _
 refine jx_load c1 hm rfl rfl rfl rfl ?_
 refine jy_ic c1 hm rfl (by decide) ?_
 refine jx_load c1 hm rfl rfl rfl rfl ?_
 refine jy_ic c1 hm rfl (by decide) ?_
 refine jx_load c1 hm rfl rfl rfl rfl ?_
 refine jx_alen c1 hm (v := 6) rfl sh_14 rfl rfl ?_
 refine jx_load c1 hm rfl rfl rfl rfl ?_
 refine jx_alen c1 hm (v := 6) rfl sh_91 rfl rfl ?_
 refine jx_min c1 hm rfl rfl (fun z1 lz1 uz1 ez1 => ?_)
 obtain ⟨M2, e2, hH2, hF2, n2, _⟩ := mcp hH0 hF0 (c1 := 14) (c2 := 91) (n := z1) (fun _ _ => rfl) (fun j hj => jin_of 0 rfl ⟨by omega, by omega⟩)
 refine jm_acpi c1 hm rfl rfl sh_14 sh_91 ⟨by omega, by omega, by omega⟩ e2 ?_
 exact jx_retv c2 hm rfl rfl ⟨rfl, hH2, hF2⟩
def md_X11_copyRow_15_92 : List (Nat × (Nat × Nat)) := [(92, (0, 5))]
theorem ct_X11_copyRow_15_92 (X : Int) (hX : 0 ≤ X ∧ X ≤ 100000000) (M0 : JM) (hH0 : HI X M0)  : JOk shp PJ 1 29 [.inr (.inr (.inl 15)), .inr (.inr (.inl 92))] M0 (jRv (fun M' => HI X M' ∧ Fr md_X11_copyRow_15_92 M0 M' )) := by
 refine ⟨jr_X11_copyRow, pj_X11_copyRow, fun F c1 c2 c3 => ?_⟩
 have hm := pj_X11_copyRow
 change F 0 [some (.inr (.inr (.inl 15))), some (.inr (.inr (.inl 92)))] [] M0
 have hF0 : Fr md_X11_copyRow_15_92 M0 M0 := Fr.rf _ _
 refine jx_load c1 hm rfl rfl rfl rfl ?_
 refine jy_ic c1 hm rfl (by decide) ?_
 refine jx_load c1 hm rfl rfl rfl rfl ?_
 refine jy_ic c1 hm rfl (by decide) ?_
 refine jx_load c1 hm rfl rfl rfl rfl ?_
 refine jx_alen c1 hm (v := 6) rfl sh_15 rfl rfl ?_
 refine jx_load c1 hm rfl rfl rfl rfl ?_
 refine jx_alen c1 hm (v := 6) rfl sh_92 rfl rfl ?_
 refine jx_min c1 hm rfl rfl (fun z1 lz1 uz1 ez1 => ?_)
 obtain ⟨M2, e2, hH2, hF2, n2, _⟩ := mcp hH0 hF0 (c1 := 15) (c2 := 92) (n := z1) (fun _ _ => rfl) (fun j hj => jin_of 0 rfl ⟨by omega, by omega⟩)
 refine jm_acpi c1 hm rfl rfl sh_15 sh_92 ⟨by omega, by omega, by omega⟩ e2 ?_
 exact jx_retv c2 hm rfl rfl ⟨rfl, hH2, hF2⟩
def md_X11_copyRow_16_93 : List (Nat × (Nat × Nat)) := [(93, (0, 5))]
theorem ct_X11_copyRow_16_93 (X : Int) (hX : 0 ≤ X ∧ X ≤ 100000000) (M0 : JM) (hH0 : HI X M0)  : JOk shp PJ 1 29 [.inr (.inr (.inl 16)), .inr (.inr (.inl 93))] M0 (jRv (fun M' => HI X M' ∧ Fr md_X11_copyRow_16_93 M0 M' )) := by
 refine ⟨jr_X11_copyRow, pj_X11_copyRow, fun F c1 c2 c3 => ?_⟩
 have hm := pj_X11_copyRow
 change F 0 [some (.inr (.inr (.inl 16))), some (.inr (.inr (.inl 93)))] [] M0
 have hF0 : Fr md_X11_copyRow_16_93 M0 M0 := Fr.rf _ _
 refine jx_load c1 hm rfl rfl rfl rfl ?_
 refine jy_ic c1 hm rfl (by decide) ?_
 refine jx_load c1 hm rfl rfl rfl rfl ?_
 refine jy_ic c1 hm rfl (by decide) ?_
 refine jx_load c1 hm rfl rfl rfl rfl ?_
 refine jx_alen c1 hm (v := 6) rfl sh_16 rfl rfl ?_
 refine jx_load c1 hm rfl rfl rfl rfl ?_
 refine jx_alen c1 hm (v := 6) rfl sh_93 rfl rfl ?_
 refine jx_min c1 hm rfl rfl (fun z1 lz1 uz1 ez1 => ?_)
 obtain ⟨M2, e2, hH2, hF2, n2, _⟩ := mcp hH0 hF0 (c1 := 16) (c2 := 93) (n := z1) (fun _ _ => rfl) (fun j hj => jin_of 0 rfl ⟨by omega, by omega⟩)
 refine jm_acpi c1 hm rfl rfl sh_16 sh_93 ⟨by omega, by omega, by omega⟩ e2 ?_
 exact jx_retv c2 hm rfl rfl ⟨rfl, hH2, hF2⟩
def md_X11_copyRow_17_94 : List (Nat × (Nat × Nat)) := [(94, (0, 35))]
theorem ct_X11_copyRow_17_94 (X : Int) (hX : 0 ≤ X ∧ X ≤ 100000000) (M0 : JM) (hH0 : HI X M0)  : JOk shp PJ 1 29 [.inr (.inr (.inl 17)), .inr (.inr (.inl 94))] M0 (jRv (fun M' => HI X M' ∧ Fr md_X11_copyRow_17_94 M0 M' )) := by
 refine ⟨jr_X11_copyRow, pj_X11_copyRow, fun F c1 c2 c3 => ?_⟩
 have hm := pj_X11_copyRow
 change F 0 [some (.inr (.inr (.inl 17))), some (.inr (.inr (.inl 94)))] [] M0
 have hF0 : Fr md_X11_copyRow_17_94 M0 M0 := Fr.rf _ _
 refine jx_load c1 hm rfl rfl rfl rfl ?_
 refine jy_ic c1 hm rfl (by decide) ?_
 refine jx_load c1 hm rfl rfl rfl rfl ?_
 refine jy_ic c1 hm rfl (by decide) ?_
 refine jx_load c1 hm rfl rfl rfl rfl ?_
 refine jx_alen c1 hm (v := 36) rfl sh_17 rfl rfl ?_
 refine jx_load c1 hm rfl rfl rfl rfl ?_
 refine jx_alen c1 hm (v := 36) rfl sh_94 rfl rfl ?_
 refine jx_min c1 hm rfl rfl (fun z1 lz1 uz1 ez1 => ?_)
 obtain ⟨M2, e2, hH2, hF2, n2, _⟩ := mcp hH0 hF0 (c1 := 17) (c2 := 94) (n := z1) (fun _ _ => rfl) (fun j hj => jin_of 0 rfl ⟨by omega, by omega⟩)
 refine jm_acpi c1 hm rfl rfl sh_17 sh_94 ⟨by omega, by omega, by omega⟩ e2 ?_
 exact jx_retv c2 hm rfl rfl ⟨rfl, hH2, hF2⟩
def md_X11_copyRow_18_95 : List (Nat × (Nat × Nat)) := [(95, (0, 35))]
theorem ct_X11_copyRow_18_95 (X : Int) (hX : 0 ≤ X ∧ X ≤ 100000000) (M0 : JM) (hH0 : HI X M0)  : JOk shp PJ 1 29 [.inr (.inr (.inl 18)), .inr (.inr (.inl 95))] M0 (jRv (fun M' => HI X M' ∧ Fr md_X11_copyRow_18_95 M0 M' )) := by
 refine ⟨jr_X11_copyRow, pj_X11_copyRow, fun F c1 c2 c3 => ?_⟩
 have hm := pj_X11_copyRow
 change F 0 [some (.inr (.inr (.inl 18))), some (.inr (.inr (.inl 95)))] [] M0
 have hF0 : Fr md_X11_copyRow_18_95 M0 M0 := Fr.rf _ _
 refine jx_load c1 hm rfl rfl rfl rfl ?_
 refine jy_ic c1 hm rfl (by decide) ?_
 refine jx_load c1 hm rfl rfl rfl rfl ?_
 refine jy_ic c1 hm rfl (by decide) ?_
 refine jx_load c1 hm rfl rfl rfl rfl ?_
 refine jx_alen c1 hm (v := 36) rfl sh_18 rfl rfl ?_
 refine jx_load c1 hm rfl rfl rfl rfl ?_
 refine jx_alen c1 hm (v := 36) rfl sh_95 rfl rfl ?_
 refine jx_min c1 hm rfl rfl (fun z1 lz1 uz1 ez1 => ?_)
 obtain ⟨M2, e2, hH2, hF2, n2, _⟩ := mcp hH0 hF0 (c1 := 18) (c2 := 95) (n := z1) (fun _ _ => rfl) (fun j hj => jin_of 0 rfl ⟨by omega, by omega⟩)
 refine jm_acpi c1 hm rfl rfl sh_18 sh_95 ⟨by omega, by omega, by omega⟩ e2 ?_
 exact jx_retv c2 hm rfl rfl ⟨rfl, hH2, hF2⟩
def md_X11_copyRow_19_96 : List (Nat × (Nat × Nat)) := [(96, (0, 35))]
theorem ct_X11_copyRow_19_96 (X : Int) (hX : 0 ≤ X ∧ X ≤ 100000000) (M0 : JM) (hH0 : HI X M0)  : JOk shp PJ 1 29 [.inr (.inr (.inl 19)), .inr (.inr (.inl 96))] M0 (jRv (fun M' => HI X M' ∧ Fr md_X11_copyRow_19_96 M0 M' )) := by
 refine ⟨jr_X11_copyRow, pj_X11_copyRow, fun F c1 c2 c3 => ?_⟩
 have hm := pj_X11_copyRow
 change F 0 [some (.inr (.inr (.inl 19))), some (.inr (.inr (.inl 96)))] [] M0
 have hF0 : Fr md_X11_copyRow_19_96 M0 M0 := Fr.rf _ _
 refine jx_load c1 hm rfl rfl rfl rfl ?_
 refine jy_ic c1 hm rfl (by decide) ?_
 refine jx_load c1 hm rfl rfl rfl rfl ?_
 refine jy_ic c1 hm rfl (by decide) ?_
 refine jx_load c1 hm rfl rfl rfl rfl ?_
 refine jx_alen c1 hm (v := 36) rfl sh_19 rfl rfl ?_
 refine jx_load c1 hm rfl rfl rfl rfl ?_
 refine jx_alen c1 hm (v := 36) rfl sh_96 rfl rfl ?_
 refine jx_min c1 hm rfl rfl (fun z1 lz1 uz1 ez1 => ?_)
 obtain ⟨M2, e2, hH2, hF2, n2, _⟩ := mcp hH0 hF0 (c1 := 19) (c2 := 96) (n := z1) (fun _ _ => rfl) (fun j hj => jin_of 0 rfl ⟨by omega, by omega⟩)
 refine jm_acpi c1 hm rfl rfl sh_19 sh_96 ⟨by omega, by omega, by omega⟩ e2 ?_
 exact jx_retv c2 hm rfl rfl ⟨rfl, hH2, hF2⟩
def md_X8_takeAll_89_12 : List (Nat × (Nat × Nat)) := [(89, (7, 7)), (90, (0, 5)), (91, (0, 5)), (92, (0, 5)), (93, (0, 5)), (94, (0, 35)), (95, (0, 35)), (96, (0, 35))]
theorem ct_X8_takeAll_89_12 (X : Int) (hX : 0 ≤ X ∧ X ≤ 100000000) (M0 : JM) (hH0 : HI X M0)  : JOk shp PJ 2 264 [.inr (.inr (.inl 89)), .inr (.inr (.inl 12))] M0 (jRv (fun M' => HI X M' ∧ Fr md_X8_takeAll_89_12 M0 M' )) := by
 refine ⟨jr_X8_takeAll, pj_X8_takeAll, fun F c1 c2 c3 => ?_⟩
 have hm := pj_X8_takeAll
 change F 0 [some (.inr (.inr (.inl 89))), some (.inr (.inr (.inl 12)))] [] M0
 have hF0 : Fr md_X8_takeAll_89_12 M0 M0 := Fr.rf _ _
 refine jx_load c1 hm rfl rfl rfl rfl ?_
 refine jx_getr c1 hm rfl sh_12 rfl ?_
 refine jx_load c1 hm rfl rfl rfl rfl ?_
 refine jx_getr c1 hm rfl sh_89 rfl ?_
 refine jt_v c3 hm rfl rfl pj_X11_copyRow rfl rfl rfl ((ct_X11_copyRow_13_90 X (by omega) M0 hH0 ).le (by decide)) (fun M1 ⟨hH1, hR1⟩ => ?_)
 have hF1 := hF0.tr hR1 (by decide +kernel)
 refine jx_load c1 hm rfl rfl rfl rfl ?_
 refine jx_getr c1 hm rfl sh_12 rfl ?_
 refine jx_load c1 hm rfl rfl rfl rfl ?_
 refine jx_getr c1 hm rfl sh_89 rfl ?_
 refine jt_v c3 hm rfl rfl pj_X11_copyRow rfl rfl rfl ((ct_X11_copyRow_14_91 X (by omega) M1 hH1 ).le (by decide)) (fun M2 ⟨hH2, hR2⟩ => ?_)
 have hF2 := hF1.tr hR2 (by decide +kernel)
 refine jx_load c1 hm rfl rfl rfl rfl ?_
 refine jx_getr c1 hm rfl sh_12 rfl ?_
 refine jx_load c1 hm rfl rfl rfl rfl ?_
 refine jx_getr c1 hm rfl sh_89 rfl ?_
 refine jt_v c3 hm rfl rfl pj_X11_copyRow rfl rfl rfl ((ct_X11_copyRow_15_92 X (by omega) M2 hH2 ).le (by decide)) (fun M3 ⟨hH3, hR3⟩ => ?_)
 have hF3 := hF2.tr hR3 (by decide +kernel)
 refine jx_load c1 hm rfl rfl rfl rfl ?_
 refine jx_getr c1 hm rfl sh_12 rfl ?_
 refine jx_load c1 hm rfl rfl rfl rfl ?_
 refine jx_getr c1 hm rfl sh_89 rfl ?_
 refine jt_v c3 hm rfl rfl pj_X11_copyRow rfl rfl rfl ((ct_X11_copyRow_16_93 X (by omega) M3 hH3 ).le (by decide)) (fun M4 ⟨hH4, hR4⟩ => ?_)
 have hF4 := hF3.tr hR4 (by decide +kernel)
 refine jx_load c1 hm rfl rfl rfl rfl ?_
 refine jx_getr c1 hm rfl sh_12 rfl ?_
 refine jx_load c1 hm rfl rfl rfl rfl ?_
 refine jx_getr c1 hm rfl sh_89 rfl ?_
 refine jt_v c3 hm rfl rfl pj_X11_copyRow rfl rfl rfl ((ct_X11_copyRow_17_94 X (by omega) M4 hH4 ).le (by decide)) (fun M5 ⟨hH5, hR5⟩ => ?_)
 have hF5 := hF4.tr hR5 (by decide +kernel)
 refine jx_load c1 hm rfl rfl rfl rfl ?_
 refine jx_getr c1 hm rfl sh_12 rfl ?_
 refine jx_load c1 hm rfl rfl rfl rfl ?_
 refine jx_getr c1 hm rfl sh_89 rfl ?_
 refine jt_v c3 hm rfl rfl pj_X11_copyRow rfl rfl rfl ((ct_X11_copyRow_18_95 X (by omega) M5 hH5 ).le (by decide)) (fun M6 ⟨hH6, hR6⟩ => ?_)
 have hF6 := hF5.tr hR6 (by decide +kernel)
 refine jx_load c1 hm rfl rfl rfl rfl ?_
 refine jx_getr c1 hm rfl sh_12 rfl ?_
 refine jx_load c1 hm rfl rfl rfl rfl ?_
 refine jx_getr c1 hm rfl sh_89 rfl ?_
 refine jt_v c3 hm rfl rfl pj_X11_copyRow rfl rfl rfl ((ct_X11_copyRow_19_96 X (by omega) M6 hH6 ).le (by decide)) (fun M7 ⟨hH7, hR7⟩ => ?_)
 have hF7 := hF6.tr hR7 (by decide +kernel)
 refine jx_load c1 hm rfl rfl rfl rfl ?_
 refine jx_load c1 hm rfl rfl rfl rfl ?_
 obtain ⟨z8, k9, lz8, uz8⟩ := hH7.ld (c := 12) (i := 7) (A := (-2147483648)) (B := 2147483647) rfl
 refine jx_geti c1 hm rfl sh_12 rfl k9 ?_
 obtain ⟨M10, e10, hH10, hF10, k10, n10, _⟩ := mup hH7 hF7 (c := 89) (i := 7) (v := z8) (A := (-2147483648)) (B := 2147483647) rfl ⟨by omega, by omega⟩ (jin_of 0 rfl ⟨by omega, by omega⟩)
 refine jm_puti c1 hm rfl sh_89 rfl e10 ?_
 exact jx_retv c2 hm rfl rfl ⟨rfl, hH10, hF10⟩
def md_X11_copyRow_13_98 : List (Nat × (Nat × Nat)) := [(98, (0, 5))]
theorem ct_X11_copyRow_13_98 (X : Int) (hX : 0 ≤ X ∧ X ≤ 100000000) (M0 : JM) (hH0 : HI X M0)  : JOk shp PJ 1 29 [.inr (.inr (.inl 13)), .inr (.inr (.inl 98))] M0 (jRv (fun M' => HI X M' ∧ Fr md_X11_copyRow_13_98 M0 M' )) := by
 refine ⟨jr_X11_copyRow, pj_X11_copyRow, fun F c1 c2 c3 => ?_⟩
 have hm := pj_X11_copyRow
 change F 0 [some (.inr (.inr (.inl 13))), some (.inr (.inr (.inl 98)))] [] M0
 have hF0 : Fr md_X11_copyRow_13_98 M0 M0 := Fr.rf _ _
 refine jx_load c1 hm rfl rfl rfl rfl ?_
 refine jy_ic c1 hm rfl (by decide) ?_
 refine jx_load c1 hm rfl rfl rfl rfl ?_
 refine jy_ic c1 hm rfl (by decide) ?_
 refine jx_load c1 hm rfl rfl rfl rfl ?_
 refine jx_alen c1 hm (v := 6) rfl sh_13 rfl rfl ?_
 refine jx_load c1 hm rfl rfl rfl rfl ?_
 refine jx_alen c1 hm (v := 6) rfl sh_98 rfl rfl ?_
 refine jx_min c1 hm rfl rfl (fun z1 lz1 uz1 ez1 => ?_)
 obtain ⟨M2, e2, hH2, hF2, n2, _⟩ := mcp hH0 hF0 (c1 := 13) (c2 := 98) (n := z1) (fun _ _ => rfl) (fun j hj => jin_of 0 rfl ⟨by omega, by omega⟩)
 refine jm_acpi c1 hm rfl rfl sh_13 sh_98 ⟨by omega, by omega, by omega⟩ e2 ?_
 exact jx_retv c2 hm rfl rfl ⟨rfl, hH2, hF2⟩
def md_X11_copyRow_14_99 : List (Nat × (Nat × Nat)) := [(99, (0, 5))]
theorem ct_X11_copyRow_14_99 (X : Int) (hX : 0 ≤ X ∧ X ≤ 100000000) (M0 : JM) (hH0 : HI X M0)  : JOk shp PJ 1 29 [.inr (.inr (.inl 14)), .inr (.inr (.inl 99))] M0 (jRv (fun M' => HI X M' ∧ Fr md_X11_copyRow_14_99 M0 M' )) := by
 refine ⟨jr_X11_copyRow, pj_X11_copyRow, fun F c1 c2 c3 => ?_⟩
 have hm := pj_X11_copyRow
 change F 0 [some (.inr (.inr (.inl 14))), some (.inr (.inr (.inl 99)))] [] M0
 have hF0 : Fr md_X11_copyRow_14_99 M0 M0 := Fr.rf _ _
 refine jx_load c1 hm rfl rfl rfl rfl ?_
 refine jy_ic c1 hm rfl (by decide) ?_
 refine jx_load c1 hm rfl rfl rfl rfl ?_
 refine jy_ic c1 hm rfl (by decide) ?_
 refine jx_load c1 hm rfl rfl rfl rfl ?_
 refine jx_alen c1 hm (v := 6) rfl sh_14 rfl rfl ?_
 refine jx_load c1 hm rfl rfl rfl rfl ?_
 refine jx_alen c1 hm (v := 6) rfl sh_99 rfl rfl ?_
 refine jx_min c1 hm rfl rfl (fun z1 lz1 uz1 ez1 => ?_)
 obtain ⟨M2, e2, hH2, hF2, n2, _⟩ := mcp hH0 hF0 (c1 := 14) (c2 := 99) (n := z1) (fun _ _ => rfl) (fun j hj => jin_of 0 rfl ⟨by omega, by omega⟩)
 refine jm_acpi c1 hm rfl rfl sh_14 sh_99 ⟨by omega, by omega, by omega⟩ e2 ?_
 exact jx_retv c2 hm rfl rfl ⟨rfl, hH2, hF2⟩
def md_X11_copyRow_15_100 : List (Nat × (Nat × Nat)) := [(100, (0, 5))]
theorem ct_X11_copyRow_15_100 (X : Int) (hX : 0 ≤ X ∧ X ≤ 100000000) (M0 : JM) (hH0 : HI X M0)  : JOk shp PJ 1 29 [.inr (.inr (.inl 15)), .inr (.inr (.inl 100))] M0 (jRv (fun M' => HI X M' ∧ Fr md_X11_copyRow_15_100 M0 M' )) := by
 refine ⟨jr_X11_copyRow, pj_X11_copyRow, fun F c1 c2 c3 => ?_⟩
 have hm := pj_X11_copyRow
 change F 0 [some (.inr (.inr (.inl 15))), some (.inr (.inr (.inl 100)))] [] M0
 have hF0 : Fr md_X11_copyRow_15_100 M0 M0 := Fr.rf _ _
 refine jx_load c1 hm rfl rfl rfl rfl ?_
 refine jy_ic c1 hm rfl (by decide) ?_
 refine jx_load c1 hm rfl rfl rfl rfl ?_
 refine jy_ic c1 hm rfl (by decide) ?_
 refine jx_load c1 hm rfl rfl rfl rfl ?_
 refine jx_alen c1 hm (v := 6) rfl sh_15 rfl rfl ?_
 refine jx_load c1 hm rfl rfl rfl rfl ?_
 refine jx_alen c1 hm (v := 6) rfl sh_100 rfl rfl ?_
 refine jx_min c1 hm rfl rfl (fun z1 lz1 uz1 ez1 => ?_)
 obtain ⟨M2, e2, hH2, hF2, n2, _⟩ := mcp hH0 hF0 (c1 := 15) (c2 := 100) (n := z1) (fun _ _ => rfl) (fun j hj => jin_of 0 rfl ⟨by omega, by omega⟩)
 refine jm_acpi c1 hm rfl rfl sh_15 sh_100 ⟨by omega, by omega, by omega⟩ e2 ?_
 exact jx_retv c2 hm rfl rfl ⟨rfl, hH2, hF2⟩
def md_X11_copyRow_16_101 : List (Nat × (Nat × Nat)) := [(101, (0, 5))]
theorem ct_X11_copyRow_16_101 (X : Int) (hX : 0 ≤ X ∧ X ≤ 100000000) (M0 : JM) (hH0 : HI X M0)  : JOk shp PJ 1 29 [.inr (.inr (.inl 16)), .inr (.inr (.inl 101))] M0 (jRv (fun M' => HI X M' ∧ Fr md_X11_copyRow_16_101 M0 M' )) := by
 refine ⟨jr_X11_copyRow, pj_X11_copyRow, fun F c1 c2 c3 => ?_⟩
 have hm := pj_X11_copyRow
 change F 0 [some (.inr (.inr (.inl 16))), some (.inr (.inr (.inl 101)))] [] M0
 have hF0 : Fr md_X11_copyRow_16_101 M0 M0 := Fr.rf _ _
 refine jx_load c1 hm rfl rfl rfl rfl ?_
 refine jy_ic c1 hm rfl (by decide) ?_
 refine jx_load c1 hm rfl rfl rfl rfl ?_
 refine jy_ic c1 hm rfl (by decide) ?_
 refine jx_load c1 hm rfl rfl rfl rfl ?_
 refine jx_alen c1 hm (v := 6) rfl sh_16 rfl rfl ?_
 refine jx_load c1 hm rfl rfl rfl rfl ?_
 refine jx_alen c1 hm (v := 6) rfl sh_101 rfl rfl ?_
 refine jx_min c1 hm rfl rfl (fun z1 lz1 uz1 ez1 => ?_)
 obtain ⟨M2, e2, hH2, hF2, n2, _⟩ := mcp hH0 hF0 (c1 := 16) (c2 := 101) (n := z1) (fun _ _ => rfl) (fun j hj => jin_of 0 rfl ⟨by omega, by omega⟩)
 refine jm_acpi c1 hm rfl rfl sh_16 sh_101 ⟨by omega, by omega, by omega⟩ e2 ?_
 exact jx_retv c2 hm rfl rfl ⟨rfl, hH2, hF2⟩
def md_X11_copyRow_17_102 : List (Nat × (Nat × Nat)) := [(102, (0, 35))]
theorem ct_X11_copyRow_17_102 (X : Int) (hX : 0 ≤ X ∧ X ≤ 100000000) (M0 : JM) (hH0 : HI X M0)  : JOk shp PJ 1 29 [.inr (.inr (.inl 17)), .inr (.inr (.inl 102))] M0 (jRv (fun M' => HI X M' ∧ Fr md_X11_copyRow_17_102 M0 M' )) := by
 refine ⟨jr_X11_copyRow, pj_X11_copyRow, fun F c1 c2 c3 => ?_⟩
 have hm := pj_X11_copyRow
 change F 0 [some (.inr (.inr (.inl 17))), some (.inr (.inr (.inl 102)))] [] M0
 have hF0 : Fr md_X11_copyRow_17_102 M0 M0 := Fr.rf _ _
 refine jx_load c1 hm rfl rfl rfl rfl ?_
 refine jy_ic c1 hm rfl (by decide) ?_
 refine jx_load c1 hm rfl rfl rfl rfl ?_
 refine jy_ic c1 hm rfl (by decide) ?_
 refine jx_load c1 hm rfl rfl rfl rfl ?_
 refine jx_alen c1 hm (v := 36) rfl sh_17 rfl rfl ?_
 refine jx_load c1 hm rfl rfl rfl rfl ?_
 refine jx_alen c1 hm (v := 36) rfl sh_102 rfl rfl ?_
 refine jx_min c1 hm rfl rfl (fun z1 lz1 uz1 ez1 => ?_)
 obtain ⟨M2, e2, hH2, hF2, n2, _⟩ := mcp hH0 hF0 (c1 := 17) (c2 := 102) (n := z1) (fun _ _ => rfl) (fun j hj => jin_of 0 rfl ⟨by omega, by omega⟩)
 refine jm_acpi c1 hm rfl rfl sh_17 sh_102 ⟨by omega, by omega, by omega⟩ e2 ?_
 exact jx_retv c2 hm rfl rfl ⟨rfl, hH2, hF2⟩
def md_X11_copyRow_18_103 : List (Nat × (Nat × Nat)) := [(103, (0, 35))]
theorem ct_X11_copyRow_18_103 (X : Int) (hX : 0 ≤ X ∧ X ≤ 100000000) (M0 : JM) (hH0 : HI X M0)  : JOk shp PJ 1 29 [.inr (.inr (.inl 18)), .inr (.inr (.inl 103))] M0 (jRv (fun M' => HI X M' ∧ Fr md_X11_copyRow_18_103 M0 M' )) := by
 refine ⟨jr_X11_copyRow, pj_X11_copyRow, fun F c1 c2 c3 => ?_⟩
 have hm := pj_X11_copyRow
 change F 0 [some (.inr (.inr (.inl 18))), some (.inr (.inr (.inl 103)))] [] M0
 have hF0 : Fr md_X11_copyRow_18_103 M0 M0 := Fr.rf _ _
 refine jx_load c1 hm rfl rfl rfl rfl ?_
 refine jy_ic c1 hm rfl (by decide) ?_
 refine jx_load c1 hm rfl rfl rfl rfl ?_
 refine jy_ic c1 hm rfl (by decide) ?_
 refine jx_load c1 hm rfl rfl rfl rfl ?_
 refine jx_alen c1 hm (v := 36) rfl sh_18 rfl rfl ?_
 refine jx_load c1 hm rfl rfl rfl rfl ?_
 refine jx_alen c1 hm (v := 36) rfl sh_103 rfl rfl ?_
 refine jx_min c1 hm rfl rfl (fun z1 lz1 uz1 ez1 => ?_)
 obtain ⟨M2, e2, hH2, hF2, n2, _⟩ := mcp hH0 hF0 (c1 := 18) (c2 := 103) (n := z1) (fun _ _ => rfl) (fun j hj => jin_of 0 rfl ⟨by omega, by omega⟩)
 refine jm_acpi c1 hm rfl rfl sh_18 sh_103 ⟨by omega, by omega, by omega⟩ e2 ?_
 exact jx_retv c2 hm rfl rfl ⟨rfl, hH2, hF2⟩
def md_X11_copyRow_19_104 : List (Nat × (Nat × Nat)) := [(104, (0, 35))]
theorem ct_X11_copyRow_19_104 (X : Int) (hX : 0 ≤ X ∧ X ≤ 100000000) (M0 : JM) (hH0 : HI X M0)  : JOk shp PJ 1 29 [.inr (.inr (.inl 19)), .inr (.inr (.inl 104))] M0 (jRv (fun M' => HI X M' ∧ Fr md_X11_copyRow_19_104 M0 M' )) := by
 refine ⟨jr_X11_copyRow, pj_X11_copyRow, fun F c1 c2 c3 => ?_⟩
 have hm := pj_X11_copyRow
 change F 0 [some (.inr (.inr (.inl 19))), some (.inr (.inr (.inl 104)))] [] M0
 have hF0 : Fr md_X11_copyRow_19_104 M0 M0 := Fr.rf _ _
 refine jx_load c1 hm rfl rfl rfl rfl ?_
 refine jy_ic c1 hm rfl (by decide) ?_
 refine jx_load c1 hm rfl rfl rfl rfl ?_
 refine jy_ic c1 hm rfl (by decide) ?_
 refine jx_load c1 hm rfl rfl rfl rfl ?_
 refine jx_alen c1 hm (v := 36) rfl sh_19 rfl rfl ?_
 refine jx_load c1 hm rfl rfl rfl rfl ?_
 refine jx_alen c1 hm (v := 36) rfl sh_104 rfl rfl ?_
 refine jx_min c1 hm rfl rfl (fun z1 lz1 uz1 ez1 => ?_)
 obtain ⟨M2, e2, hH2, hF2, n2, _⟩ := mcp hH0 hF0 (c1 := 19) (c2 := 104) (n := z1) (fun _ _ => rfl) (fun j hj => jin_of 0 rfl ⟨by omega, by omega⟩)
 refine jm_acpi c1 hm rfl rfl sh_19 sh_104 ⟨by omega, by omega, by omega⟩ e2 ?_
 exact jx_retv c2 hm rfl rfl ⟨rfl, hH2, hF2⟩
def md_X8_takeAll_97_12 : List (Nat × (Nat × Nat)) := [(97, (7, 7)), (98, (0, 5)), (99, (0, 5)), (100, (0, 5)), (101, (0, 5)), (102, (0, 35)), (103, (0, 35)), (104, (0, 35))]
theorem ct_X8_takeAll_97_12 (X : Int) (hX : 0 ≤ X ∧ X ≤ 100000000) (M0 : JM) (hH0 : HI X M0)  : JOk shp PJ 2 264 [.inr (.inr (.inl 97)), .inr (.inr (.inl 12))] M0 (jRv (fun M' => HI X M' ∧ Fr md_X8_takeAll_97_12 M0 M' )) := by
 refine ⟨jr_X8_takeAll, pj_X8_takeAll, fun F c1 c2 c3 => ?_⟩
 have hm := pj_X8_takeAll
 change F 0 [some (.inr (.inr (.inl 97))), some (.inr (.inr (.inl 12)))] [] M0
 have hF0 : Fr md_X8_takeAll_97_12 M0 M0 := Fr.rf _ _
 refine jx_load c1 hm rfl rfl rfl rfl ?_
 refine jx_getr c1 hm rfl sh_12 rfl ?_
 refine jx_load c1 hm rfl rfl rfl rfl ?_
 refine jx_getr c1 hm rfl sh_97 rfl ?_
 refine jt_v c3 hm rfl rfl pj_X11_copyRow rfl rfl rfl ((ct_X11_copyRow_13_98 X (by omega) M0 hH0 ).le (by decide)) (fun M1 ⟨hH1, hR1⟩ => ?_)
 have hF1 := hF0.tr hR1 (by decide +kernel)
 refine jx_load c1 hm rfl rfl rfl rfl ?_
 refine jx_getr c1 hm rfl sh_12 rfl ?_
 refine jx_load c1 hm rfl rfl rfl rfl ?_
 refine jx_getr c1 hm rfl sh_97 rfl ?_
 refine jt_v c3 hm rfl rfl pj_X11_copyRow rfl rfl rfl ((ct_X11_copyRow_14_99 X (by omega) M1 hH1 ).le (by decide)) (fun M2 ⟨hH2, hR2⟩ => ?_)
 have hF2 := hF1.tr hR2 (by decide +kernel)
 refine jx_load c1 hm rfl rfl rfl rfl ?_
 refine jx_getr c1 hm rfl sh_12 rfl ?_
 refine jx_load c1 hm rfl rfl rfl rfl ?_
 refine jx_getr c1 hm rfl sh_97 rfl ?_
 refine jt_v c3 hm rfl rfl pj_X11_copyRow rfl rfl rfl ((ct_X11_copyRow_15_100 X (by omega) M2 hH2 ).le (by decide)) (fun M3 ⟨hH3, hR3⟩ => ?_)
 have hF3 := hF2.tr hR3 (by decide +kernel)
 refine jx_load c1 hm rfl rfl rfl rfl ?_
 refine jx_getr c1 hm rfl sh_12 rfl ?_
 refine jx_load c1 hm rfl rfl rfl rfl ?_
 refine jx_getr c1 hm rfl sh_97 rfl ?_
 refine jt_v c3 hm rfl rfl pj_X11_copyRow rfl rfl rfl ((ct_X11_copyRow_16_101 X (by omega) M3 hH3 ).le (by decide)) (fun M4 ⟨hH4, hR4⟩ => ?_)
 have hF4 := hF3.tr hR4 (by decide +kernel)
 refine jx_load c1 hm rfl rfl rfl rfl ?_
 refine jx_getr c1 hm rfl sh_12 rfl ?_
 refine jx_load c1 hm rfl rfl rfl rfl ?_
 refine jx_getr c1 hm rfl sh_97 rfl ?_
 refine jt_v c3 hm rfl rfl pj_X11_copyRow rfl rfl rfl ((ct_X11_copyRow_17_102 X (by omega) M4 hH4 ).le (by decide)) (fun M5 ⟨hH5, hR5⟩ => ?_)
 have hF5 := hF4.tr hR5 (by decide +kernel)
 refine jx_load c1 hm rfl rfl rfl rfl ?_
 refine jx_getr c1 hm rfl sh_12 rfl ?_
 refine jx_load c1 hm rfl rfl rfl rfl ?_
 refine jx_getr c1 hm rfl sh_97 rfl ?_
 refine jt_v c3 hm rfl rfl pj_X11_copyRow rfl rfl rfl ((ct_X11_copyRow_18_103 X (by omega) M5 hH5 ).le (by decide)) (fun M6 ⟨hH6, hR6⟩ => ?_)
 have hF6 := hF5.tr hR6 (by decide +kernel)
 refine jx_load c1 hm rfl rfl rfl rfl ?_
 refine jx_getr c1 hm rfl sh_12 rfl ?_
 refine jx_load c1 hm rfl rfl rfl rfl ?_
 refine jx_getr c1 hm rfl sh_97 rfl ?_
 refine jt_v c3 hm rfl rfl pj_X11_copyRow rfl rfl rfl ((ct_X11_copyRow_19_104 X (by omega) M6 hH6 ).le (by decide)) (fun M7 ⟨hH7, hR7⟩ => ?_)
 have hF7 := hF6.tr hR7 (by decide +kernel)
 refine jx_load c1 hm rfl rfl rfl rfl ?_
 refine jx_load c1 hm rfl rfl rfl rfl ?_
 obtain ⟨z8, k9, lz8, uz8⟩ := hH7.ld (c := 12) (i := 7) (A := (-2147483648)) (B := 2147483647) rfl
 refine jx_geti c1 hm rfl sh_12 rfl k9 ?_
 obtain ⟨M10, e10, hH10, hF10, k10, n10, _⟩ := mup hH7 hF7 (c := 97) (i := 7) (v := z8) (A := (-2147483648)) (B := 2147483647) rfl ⟨by omega, by omega⟩ (jin_of 0 rfl ⟨by omega, by omega⟩)
 refine jm_puti c1 hm rfl sh_97 rfl e10 ?_
 exact jx_retv c2 hm rfl rfl ⟨rfl, hH10, hF10⟩
def md_X11_copyRow_13_106 : List (Nat × (Nat × Nat)) := [(106, (0, 5))]
theorem ct_X11_copyRow_13_106 (X : Int) (hX : 0 ≤ X ∧ X ≤ 100000000) (M0 : JM) (hH0 : HI X M0)  : JOk shp PJ 1 29 [.inr (.inr (.inl 13)), .inr (.inr (.inl 106))] M0 (jRv (fun M' => HI X M' ∧ Fr md_X11_copyRow_13_106 M0 M' )) := by
 refine ⟨jr_X11_copyRow, pj_X11_copyRow, fun F c1 c2 c3 => ?_⟩
 have hm := pj_X11_copyRow
 change F 0 [some (.inr (.inr (.inl 13))), some (.inr (.inr (.inl 106)))] [] M0
 have hF0 : Fr md_X11_copyRow_13_106 M0 M0 := Fr.rf _ _
 refine jx_load c1 hm rfl rfl rfl rfl ?_
 refine jy_ic c1 hm rfl (by decide) ?_
 refine jx_load c1 hm rfl rfl rfl rfl ?_
 refine jy_ic c1 hm rfl (by decide) ?_
 refine jx_load c1 hm rfl rfl rfl rfl ?_
 refine jx_alen c1 hm (v := 6) rfl sh_13 rfl rfl ?_
 refine jx_load c1 hm rfl rfl rfl rfl ?_
 refine jx_alen c1 hm (v := 6) rfl sh_106 rfl rfl ?_
 refine jx_min c1 hm rfl rfl (fun z1 lz1 uz1 ez1 => ?_)
 obtain ⟨M2, e2, hH2, hF2, n2, _⟩ := mcp hH0 hF0 (c1 := 13) (c2 := 106) (n := z1) (fun _ _ => rfl) (fun j hj => jin_of 0 rfl ⟨by omega, by omega⟩)
 refine jm_acpi c1 hm rfl rfl sh_13 sh_106 ⟨by omega, by omega, by omega⟩ e2 ?_
 exact jx_retv c2 hm rfl rfl ⟨rfl, hH2, hF2⟩
def md_X11_copyRow_14_107 : List (Nat × (Nat × Nat)) := [(107, (0, 5))]
theorem ct_X11_copyRow_14_107 (X : Int) (hX : 0 ≤ X ∧ X ≤ 100000000) (M0 : JM) (hH0 : HI X M0)  : JOk shp PJ 1 29 [.inr (.inr (.inl 14)), .inr (.inr (.inl 107))] M0 (jRv (fun M' => HI X M' ∧ Fr md_X11_copyRow_14_107 M0 M' )) := by
 refine ⟨jr_X11_copyRow, pj_X11_copyRow, fun F c1 c2 c3 => ?_⟩
 have hm := pj_X11_copyRow
 change F 0 [some (.inr (.inr (.inl 14))), some (.inr (.inr (.inl 107)))] [] M0
 have hF0 : Fr md_X11_copyRow_14_107 M0 M0 := Fr.rf _ _
 refine jx_load c1 hm rfl rfl rfl rfl ?_
 refine jy_ic c1 hm rfl (by decide) ?_
 refine jx_load c1 hm rfl rfl rfl rfl ?_
 refine jy_ic c1 hm rfl (by decide) ?_
 refine jx_load c1 hm rfl rfl rfl rfl ?_
 refine jx_alen c1 hm (v := 6) rfl sh_14 rfl rfl ?_
 refine jx_load c1 hm rfl rfl rfl rfl ?_
 refine jx_alen c1 hm (v := 6) rfl sh_107 rfl rfl ?_
 refine jx_min c1 hm rfl rfl (fun z1 lz1 uz1 ez1 => ?_)
 obtain ⟨M2, e2, hH2, hF2, n2, _⟩ := mcp hH0 hF0 (c1 := 14) (c2 := 107) (n := z1) (fun _ _ => rfl) (fun j hj => jin_of 0 rfl ⟨by omega, by omega⟩)
 refine jm_acpi c1 hm rfl rfl sh_14 sh_107 ⟨by omega, by omega, by omega⟩ e2 ?_
 exact jx_retv c2 hm rfl rfl ⟨rfl, hH2, hF2⟩
def md_X11_copyRow_15_108 : List (Nat × (Nat × Nat)) := [(108, (0, 5))]
theorem ct_X11_copyRow_15_108 (X : Int) (hX : 0 ≤ X ∧ X ≤ 100000000) (M0 : JM) (hH0 : HI X M0)  : JOk shp PJ 1 29 [.inr (.inr (.inl 15)), .inr (.inr (.inl 108))] M0 (jRv (fun M' => HI X M' ∧ Fr md_X11_copyRow_15_108 M0 M' )) := by
 refine ⟨jr_X11_copyRow, pj_X11_copyRow, fun F c1 c2 c3 => ?_⟩
 have hm := pj_X11_copyRow
 change F 0 [some (.inr (.inr (.inl 15))), some (.inr (.inr (.inl 108)))] [] M0
 have hF0 : Fr md_X11_copyRow_15_108 M0 M0 := Fr.rf _ _
 refine jx_load c1 hm rfl rfl rfl rfl ?_
 refine jy_ic c1 hm rfl (by decide) ?_
 refine jx_load c1 hm rfl rfl rfl rfl ?_
 refine jy_ic c1 hm rfl (by decide) ?_
 refine jx_load c1 hm rfl rfl rfl rfl ?_
 refine jx_alen c1 hm (v := 6) rfl sh_15 rfl rfl ?_
 refine jx_load c1 hm rfl rfl rfl rfl ?_
 refine jx_alen c1 hm (v := 6) rfl sh_108 rfl rfl ?_
 refine jx_min c1 hm rfl rfl (fun z1 lz1 uz1 ez1 => ?_)
 obtain ⟨M2, e2, hH2, hF2, n2, _⟩ := mcp hH0 hF0 (c1 := 15) (c2 := 108) (n := z1) (fun _ _ => rfl) (fun j hj => jin_of 0 rfl ⟨by omega, by omega⟩)
 refine jm_acpi c1 hm rfl rfl sh_15 sh_108 ⟨by omega, by omega, by omega⟩ e2 ?_
 exact jx_retv c2 hm rfl rfl ⟨rfl, hH2, hF2⟩
def md_X11_copyRow_16_109 : List (Nat × (Nat × Nat)) := [(109, (0, 5))]
theorem ct_X11_copyRow_16_109 (X : Int) (hX : 0 ≤ X ∧ X ≤ 100000000) (M0 : JM) (hH0 : HI X M0)  : JOk shp PJ 1 29 [.inr (.inr (.inl 16)), .inr (.inr (.inl 109))] M0 (jRv (fun M' => HI X M' ∧ Fr md_X11_copyRow_16_109 M0 M' )) := by
 refine ⟨jr_X11_copyRow, pj_X11_copyRow, fun F c1 c2 c3 => ?_⟩
 have hm := pj_X11_copyRow
 change F 0 [some (.inr (.inr (.inl 16))), some (.inr (.inr (.inl 109)))] [] M0
 have hF0 : Fr md_X11_copyRow_16_109 M0 M0 := Fr.rf _ _
 refine jx_load c1 hm rfl rfl rfl rfl ?_
 refine jy_ic c1 hm rfl (by decide) ?_
 refine jx_load c1 hm rfl rfl rfl rfl ?_
 refine jy_ic c1 hm rfl (by decide) ?_
 refine jx_load c1 hm rfl rfl rfl rfl ?_
 refine jx_alen c1 hm (v := 6) rfl sh_16 rfl rfl ?_
 refine jx_load c1 hm rfl rfl rfl rfl ?_
 refine jx_alen c1 hm (v := 6) rfl sh_109 rfl rfl ?_
 refine jx_min c1 hm rfl rfl (fun z1 lz1 uz1 ez1 => ?_)
 obtain ⟨M2, e2, hH2, hF2, n2, _⟩ := mcp hH0 hF0 (c1 := 16) (c2 := 109) (n := z1) (fun _ _ => rfl) (fun j hj => jin_of 0 rfl ⟨by omega, by omega⟩)
 refine jm_acpi c1 hm rfl rfl sh_16 sh_109 ⟨by omega, by omega, by omega⟩ e2 ?_
 exact jx_retv c2 hm rfl rfl ⟨rfl, hH2, hF2⟩
def md_X11_copyRow_17_110 : List (Nat × (Nat × Nat)) := [(110, (0, 35))]
theorem ct_X11_copyRow_17_110 (X : Int) (hX : 0 ≤ X ∧ X ≤ 100000000) (M0 : JM) (hH0 : HI X M0)  : JOk shp PJ 1 29 [.inr (.inr (.inl 17)), .inr (.inr (.inl 110))] M0 (jRv (fun M' => HI X M' ∧ Fr md_X11_copyRow_17_110 M0 M' )) := by
 refine ⟨jr_X11_copyRow, pj_X11_copyRow, fun F c1 c2 c3 => ?_⟩
 have hm := pj_X11_copyRow
 change F 0 [some (.inr (.inr (.inl 17))), some (.inr (.inr (.inl 110)))] [] M0
 have hF0 : Fr md_X11_copyRow_17_110 M0 M0 := Fr.rf _ _
 refine jx_load c1 hm rfl rfl rfl rfl ?_
 refine jy_ic c1 hm rfl (by decide) ?_
 refine jx_load c1 hm rfl rfl rfl rfl ?_
 refine jy_ic c1 hm rfl (by decide) ?_
 refine jx_load c1 hm rfl rfl rfl rfl ?_
 refine jx_alen c1 hm (v := 36) rfl sh_17 rfl rfl ?_
 refine jx_load c1 hm rfl rfl rfl rfl ?_
 refine jx_alen c1 hm (v := 36) rfl sh_110 rfl rfl ?_
 refine jx_min c1 hm rfl rfl (fun z1 lz1 uz1 ez1 => ?_)
 obtain ⟨M2, e2, hH2, hF2, n2, _⟩ := mcp hH0 hF0 (c1 := 17) (c2 := 110) (n := z1) (fun _ _ => rfl) (fun j hj => jin_of 0 rfl ⟨by omega, by omega⟩)
 refine jm_acpi c1 hm rfl rfl sh_17 sh_110 ⟨by omega, by omega, by omega⟩ e2 ?_
 exact jx_retv c2 hm rfl rfl ⟨rfl, hH2, hF2⟩
def md_X11_copyRow_18_111 : List (Nat × (Nat × Nat)) := [(111, (0, 35))]
theorem ct_X11_copyRow_18_111 (X : Int) (hX : 0 ≤ X ∧ X ≤ 100000000) (M0 : JM) (hH0 : HI X M0)  : JOk shp PJ 1 29 [.inr (.inr (.inl 18)), .inr (.inr (.inl 111))] M0 (jRv (fun M' => HI X M' ∧ Fr md_X11_copyRow_18_111 M0 M' )) := by
 refine ⟨jr_X11_copyRow, pj_X11_copyRow, fun F c1 c2 c3 => ?_⟩
 have hm := pj_X11_copyRow
 change F 0 [some (.inr (.inr (.inl 18))), some (.inr (.inr (.inl 111)))] [] M0
 have hF0 : Fr md_X11_copyRow_18_111 M0 M0 := Fr.rf _ _
 refine jx_load c1 hm rfl rfl rfl rfl ?_
 refine jy_ic c1 hm rfl (by decide) ?_
 refine jx_load c1 hm rfl rfl rfl rfl ?_
 refine jy_ic c1 hm rfl (by decide) ?_
 refine jx_load c1 hm rfl rfl rfl rfl ?_
 refine jx_alen c1 hm (v := 36) rfl sh_18 rfl rfl ?_
 refine jx_load c1 hm rfl rfl rfl rfl ?_
 refine jx_alen c1 hm (v := 36) rfl sh_111 rfl rfl ?_
 refine jx_min c1 hm rfl rfl (fun z1 lz1 uz1 ez1 => ?_)
 obtain ⟨M2, e2, hH2, hF2, n2, _⟩ := mcp hH0 hF0 (c1 := 18) (c2 := 111) (n := z1) (fun _ _ => rfl) (fun j hj => jin_of 0 rfl ⟨by omega, by omega⟩)
 refine jm_acpi c1 hm rfl rfl sh_18 sh_111 ⟨by omega, by omega, by omega⟩ e2 ?_
 exact jx_retv c2 hm rfl rfl ⟨rfl, hH2, hF2⟩
def md_X11_copyRow_19_112 : List (Nat × (Nat × Nat)) := [(112, (0, 35))]
theorem ct_X11_copyRow_19_112 (X : Int) (hX : 0 ≤ X ∧ X ≤ 100000000) (M0 : JM) (hH0 : HI X M0)  : JOk shp PJ 1 29 [.inr (.inr (.inl 19)), .inr (.inr (.inl 112))] M0 (jRv (fun M' => HI X M' ∧ Fr md_X11_copyRow_19_112 M0 M' )) := by
 refine ⟨jr_X11_copyRow, pj_X11_copyRow, fun F c1 c2 c3 => ?_⟩
 have hm := pj_X11_copyRow
 change F 0 [some (.inr (.inr (.inl 19))), some (.inr (.inr (.inl 112)))] [] M0
 have hF0 : Fr md_X11_copyRow_19_112 M0 M0 := Fr.rf _ _
 refine jx_load c1 hm rfl rfl rfl rfl ?_
 refine jy_ic c1 hm rfl (by decide) ?_
 refine jx_load c1 hm rfl rfl rfl rfl ?_
 refine jy_ic c1 hm rfl (by decide) ?_
 refine jx_load c1 hm rfl rfl rfl rfl ?_
 refine jx_alen c1 hm (v := 36) rfl sh_19 rfl rfl ?_
 refine jx_load c1 hm rfl rfl rfl rfl ?_
 refine jx_alen c1 hm (v := 36) rfl sh_112 rfl rfl ?_
 refine jx_min c1 hm rfl rfl (fun z1 lz1 uz1 ez1 => ?_)
 obtain ⟨M2, e2, hH2, hF2, n2, _⟩ := mcp hH0 hF0 (c1 := 19) (c2 := 112) (n := z1) (fun _ _ => rfl) (fun j hj => jin_of 0 rfl ⟨by omega, by omega⟩)
 refine jm_acpi c1 hm rfl rfl sh_19 sh_112 ⟨by omega, by omega, by omega⟩ e2 ?_
 exact jx_retv c2 hm rfl rfl ⟨rfl, hH2, hF2⟩
def md_X8_takeAll_105_12 : List (Nat × (Nat × Nat)) := [(105, (7, 7)), (106, (0, 5)), (107, (0, 5)), (108, (0, 5)), (109, (0, 5)), (110, (0, 35)), (111, (0, 35)), (112, (0, 35))]
theorem ct_X8_takeAll_105_12 (X : Int) (hX : 0 ≤ X ∧ X ≤ 100000000) (M0 : JM) (hH0 : HI X M0)  : JOk shp PJ 2 264 [.inr (.inr (.inl 105)), .inr (.inr (.inl 12))] M0 (jRv (fun M' => HI X M' ∧ Fr md_X8_takeAll_105_12 M0 M' )) := by
 refine ⟨jr_X8_takeAll, pj_X8_takeAll, fun F c1 c2 c3 => ?_⟩
 have hm := pj_X8_takeAll
 change F 0 [some (.inr (.inr (.inl 105))), some (.inr (.inr (.inl 12)))] [] M0
 have hF0 : Fr md_X8_takeAll_105_12 M0 M0 := Fr.rf _ _
 refine jx_load c1 hm rfl rfl rfl rfl ?_
 refine jx_getr c1 hm rfl sh_12 rfl ?_
 refine jx_load c1 hm rfl rfl rfl rfl ?_
 refine jx_getr c1 hm rfl sh_105 rfl ?_
 refine jt_v c3 hm rfl rfl pj_X11_copyRow rfl rfl rfl ((ct_X11_copyRow_13_106 X (by omega) M0 hH0 ).le (by decide)) (fun M1 ⟨hH1, hR1⟩ => ?_)
 have hF1 := hF0.tr hR1 (by decide +kernel)
 refine jx_load c1 hm rfl rfl rfl rfl ?_
 refine jx_getr c1 hm rfl sh_12 rfl ?_
 refine jx_load c1 hm rfl rfl rfl rfl ?_
 refine jx_getr c1 hm rfl sh_105 rfl ?_
 refine jt_v c3 hm rfl rfl pj_X11_copyRow rfl rfl rfl ((ct_X11_copyRow_14_107 X (by omega) M1 hH1 ).le (by decide)) (fun M2 ⟨hH2, hR2⟩ => ?_)
 have hF2 := hF1.tr hR2 (by decide +kernel)
 refine jx_load c1 hm rfl rfl rfl rfl ?_
 refine jx_getr c1 hm rfl sh_12 rfl ?_
 refine jx_load c1 hm rfl rfl rfl rfl ?_
 refine jx_getr c1 hm rfl sh_105 rfl ?_
 refine jt_v c3 hm rfl rfl pj_X11_copyRow rfl rfl rfl ((ct_X11_copyRow_15_108 X (by omega) M2 hH2 ).le (by decide)) (fun M3 ⟨hH3, hR3⟩ => ?_)
 have hF3 := hF2.tr hR3 (by decide +kernel)
 refine jx_load c1 hm rfl rfl rfl rfl ?_
 refine jx_getr c1 hm rfl sh_12 rfl ?_
 refine jx_load c1 hm rfl rfl rfl rfl ?_
 refine jx_getr c1 hm rfl sh_105 rfl ?_
 refine jt_v c3 hm rfl rfl pj_X11_copyRow rfl rfl rfl ((ct_X11_copyRow_16_109 X (by omega) M3 hH3 ).le (by decide)) (fun M4 ⟨hH4, hR4⟩ => ?_)
 have hF4 := hF3.tr hR4 (by decide +kernel)
 refine jx_load c1 hm rfl rfl rfl rfl ?_
 refine jx_getr c1 hm rfl sh_12 rfl ?_
 refine jx_load c1 hm rfl rfl rfl rfl ?_
 refine jx_getr c1 hm rfl sh_105 rfl ?_
 refine jt_v c3 hm rfl rfl pj_X11_copyRow rfl rfl rfl ((ct_X11_copyRow_17_110 X (by omega) M4 hH4 ).le (by decide)) (fun M5 ⟨hH5, hR5⟩ => ?_)
 have hF5 := hF4.tr hR5 (by decide +kernel)
 refine jx_load c1 hm rfl rfl rfl rfl ?_
 refine jx_getr c1 hm rfl sh_12 rfl ?_
 refine jx_load c1 hm rfl rfl rfl rfl ?_
 refine jx_getr c1 hm rfl sh_105 rfl ?_
 refine jt_v c3 hm rfl rfl pj_X11_copyRow rfl rfl rfl ((ct_X11_copyRow_18_111 X (by omega) M5 hH5 ).le (by decide)) (fun M6 ⟨hH6, hR6⟩ => ?_)
 have hF6 := hF5.tr hR6 (by decide +kernel)
 refine jx_load c1 hm rfl rfl rfl rfl ?_
 refine jx_getr c1 hm rfl sh_12 rfl ?_
 refine jx_load c1 hm rfl rfl rfl rfl ?_
 refine jx_getr c1 hm rfl sh_105 rfl ?_
 refine jt_v c3 hm rfl rfl pj_X11_copyRow rfl rfl rfl ((ct_X11_copyRow_19_112 X (by omega) M6 hH6 ).le (by decide)) (fun M7 ⟨hH7, hR7⟩ => ?_)
 have hF7 := hF6.tr hR7 (by decide +kernel)
 refine jx_load c1 hm rfl rfl rfl rfl ?_
 refine jx_load c1 hm rfl rfl rfl rfl ?_
 obtain ⟨z8, k9, lz8, uz8⟩ := hH7.ld (c := 12) (i := 7) (A := (-2147483648)) (B := 2147483647) rfl
 refine jx_geti c1 hm rfl sh_12 rfl k9 ?_
 obtain ⟨M10, e10, hH10, hF10, k10, n10, _⟩ := mup hH7 hF7 (c := 105) (i := 7) (v := z8) (A := (-2147483648)) (B := 2147483647) rfl ⟨by omega, by omega⟩ (jin_of 0 rfl ⟨by omega, by omega⟩)
 refine jm_puti c1 hm rfl sh_105 rfl e10 ?_
 exact jx_retv c2 hm rfl rfl ⟨rfl, hH10, hF10⟩
def md_X11_copyRow_13_114 : List (Nat × (Nat × Nat)) := [(114, (0, 5))]
theorem ct_X11_copyRow_13_114 (X : Int) (hX : 0 ≤ X ∧ X ≤ 100000000) (M0 : JM) (hH0 : HI X M0)  : JOk shp PJ 1 29 [.inr (.inr (.inl 13)), .inr (.inr (.inl 114))] M0 (jRv (fun M' => HI X M' ∧ Fr md_X11_copyRow_13_114 M0 M' )) := by
 refine ⟨jr_X11_copyRow, pj_X11_copyRow, fun F c1 c2 c3 => ?_⟩
 have hm := pj_X11_copyRow
 change F 0 [some (.inr (.inr (.inl 13))), some (.inr (.inr (.inl 114)))] [] M0
 have hF0 : Fr md_X11_copyRow_13_114 M0 M0 := Fr.rf _ _
 refine jx_load c1 hm rfl rfl rfl rfl ?_
 refine jy_ic c1 hm rfl (by decide) ?_
 refine jx_load c1 hm rfl rfl rfl rfl ?_
 refine jy_ic c1 hm rfl (by decide) ?_
 refine jx_load c1 hm rfl rfl rfl rfl ?_
 refine jx_alen c1 hm (v := 6) rfl sh_13 rfl rfl ?_
 refine jx_load c1 hm rfl rfl rfl rfl ?_
 refine jx_alen c1 hm (v := 6) rfl sh_114 rfl rfl ?_
 refine jx_min c1 hm rfl rfl (fun z1 lz1 uz1 ez1 => ?_)
 obtain ⟨M2, e2, hH2, hF2, n2, _⟩ := mcp hH0 hF0 (c1 := 13) (c2 := 114) (n := z1) (fun _ _ => rfl) (fun j hj => jin_of 0 rfl ⟨by omega, by omega⟩)
 refine jm_acpi c1 hm rfl rfl sh_13 sh_114 ⟨by omega, by omega, by omega⟩ e2 ?_
 exact jx_retv c2 hm rfl rfl ⟨rfl, hH2, hF2⟩
def md_X11_copyRow_14_115 : List (Nat × (Nat × Nat)) := [(115, (0, 5))]
theorem ct_X11_copyRow_14_115 (X : Int) (hX : 0 ≤ X ∧ X ≤ 100000000) (M0 : JM) (hH0 : HI X M0)  : JOk shp PJ 1 29 [.inr (.inr (.inl 14)), .inr (.inr (.inl 115))] M0 (jRv (fun M' => HI X M' ∧ Fr md_X11_copyRow_14_115 M0 M' )) := by
 refine ⟨jr_X11_copyRow, pj_X11_copyRow, fun F c1 c2 c3 => ?_⟩
 have hm := pj_X11_copyRow
 change F 0 [some (.inr (.inr (.inl 14))), some (.inr (.inr (.inl 115)))] [] M0
 have hF0 : Fr md_X11_copyRow_14_115 M0 M0 := Fr.rf _ _
 refine jx_load c1 hm rfl rfl rfl rfl ?_
 refine jy_ic c1 hm rfl (by decide) ?_
 refine jx_load c1 hm rfl rfl rfl rfl ?_
 refine jy_ic c1 hm rfl (by decide) ?_
 refine jx_load c1 hm rfl rfl rfl rfl ?_
 refine jx_alen c1 hm (v := 6) rfl sh_14 rfl rfl ?_
 refine jx_load c1 hm rfl rfl rfl rfl ?_
 refine jx_alen c1 hm (v := 6) rfl sh_115 rfl rfl ?_
 refine jx_min c1 hm rfl rfl (fun z1 lz1 uz1 ez1 => ?_)
 obtain ⟨M2, e2, hH2, hF2, n2, _⟩ := mcp hH0 hF0 (c1 := 14) (c2 := 115) (n := z1) (fun _ _ => rfl) (fun j hj => jin_of 0 rfl ⟨by omega, by omega⟩)
 refine jm_acpi c1 hm rfl rfl sh_14 sh_115 ⟨by omega, by omega, by omega⟩ e2 ?_
 exact jx_retv c2 hm rfl rfl ⟨rfl, hH2, hF2⟩
def md_X11_copyRow_15_116 : List (Nat × (Nat × Nat)) := [(116, (0, 5))]
theorem ct_X11_copyRow_15_116 (X : Int) (hX : 0 ≤ X ∧ X ≤ 100000000) (M0 : JM) (hH0 : HI X M0)  : JOk shp PJ 1 29 [.inr (.inr (.inl 15)), .inr (.inr (.inl 116))] M0 (jRv (fun M' => HI X M' ∧ Fr md_X11_copyRow_15_116 M0 M' )) := by
 refine ⟨jr_X11_copyRow, pj_X11_copyRow, fun F c1 c2 c3 => ?_⟩
 have hm := pj_X11_copyRow
 change F 0 [some (.inr (.inr (.inl 15))), some (.inr (.inr (.inl 116)))] [] M0
 have hF0 : Fr md_X11_copyRow_15_116 M0 M0 := Fr.rf _ _
 refine jx_load c1 hm rfl rfl rfl rfl ?_
 refine jy_ic c1 hm rfl (by decide) ?_
 refine jx_load c1 hm rfl rfl rfl rfl ?_
 refine jy_ic c1 hm rfl (by decide) ?_
 refine jx_load c1 hm rfl rfl rfl rfl ?_
 refine jx_alen c1 hm (v := 6) rfl sh_15 rfl rfl ?_
 refine jx_load c1 hm rfl rfl rfl rfl ?_
 refine jx_alen c1 hm (v := 6) rfl sh_116 rfl rfl ?_
 refine jx_min c1 hm rfl rfl (fun z1 lz1 uz1 ez1 => ?_)
 obtain ⟨M2, e2, hH2, hF2, n2, _⟩ := mcp hH0 hF0 (c1 := 15) (c2 := 116) (n := z1) (fun _ _ => rfl) (fun j hj => jin_of 0 rfl ⟨by omega, by omega⟩)
 refine jm_acpi c1 hm rfl rfl sh_15 sh_116 ⟨by omega, by omega, by omega⟩ e2 ?_
 exact jx_retv c2 hm rfl rfl ⟨rfl, hH2, hF2⟩
def md_X11_copyRow_16_117 : List (Nat × (Nat × Nat)) := [(117, (0, 5))]
theorem ct_X11_copyRow_16_117 (X : Int) (hX : 0 ≤ X ∧ X ≤ 100000000) (M0 : JM) (hH0 : HI X M0)  : JOk shp PJ 1 29 [.inr (.inr (.inl 16)), .inr (.inr (.inl 117))] M0 (jRv (fun M' => HI X M' ∧ Fr md_X11_copyRow_16_117 M0 M' )) := by
 refine ⟨jr_X11_copyRow, pj_X11_copyRow, fun F c1 c2 c3 => ?_⟩
 have hm := pj_X11_copyRow
 change F 0 [some (.inr (.inr (.inl 16))), some (.inr (.inr (.inl 117)))] [] M0
 have hF0 : Fr md_X11_copyRow_16_117 M0 M0 := Fr.rf _ _
 refine jx_load c1 hm rfl rfl rfl rfl ?_
 refine jy_ic c1 hm rfl (by decide) ?_
 refine jx_load c1 hm rfl rfl rfl rfl ?_
 refine jy_ic c1 hm rfl (by decide) ?_
 refine jx_load c1 hm rfl rfl rfl rfl ?_
 refine jx_alen c1 hm (v := 6) rfl sh_16 rfl rfl ?_
 refine jx_load c1 hm rfl rfl rfl rfl ?_
 refine jx_alen c1 hm (v := 6) rfl sh_117 rfl rfl ?_
 refine jx_min c1 hm rfl rfl (fun z1 lz1 uz1 ez1 => ?_)
 obtain ⟨M2, e2, hH2, hF2, n2, _⟩ := mcp hH0 hF0 (c1 := 16) (c2 := 117) (n := z1) (fun _ _ => rfl) (fun j hj => jin_of 0 rfl ⟨by omega, by omega⟩)
 refine jm_acpi c1 hm rfl rfl sh_16 sh_117 ⟨by omega, by omega, by omega⟩ e2 ?_
 exact jx_retv c2 hm rfl rfl ⟨rfl, hH2, hF2⟩
def md_X11_copyRow_17_118 : List (Nat × (Nat × Nat)) := [(118, (0, 35))]
theorem ct_X11_copyRow_17_118 (X : Int) (hX : 0 ≤ X ∧ X ≤ 100000000) (M0 : JM) (hH0 : HI X M0)  : JOk shp PJ 1 29 [.inr (.inr (.inl 17)), .inr (.inr (.inl 118))] M0 (jRv (fun M' => HI X M' ∧ Fr md_X11_copyRow_17_118 M0 M' )) := by
 refine ⟨jr_X11_copyRow, pj_X11_copyRow, fun F c1 c2 c3 => ?_⟩
 have hm := pj_X11_copyRow
 change F 0 [some (.inr (.inr (.inl 17))), some (.inr (.inr (.inl 118)))] [] M0
 have hF0 : Fr md_X11_copyRow_17_118 M0 M0 := Fr.rf _ _
 refine jx_load c1 hm rfl rfl rfl rfl ?_
 refine jy_ic c1 hm rfl (by decide) ?_
 refine jx_load c1 hm rfl rfl rfl rfl ?_
 refine jy_ic c1 hm rfl (by decide) ?_
 refine jx_load c1 hm rfl rfl rfl rfl ?_
 refine jx_alen c1 hm (v := 36) rfl sh_17 rfl rfl ?_
 refine jx_load c1 hm rfl rfl rfl rfl ?_
 refine jx_alen c1 hm (v := 36) rfl sh_118 rfl rfl ?_
 refine jx_min c1 hm rfl rfl (fun z1 lz1 uz1 ez1 => ?_)
 obtain ⟨M2, e2, hH2, hF2, n2, _⟩ := mcp hH0 hF0 (c1 := 17) (c2 := 118) (n := z1) (fun _ _ => rfl) (fun j hj => jin_of 0 rfl ⟨by omega, by omega⟩)
 refine jm_acpi c1 hm rfl rfl sh_17 sh_118 ⟨by omega, by omega, by omega⟩ e2 ?_
 exact jx_retv c2 hm rfl rfl ⟨rfl, hH2, hF2⟩
def md_X11_copyRow_18_119 : List (Nat × (Nat × Nat)) := [(119, (0, 35))]
theorem ct_X11_copyRow_18_119 (X : Int) (hX : 0 ≤ X ∧ X ≤ 100000000) (M0 : JM) (hH0 : HI X M0)  : JOk shp PJ 1 29 [.inr (.inr (.inl 18)), .inr (.inr (.inl 119))] M0 (jRv (fun M' => HI X M' ∧ Fr md_X11_copyRow_18_119 M0 M' )) := by
 refine ⟨jr_X11_copyRow, pj_X11_copyRow, fun F c1 c2 c3 => ?_⟩
 have hm := pj_X11_copyRow
 change F 0 [some (.inr (.inr (.inl 18))), some (.inr (.inr (.inl 119)))] [] M0
 have hF0 : Fr md_X11_copyRow_18_119 M0 M0 := Fr.rf _ _
 refine jx_load c1 hm rfl rfl rfl rfl ?_
 refine jy_ic c1 hm rfl (by decide) ?_
 refine jx_load c1 hm rfl rfl rfl rfl ?_
 refine jy_ic c1 hm rfl (by decide) ?_
 refine jx_load c1 hm rfl rfl rfl rfl ?_
 refine jx_alen c1 hm (v := 36) rfl sh_18 rfl rfl ?_
 refine jx_load c1 hm rfl rfl rfl rfl ?_
 refine jx_alen c1 hm (v := 36) rfl sh_119 rfl rfl ?_
 refine jx_min c1 hm rfl rfl (fun z1 lz1 uz1 ez1 => ?_)
 obtain ⟨M2, e2, hH2, hF2, n2, _⟩ := mcp hH0 hF0 (c1 := 18) (c2 := 119) (n := z1) (fun _ _ => rfl) (fun j hj => jin_of 0 rfl ⟨by omega, by omega⟩)
 refine jm_acpi c1 hm rfl rfl sh_18 sh_119 ⟨by omega, by omega, by omega⟩ e2 ?_
 exact jx_retv c2 hm rfl rfl ⟨rfl, hH2, hF2⟩
def md_X11_copyRow_19_120 : List (Nat × (Nat × Nat)) := [(120, (0, 35))]
theorem ct_X11_copyRow_19_120 (X : Int) (hX : 0 ≤ X ∧ X ≤ 100000000) (M0 : JM) (hH0 : HI X M0)  : JOk shp PJ 1 29 [.inr (.inr (.inl 19)), .inr (.inr (.inl 120))] M0 (jRv (fun M' => HI X M' ∧ Fr md_X11_copyRow_19_120 M0 M' )) := by
 refine ⟨jr_X11_copyRow, pj_X11_copyRow, fun F c1 c2 c3 => ?_⟩
 have hm := pj_X11_copyRow
 change F 0 [some (.inr (.inr (.inl 19))), some (.inr (.inr (.inl 120)))] [] M0
 have hF0 : Fr md_X11_copyRow_19_120 M0 M0 := Fr.rf _ _
 refine jx_load c1 hm rfl rfl rfl rfl ?_
 refine jy_ic c1 hm rfl (by decide) ?_
 refine jx_load c1 hm rfl rfl rfl rfl ?_
 refine jy_ic c1 hm rfl (by decide) ?_
 refine jx_load c1 hm rfl rfl rfl rfl ?_
 refine jx_alen c1 hm (v := 36) rfl sh_19 rfl rfl ?_
 refine jx_load c1 hm rfl rfl rfl rfl ?_
 refine jx_alen c1 hm (v := 36) rfl sh_120 rfl rfl ?_
 refine jx_min c1 hm rfl rfl (fun z1 lz1 uz1 ez1 => ?_)
 obtain ⟨M2, e2, hH2, hF2, n2, _⟩ := mcp hH0 hF0 (c1 := 19) (c2 := 120) (n := z1) (fun _ _ => rfl) (fun j hj => jin_of 0 rfl ⟨by omega, by omega⟩)
 refine jm_acpi c1 hm rfl rfl sh_19 sh_120 ⟨by omega, by omega, by omega⟩ e2 ?_
 exact jx_retv c2 hm rfl rfl ⟨rfl, hH2, hF2⟩
def md_X8_takeAll_113_12 : List (Nat × (Nat × Nat)) := [(113, (7, 7)), (114, (0, 5)), (115, (0, 5)), (116, (0, 5)), (117, (0, 5)), (118, (0, 35)), (119, (0, 35)), (120, (0, 35))]
theorem ct_X8_takeAll_113_12 (X : Int) (hX : 0 ≤ X ∧ X ≤ 100000000) (M0 : JM) (hH0 : HI X M0)  : JOk shp PJ 2 264 [.inr (.inr (.inl 113)), .inr (.inr (.inl 12))] M0 (jRv (fun M' => HI X M' ∧ Fr md_X8_takeAll_113_12 M0 M' )) := by
 refine ⟨jr_X8_takeAll, pj_X8_takeAll, fun F c1 c2 c3 => ?_⟩
 have hm := pj_X8_takeAll
 change F 0 [some (.inr (.inr (.inl 113))), some (.inr (.inr (.inl 12)))] [] M0
 have hF0 : Fr md_X8_takeAll_113_12 M0 M0 := Fr.rf _ _
 refine jx_load c1 hm rfl rfl rfl rfl ?_
 refine jx_getr c1 hm rfl sh_12 rfl ?_
 refine jx_load c1 hm rfl rfl rfl rfl ?_
 refine jx_getr c1 hm rfl sh_113 rfl ?_
 refine jt_v c3 hm rfl rfl pj_X11_copyRow rfl rfl rfl ((ct_X11_copyRow_13_114 X (by omega) M0 hH0 ).le (by decide)) (fun M1 ⟨hH1, hR1⟩ => ?_)
 have hF1 := hF0.tr hR1 (by decide +kernel)
 refine jx_load c1 hm rfl rfl rfl rfl ?_
 refine jx_getr c1 hm rfl sh_12 rfl ?_
 refine jx_load c1 hm rfl rfl rfl rfl ?_
 refine jx_getr c1 hm rfl sh_113 rfl ?_
 refine jt_v c3 hm rfl rfl pj_X11_copyRow rfl rfl rfl ((ct_X11_copyRow_14_115 X (by omega) M1 hH1 ).le (by decide)) (fun M2 ⟨hH2, hR2⟩ => ?_)
 have hF2 := hF1.tr hR2 (by decide +kernel)
 refine jx_load c1 hm rfl rfl rfl rfl ?_
 refine jx_getr c1 hm rfl sh_12 rfl ?_
 refine jx_load c1 hm rfl rfl rfl rfl ?_
 refine jx_getr c1 hm rfl sh_113 rfl ?_
 refine jt_v c3 hm rfl rfl pj_X11_copyRow rfl rfl rfl ((ct_X11_copyRow_15_116 X (by omega) M2 hH2 ).le (by decide)) (fun M3 ⟨hH3, hR3⟩ => ?_)
 have hF3 := hF2.tr hR3 (by decide +kernel)
 refine jx_load c1 hm rfl rfl rfl rfl ?_
 refine jx_getr c1 hm rfl sh_12 rfl ?_
 refine jx_load c1 hm rfl rfl rfl rfl ?_
 refine jx_getr c1 hm rfl sh_113 rfl ?_
 refine jt_v c3 hm rfl rfl pj_X11_copyRow rfl rfl rfl ((ct_X11_copyRow_16_117 X (by omega) M3 hH3 ).le (by decide)) (fun M4 ⟨hH4, hR4⟩ => ?_)
 have hF4 := hF3.tr hR4 (by decide +kernel)
 refine jx_load c1 hm rfl rfl rfl rfl ?_
 refine jx_getr c1 hm rfl sh_12 rfl ?_
 refine jx_load c1 hm rfl rfl rfl rfl ?_
 refine jx_getr c1 hm rfl sh_113 rfl ?_
 refine jt_v c3 hm rfl rfl pj_X11_copyRow rfl rfl rfl ((ct_X11_copyRow_17_118 X (by omega) M4 hH4 ).le (by decide)) (fun M5 ⟨hH5, hR5⟩ => ?_)
 have hF5 := hF4.tr hR5 (by decide +kernel)
 refine jx_load c1 hm rfl rfl rfl rfl ?_
 refine jx_getr c1 hm rfl sh_12 rfl ?_
 refine jx_load c1 hm rfl rfl rfl rfl ?_
 refine jx_getr c1 hm rfl sh_113 rfl ?_
 refine jt_v c3 hm rfl rfl pj_X11_copyRow rfl rfl rfl ((ct_X11_copyRow_18_119 X (by omega) M5 hH5 ).le (by decide)) (fun M6 ⟨hH6, hR6⟩ => ?_)
 have hF6 := hF5.tr hR6 (by decide +kernel)
 refine jx_load c1 hm rfl rfl rfl rfl ?_
 refine jx_getr c1 hm rfl sh_12 rfl ?_
 refine jx_load c1 hm rfl rfl rfl rfl ?_
 refine jx_getr c1 hm rfl sh_113 rfl ?_
 refine jt_v c3 hm rfl rfl pj_X11_copyRow rfl rfl rfl ((ct_X11_copyRow_19_120 X (by omega) M6 hH6 ).le (by decide)) (fun M7 ⟨hH7, hR7⟩ => ?_)
 have hF7 := hF6.tr hR7 (by decide +kernel)
 refine jx_load c1 hm rfl rfl rfl rfl ?_
 refine jx_load c1 hm rfl rfl rfl rfl ?_
 obtain ⟨z8, k9, lz8, uz8⟩ := hH7.ld (c := 12) (i := 7) (A := (-2147483648)) (B := 2147483647) rfl
 refine jx_geti c1 hm rfl sh_12 rfl k9 ?_
 obtain ⟨M10, e10, hH10, hF10, k10, n10, _⟩ := mup hH7 hF7 (c := 113) (i := 7) (v := z8) (A := (-2147483648)) (B := 2147483647) rfl ⟨by omega, by omega⟩ (jin_of 0 rfl ⟨by omega, by omega⟩)
 refine jm_puti c1 hm rfl sh_113 rfl e10 ?_
 exact jx_retv c2 hm rfl rfl ⟨rfl, hH10, hF10⟩
def md_X4_keep_55_12 : List (Nat × (Nat × Nat)) := [(55, (1, 1)), (55, (2, 2)), (57, (7, 7)), (58, (0, 5)), (59, (0, 5)), (60, (0, 5)), (61, (0, 5)), (62, (0, 35)), (63, (0, 35)), (64, (0, 35)), (65, (7, 7)), (66, (0, 5)), (67, (0, 5)), (68, (0, 5)), (69, (0, 5)), (70, (0, 35)), (71, (0, 35)), (72, (0, 35)), (73, (7, 7)), (74, (0, 5)), (75, (0, 5)), (76, (0, 5)), (77, (0, 5)), (78, (0, 35)), (79, (0, 35)), (80, (0, 35)), (81, (7, 7)), (82, (0, 5)), (83, (0, 5)), (84, (0, 5)), (85, (0, 5)), (86, (0, 35)), (87, (0, 35)), (88, (0, 35)), (89, (7, 7)), (90, (0, 5)), (91, (0, 5)), (92, (0, 5)), (93, (0, 5)), (94, (0, 35)), (95, (0, 35)), (96, (0, 35)), (97, (7, 7)), (98, (0, 5)), (99, (0, 5)), (100, (0, 5)), (101, (0, 5)), (102, (0, 35)), (103, (0, 35)), (104, (0, 35)), (105, (7, 7)), (106, (0, 5)), (107, (0, 5)), (108, (0, 5)), (109, (0, 5)), (110, (0, 35)), (111, (0, 35)), (112, (0, 35)), (113, (7, 7)), (114, (0, 5)), (115, (0, 5)), (116, (0, 5)), (117, (0, 5)), (118, (0, 35)), (119, (0, 35)), (120, (0, 35))]
theorem ct_X4_keep_55_12 (X : Int) (hX : 0 ≤ X ∧ X ≤ 100000000) (M0 : JM) (hH0 : HI X M0)  : JOk shp PJ 3 240 [.inr (.inr (.inl 55)), .inr (.inr (.inl 12))] M0 (jRv (fun M' => HI X M' ∧ Fr md_X4_keep_55_12 M0 M' )) := by
 refine ⟨jr_X4_keep, pj_X4_keep, fun F c1 c2 c3 => ?_⟩
 have hm := pj_X4_keep
 change F 0 [some (.inr (.inr (.inl 55))), some (.inr (.inr (.inl 12)))] [] M0
 have hF0 : Fr md_X4_keep_55_12 M0 M0 := Fr.rf _ _
 refine jx_load c1 hm rfl rfl rfl rfl ?_
 refine jx_getr c1 hm rfl sh_55 rfl ?_
 refine jx_load c1 hm rfl rfl rfl rfl ?_
 obtain ⟨z1, k2, lz1, uz1⟩ := hH0.ld (c := 55) (i := 1) (A := 0) (B := 7) (bs_24_1 _ _ (by omega) (by omega))
 refine jx_geti c1 hm rfl sh_55 rfl k2 ?_
 have h3 : z1 = 0 ∨ z1 = 1 ∨ z1 = 2 ∨ z1 = 3 ∨ z1 = 4 ∨ z1 = 5 ∨ z1 = 6 ∨ z1 = 7 := by omega
 rcases h3 with h3 | h3 | h3 | h3 | h3 | h3 | h3 | h3
 ·
  refine jx_aald c1 hm rfl sh_56 (by omega) (by rw [h3]; rfl) ?_
  refine jx_load c1 hm rfl rfl rfl rfl ?_
  refine jv_v c3 hm rfl pj_X8_takeAll rfl rfl ⟨_, _, _, rfl, sh_57⟩ rfl ((ct_X8_takeAll_57_12 X (by omega) M0 hH0 ).le (by decide)) (fun M4 ⟨hH4, hR4⟩ => ?_)
  have hF4 := hF0.tr hR4 (by decide +kernel)
  refine jx_load c1 hm rfl rfl rfl rfl ?_
  refine jx_load c1 hm rfl rfl rfl rfl ?_
  have k5 : M4.1 55 1 = z1 := (hR4 55 1 (by decide +kernel)).trans k2
  refine jx_geti c1 hm rfl sh_55 rfl k5 ?_
  refine jy_ic c1 hm rfl (by decide) ?_
  refine jy_add c1 hm (z1 + 1) rfl (by omega) ?_
  refine jy_bp c1 hm rfl (by decide) ?_
  refine jy_rem c1 hm rfl ⟨by omega, by omega, by omega, by omega⟩ (fun z6 ez6 lz6 uz6 => ?_)
  obtain ⟨M7, e7, hH7, hF7, k7, n7, _⟩ := mup hH4 hF4 (c := 55) (i := 1) (v := z6) (A := 0) (B := 7) (bs_24_1 _ _ (by omega) (by omega)) ⟨by omega, by omega⟩ (jin_of 0 rfl ⟨by omega, by omega⟩)
  refine jm_puti c1 hm rfl sh_55 rfl e7 ?_
  refine jx_load c1 hm rfl rfl rfl rfl ?_
  refine jx_load c1 hm rfl rfl rfl rfl ?_
  obtain ⟨z8, k9, lz8, uz8⟩ := hH7.ld (c := 55) (i := 2) (A := 0) (B := 8) (bs_24_2 _ _ (by omega) (by omega))
  refine jx_geti c1 hm rfl sh_55 rfl k9 ?_
  refine jy_ic c1 hm rfl (by decide) ?_
  refine jy_add c1 hm (z8 + 1) rfl (by omega) ?_
  refine jy_bp c1 hm rfl (by decide) ?_
  refine jx_min c1 hm rfl rfl (fun z10 lz10 uz10 ez10 => ?_)
  obtain ⟨M11, e11, hH11, hF11, k11, n11, _⟩ := mup hH7 hF7 (c := 55) (i := 2) (v := z10) (A := 0) (B := 8) (bs_24_2 _ _ (by omega) (by omega)) ⟨by omega, by omega⟩ (jin_of 1 rfl ⟨by omega, by omega⟩)
  refine jm_puti c1 hm rfl sh_55 rfl e11 ?_
  exact jx_retv c2 hm rfl rfl ⟨rfl, hH11, hF11⟩
 ·
  refine jx_aald c1 hm rfl sh_56 (by omega) (by rw [h3]; rfl) ?_
  refine jx_load c1 hm rfl rfl rfl rfl ?_
  refine jv_v c3 hm rfl pj_X8_takeAll rfl rfl ⟨_, _, _, rfl, sh_65⟩ rfl ((ct_X8_takeAll_65_12 X (by omega) M0 hH0 ).le (by decide)) (fun M12 ⟨hH12, hR12⟩ => ?_)
  have hF12 := hF0.tr hR12 (by decide +kernel)
  refine jx_load c1 hm rfl rfl rfl rfl ?_
  refine jx_load c1 hm rfl rfl rfl rfl ?_
  have k13 : M12.1 55 1 = z1 := (hR12 55 1 (by decide +kernel)).trans k2
  refine jx_geti c1 hm rfl sh_55 rfl k13 ?_
  refine jy_ic c1 hm rfl (by decide) ?_
  refine jy_add c1 hm (z1 + 1) rfl (by omega) ?_
  refine jy_bp c1 hm rfl (by decide) ?_
  refine jy_rem c1 hm rfl ⟨by omega, by omega, by omega, by omega⟩ (fun z14 ez14 lz14 uz14 => ?_)
  obtain ⟨M15, e15, hH15, hF15, k15, n15, _⟩ := mup hH12 hF12 (c := 55) (i := 1) (v := z14) (A := 0) (B := 7) (bs_24_1 _ _ (by omega) (by omega)) ⟨by omega, by omega⟩ (jin_of 0 rfl ⟨by omega, by omega⟩)
  refine jm_puti c1 hm rfl sh_55 rfl e15 ?_
  refine jx_load c1 hm rfl rfl rfl rfl ?_
  refine jx_load c1 hm rfl rfl rfl rfl ?_
  obtain ⟨z16, k17, lz16, uz16⟩ := hH15.ld (c := 55) (i := 2) (A := 0) (B := 8) (bs_24_2 _ _ (by omega) (by omega))
  refine jx_geti c1 hm rfl sh_55 rfl k17 ?_
  refine jy_ic c1 hm rfl (by decide) ?_
  refine jy_add c1 hm (z16 + 1) rfl (by omega) ?_
  refine jy_bp c1 hm rfl (by decide) ?_
  refine jx_min c1 hm rfl rfl (fun z18 lz18 uz18 ez18 => ?_)
  obtain ⟨M19, e19, hH19, hF19, k19, n19, _⟩ := mup hH15 hF15 (c := 55) (i := 2) (v := z18) (A := 0) (B := 8) (bs_24_2 _ _ (by omega) (by omega)) ⟨by omega, by omega⟩ (jin_of 1 rfl ⟨by omega, by omega⟩)
  refine jm_puti c1 hm rfl sh_55 rfl e19 ?_
  exact jx_retv c2 hm rfl rfl ⟨rfl, hH19, hF19⟩
 ·
  refine jx_aald c1 hm rfl sh_56 (by omega) (by rw [h3]; rfl) ?_
  refine jx_load c1 hm rfl rfl rfl rfl ?_
  refine jv_v c3 hm rfl pj_X8_takeAll rfl rfl ⟨_, _, _, rfl, sh_73⟩ rfl ((ct_X8_takeAll_73_12 X (by omega) M0 hH0 ).le (by decide)) (fun M20 ⟨hH20, hR20⟩ => ?_)
  have hF20 := hF0.tr hR20 (by decide +kernel)
  refine jx_load c1 hm rfl rfl rfl rfl ?_
  refine jx_load c1 hm rfl rfl rfl rfl ?_
  have k21 : M20.1 55 1 = z1 := (hR20 55 1 (by decide +kernel)).trans k2
  refine jx_geti c1 hm rfl sh_55 rfl k21 ?_
  refine jy_ic c1 hm rfl (by decide) ?_
  refine jy_add c1 hm (z1 + 1) rfl (by omega) ?_
  refine jy_bp c1 hm rfl (by decide) ?_
  refine jy_rem c1 hm rfl ⟨by omega, by omega, by omega, by omega⟩ (fun z22 ez22 lz22 uz22 => ?_)
  obtain ⟨M23, e23, hH23, hF23, k23, n23, _⟩ := mup hH20 hF20 (c := 55) (i := 1) (v := z22) (A := 0) (B := 7) (bs_24_1 _ _ (by omega) (by omega)) ⟨by omega, by omega⟩ (jin_of 0 rfl ⟨by omega, by omega⟩)
  refine jm_puti c1 hm rfl sh_55 rfl e23 ?_
  refine jx_load c1 hm rfl rfl rfl rfl ?_
  refine jx_load c1 hm rfl rfl rfl rfl ?_
  obtain ⟨z24, k25, lz24, uz24⟩ := hH23.ld (c := 55) (i := 2) (A := 0) (B := 8) (bs_24_2 _ _ (by omega) (by omega))
  refine jx_geti c1 hm rfl sh_55 rfl k25 ?_
  refine jy_ic c1 hm rfl (by decide) ?_
  refine jy_add c1 hm (z24 + 1) rfl (by omega) ?_
  refine jy_bp c1 hm rfl (by decide) ?_
  refine jx_min c1 hm rfl rfl (fun z26 lz26 uz26 ez26 => ?_)
  obtain ⟨M27, e27, hH27, hF27, k27, n27, _⟩ := mup hH23 hF23 (c := 55) (i := 2) (v := z26) (A := 0) (B := 8) (bs_24_2 _ _ (by omega) (by omega)) ⟨by omega, by omega⟩ (jin_of 1 rfl ⟨by omega, by omega⟩)
  refine jm_puti c1 hm rfl sh_55 rfl e27 ?_
  exact jx_retv c2 hm rfl rfl ⟨rfl, hH27, hF27⟩
 ·
  refine jx_aald c1 hm rfl sh_56 (by omega) (by rw [h3]; rfl) ?_
  refine jx_load c1 hm rfl rfl rfl rfl ?_
  refine jv_v c3 hm rfl pj_X8_takeAll rfl rfl ⟨_, _, _, rfl, sh_81⟩ rfl ((ct_X8_takeAll_81_12 X (by omega) M0 hH0 ).le (by decide)) (fun M28 ⟨hH28, hR28⟩ => ?_)
  have hF28 := hF0.tr hR28 (by decide +kernel)
  refine jx_load c1 hm rfl rfl rfl rfl ?_
  refine jx_load c1 hm rfl rfl rfl rfl ?_
  have k29 : M28.1 55 1 = z1 := (hR28 55 1 (by decide +kernel)).trans k2
  refine jx_geti c1 hm rfl sh_55 rfl k29 ?_
  refine jy_ic c1 hm rfl (by decide) ?_
  refine jy_add c1 hm (z1 + 1) rfl (by omega) ?_
  refine jy_bp c1 hm rfl (by decide) ?_
  refine jy_rem c1 hm rfl ⟨by omega, by omega, by omega, by omega⟩ (fun z30 ez30 lz30 uz30 => ?_)
  obtain ⟨M31, e31, hH31, hF31, k31, n31, _⟩ := mup hH28 hF28 (c := 55) (i := 1) (v := z30) (A := 0) (B := 7) (bs_24_1 _ _ (by omega) (by omega)) ⟨by omega, by omega⟩ (jin_of 0 rfl ⟨by omega, by omega⟩)
  refine jm_puti c1 hm rfl sh_55 rfl e31 ?_
  refine jx_load c1 hm rfl rfl rfl rfl ?_
  refine jx_load c1 hm rfl rfl rfl rfl ?_
  obtain ⟨z32, k33, lz32, uz32⟩ := hH31.ld (c := 55) (i := 2) (A := 0) (B := 8) (bs_24_2 _ _ (by omega) (by omega))
  refine jx_geti c1 hm rfl sh_55 rfl k33 ?_
  refine jy_ic c1 hm rfl (by decide) ?_
  refine jy_add c1 hm (z32 + 1) rfl (by omega) ?_
  refine jy_bp c1 hm rfl (by decide) ?_
  refine jx_min c1 hm rfl rfl (fun z34 lz34 uz34 ez34 => ?_)
  obtain ⟨M35, e35, hH35, hF35, k35, n35, _⟩ := mup hH31 hF31 (c := 55) (i := 2) (v := z34) (A := 0) (B := 8) (bs_24_2 _ _ (by omega) (by omega)) ⟨by omega, by omega⟩ (jin_of 1 rfl ⟨by omega, by omega⟩)
  refine jm_puti c1 hm rfl sh_55 rfl e35 ?_
  exact jx_retv c2 hm rfl rfl ⟨rfl, hH35, hF35⟩
 ·
  refine jx_aald c1 hm rfl sh_56 (by omega) (by rw [h3]; rfl) ?_
  refine jx_load c1 hm rfl rfl rfl rfl ?_
  refine jv_v c3 hm rfl pj_X8_takeAll rfl rfl ⟨_, _, _, rfl, sh_89⟩ rfl ((ct_X8_takeAll_89_12 X (by omega) M0 hH0 ).le (by decide)) (fun M36 ⟨hH36, hR36⟩ => ?_)
  have hF36 := hF0.tr hR36 (by decide +kernel)
  refine jx_load c1 hm rfl rfl rfl rfl ?_
  refine jx_load c1 hm rfl rfl rfl rfl ?_
  have k37 : M36.1 55 1 = z1 := (hR36 55 1 (by decide +kernel)).trans k2
  refine jx_geti c1 hm rfl sh_55 rfl k37 ?_
  refine jy_ic c1 hm rfl (by decide) ?_
  refine jy_add c1 hm (z1 + 1) rfl (by omega) ?_
  refine jy_bp c1 hm rfl (by decide) ?_
  refine jy_rem c1 hm rfl ⟨by omega, by omega, by omega, by omega⟩ (fun z38 ez38 lz38 uz38 => ?_)
  obtain ⟨M39, e39, hH39, hF39, k39, n39, _⟩ := mup hH36 hF36 (c := 55) (i := 1) (v := z38) (A := 0) (B := 7) (bs_24_1 _ _ (by omega) (by omega)) ⟨by omega, by omega⟩ (jin_of 0 rfl ⟨by omega, by omega⟩)
  refine jm_puti c1 hm rfl sh_55 rfl e39 ?_
  refine jx_load c1 hm rfl rfl rfl rfl ?_
  refine jx_load c1 hm rfl rfl rfl rfl ?_
  obtain ⟨z40, k41, lz40, uz40⟩ := hH39.ld (c := 55) (i := 2) (A := 0) (B := 8) (bs_24_2 _ _ (by omega) (by omega))
  refine jx_geti c1 hm rfl sh_55 rfl k41 ?_
  refine jy_ic c1 hm rfl (by decide) ?_
  refine jy_add c1 hm (z40 + 1) rfl (by omega) ?_
  refine jy_bp c1 hm rfl (by decide) ?_
  refine jx_min c1 hm rfl rfl (fun z42 lz42 uz42 ez42 => ?_)
  obtain ⟨M43, e43, hH43, hF43, k43, n43, _⟩ := mup hH39 hF39 (c := 55) (i := 2) (v := z42) (A := 0) (B := 8) (bs_24_2 _ _ (by omega) (by omega)) ⟨by omega, by omega⟩ (jin_of 1 rfl ⟨by omega, by omega⟩)
  refine jm_puti c1 hm rfl sh_55 rfl e43 ?_
  exact jx_retv c2 hm rfl rfl ⟨rfl, hH43, hF43⟩
 ·
  refine jx_aald c1 hm rfl sh_56 (by omega) (by rw [h3]; rfl) ?_
  refine jx_load c1 hm rfl rfl rfl rfl ?_
  refine jv_v c3 hm rfl pj_X8_takeAll rfl rfl ⟨_, _, _, rfl, sh_97⟩ rfl ((ct_X8_takeAll_97_12 X (by omega) M0 hH0 ).le (by decide)) (fun M44 ⟨hH44, hR44⟩ => ?_)
  have hF44 := hF0.tr hR44 (by decide +kernel)
  refine jx_load c1 hm rfl rfl rfl rfl ?_
  refine jx_load c1 hm rfl rfl rfl rfl ?_
  have k45 : M44.1 55 1 = z1 := (hR44 55 1 (by decide +kernel)).trans k2
  refine jx_geti c1 hm rfl sh_55 rfl k45 ?_
  refine jy_ic c1 hm rfl (by decide) ?_
  refine jy_add c1 hm (z1 + 1) rfl (by omega) ?_
  refine jy_bp c1 hm rfl (by decide) ?_
  refine jy_rem c1 hm rfl ⟨by omega, by omega, by omega, by omega⟩ (fun z46 ez46 lz46 uz46 => ?_)
  obtain ⟨M47, e47, hH47, hF47, k47, n47, _⟩ := mup hH44 hF44 (c := 55) (i := 1) (v := z46) (A := 0) (B := 7) (bs_24_1 _ _ (by omega) (by omega)) ⟨by omega, by omega⟩ (jin_of 0 rfl ⟨by omega, by omega⟩)
  refine jm_puti c1 hm rfl sh_55 rfl e47 ?_
  refine jx_load c1 hm rfl rfl rfl rfl ?_
  refine jx_load c1 hm rfl rfl rfl rfl ?_
  obtain ⟨z48, k49, lz48, uz48⟩ := hH47.ld (c := 55) (i := 2) (A := 0) (B := 8) (bs_24_2 _ _ (by omega) (by omega))
  refine jx_geti c1 hm rfl sh_55 rfl k49 ?_
  refine jy_ic c1 hm rfl (by decide) ?_
  refine jy_add c1 hm (z48 + 1) rfl (by omega) ?_
  refine jy_bp c1 hm rfl (by decide) ?_
  refine jx_min c1 hm rfl rfl (fun z50 lz50 uz50 ez50 => ?_)
  obtain ⟨M51, e51, hH51, hF51, k51, n51, _⟩ := mup hH47 hF47 (c := 55) (i := 2) (v := z50) (A := 0) (B := 8) (bs_24_2 _ _ (by omega) (by omega)) ⟨by omega, by omega⟩ (jin_of 1 rfl ⟨by omega, by omega⟩)
  refine jm_puti c1 hm rfl sh_55 rfl e51 ?_
  exact jx_retv c2 hm rfl rfl ⟨rfl, hH51, hF51⟩
 ·
  refine jx_aald c1 hm rfl sh_56 (by omega) (by rw [h3]; rfl) ?_
  refine jx_load c1 hm rfl rfl rfl rfl ?_
  refine jv_v c3 hm rfl pj_X8_takeAll rfl rfl ⟨_, _, _, rfl, sh_105⟩ rfl ((ct_X8_takeAll_105_12 X (by omega) M0 hH0 ).le (by decide)) (fun M52 ⟨hH52, hR52⟩ => ?_)
  have hF52 := hF0.tr hR52 (by decide +kernel)
  refine jx_load c1 hm rfl rfl rfl rfl ?_
  refine jx_load c1 hm rfl rfl rfl rfl ?_
  have k53 : M52.1 55 1 = z1 := (hR52 55 1 (by decide +kernel)).trans k2
  refine jx_geti c1 hm rfl sh_55 rfl k53 ?_
  refine jy_ic c1 hm rfl (by decide) ?_
  refine jy_add c1 hm (z1 + 1) rfl (by omega) ?_
  refine jy_bp c1 hm rfl (by decide) ?_
  refine jy_rem c1 hm rfl ⟨by omega, by omega, by omega, by omega⟩ (fun z54 ez54 lz54 uz54 => ?_)
  obtain ⟨M55, e55, hH55, hF55, k55, n55, _⟩ := mup hH52 hF52 (c := 55) (i := 1) (v := z54) (A := 0) (B := 7) (bs_24_1 _ _ (by omega) (by omega)) ⟨by omega, by omega⟩ (jin_of 0 rfl ⟨by omega, by omega⟩)
  refine jm_puti c1 hm rfl sh_55 rfl e55 ?_
  refine jx_load c1 hm rfl rfl rfl rfl ?_
  refine jx_load c1 hm rfl rfl rfl rfl ?_
  obtain ⟨z56, k57, lz56, uz56⟩ := hH55.ld (c := 55) (i := 2) (A := 0) (B := 8) (bs_24_2 _ _ (by omega) (by omega))
  refine jx_geti c1 hm rfl sh_55 rfl k57 ?_
  refine jy_ic c1 hm rfl (by decide) ?_
  refine jy_add c1 hm (z56 + 1) rfl (by omega) ?_
  refine jy_bp c1 hm rfl (by decide) ?_
  refine jx_min c1 hm rfl rfl (fun z58 lz58 uz58 ez58 => ?_)
  obtain ⟨M59, e59, hH59, hF59, k59, n59, _⟩ := mup hH55 hF55 (c := 55) (i := 2) (v := z58) (A := 0) (B := 8) (bs_24_2 _ _ (by omega) (by omega)) ⟨by omega, by omega⟩ (jin_of 1 rfl ⟨by omega, by omega⟩)
  refine jm_puti c1 hm rfl sh_55 rfl e59 ?_
  exact jx_retv c2 hm rfl rfl ⟨rfl, hH59, hF59⟩
 ·
  refine jx_aald c1 hm rfl sh_56 (by omega) (by rw [h3]; rfl) ?_
  refine jx_load c1 hm rfl rfl rfl rfl ?_
  refine jv_v c3 hm rfl pj_X8_takeAll rfl rfl ⟨_, _, _, rfl, sh_113⟩ rfl ((ct_X8_takeAll_113_12 X (by omega) M0 hH0 ).le (by decide)) (fun M60 ⟨hH60, hR60⟩ => ?_)
  have hF60 := hF0.tr hR60 (by decide +kernel)
  refine jx_load c1 hm rfl rfl rfl rfl ?_
  refine jx_load c1 hm rfl rfl rfl rfl ?_
  have k61 : M60.1 55 1 = z1 := (hR60 55 1 (by decide +kernel)).trans k2
  refine jx_geti c1 hm rfl sh_55 rfl k61 ?_
  refine jy_ic c1 hm rfl (by decide) ?_
  refine jy_add c1 hm (z1 + 1) rfl (by omega) ?_
  refine jy_bp c1 hm rfl (by decide) ?_
  refine jy_rem c1 hm rfl ⟨by omega, by omega, by omega, by omega⟩ (fun z62 ez62 lz62 uz62 => ?_)
  obtain ⟨M63, e63, hH63, hF63, k63, n63, _⟩ := mup hH60 hF60 (c := 55) (i := 1) (v := z62) (A := 0) (B := 7) (bs_24_1 _ _ (by omega) (by omega)) ⟨by omega, by omega⟩ (jin_of 0 rfl ⟨by omega, by omega⟩)
  refine jm_puti c1 hm rfl sh_55 rfl e63 ?_
  refine jx_load c1 hm rfl rfl rfl rfl ?_
  refine jx_load c1 hm rfl rfl rfl rfl ?_
  obtain ⟨z64, k65, lz64, uz64⟩ := hH63.ld (c := 55) (i := 2) (A := 0) (B := 8) (bs_24_2 _ _ (by omega) (by omega))
  refine jx_geti c1 hm rfl sh_55 rfl k65 ?_
  refine jy_ic c1 hm rfl (by decide) ?_
  refine jy_add c1 hm (z64 + 1) rfl (by omega) ?_
  refine jy_bp c1 hm rfl (by decide) ?_
  refine jx_min c1 hm rfl rfl (fun z66 lz66 uz66 ez66 => ?_)
  obtain ⟨M67, e67, hH67, hF67, k67, n67, _⟩ := mup hH63 hF63 (c := 55) (i := 2) (v := z66) (A := 0) (B := 8) (bs_24_2 _ _ (by omega) (by omega)) ⟨by omega, by omega⟩ (jin_of 1 rfl ⟨by omega, by omega⟩)
  refine jm_puti c1 hm rfl sh_55 rfl e67 ?_
  exact jx_retv c2 hm rfl rfl ⟨rfl, hH67, hF67⟩
def md_X0_doForfeit_4_12 : List (Nat × (Nat × Nat)) := [(13, (0, 5)), (14, (0, 5)), (15, (0, 5)), (18, (0, 35))]
theorem ct_X0_doForfeit_4_12 (X : Int) (hX : 0 ≤ X ∧ X ≤ 99999999) (M0 : JM) (hH0 : HI X M0) (a0 : Int) (ha0 : 0 ≤ a0 ∧ a0 ≤ 5) (a1 : Int) (ha1 : 0 ≤ a1 ∧ a1 ≤ 5) : JOk shp PJ 3 3 [.inr (.inr (.inl 4)), .inr (.inr (.inl 12)), .inl a0, .inl a1] M0 (jRi (fun v M' => HI (X + 1) M' ∧ Fr md_X0_doForfeit_4_12 M0 M' ∧ 0 ≤ v ∧ v ≤ 20 )) := by
 refine ⟨jr_X0_doForfeit, pj_X0_doForfeit, fun F c1 c2 c3 => ?_⟩
 have hm := pj_X0_doForfeit
 change F 0 [some (.inr (.inr (.inl 4))), some (.inr (.inr (.inl 12))), some (.inl a0), some (.inl a1), none] [] M0
 have hF0 : Fr md_X0_doForfeit_4_12 M0 M0 := Fr.rf _ _
 have hG0 := hH0
 replace hH0 := hH0.mono (by omega) (show X ≤ X + 1 by omega)
 refine jx_load c1 hm rfl rfl rfl rfl ?_
 refine jx_getr c1 hm rfl sh_4 rfl ?_
 refine jx_load c1 hm rfl rfl rfl rfl ?_
 refine jx_load c1 hm rfl rfl rfl rfl ?_
 refine jx_load c1 hm rfl rfl rfl rfl ?_
 refine jv_i c3 hm rfl pj_X2_costNow rfl rfl ⟨_, _, _, rfl, sh_5⟩ rfl ((ct_X2_costNow_5_12 (X + 1) (by omega) M0 hH0 a0 ⟨by omega, by omega⟩ a1 ⟨by omega, by omega⟩).le (by decide)) (fun z1 _ ⟨rfl, lz1, uz1⟩ => ?_)
 refine jx_stor c1 hm (L' := [some (.inr (.inr (.inl 4))), some (.inr (.inr (.inl 12))), some (.inl a0), some (.inl a1), some (.inl z1)]) rfl rfl rfl rfl rfl ?_
 refine jx_load c1 hm rfl rfl rfl rfl ?_
 refine jx_getr c1 hm rfl sh_12 rfl ?_
 refine jx_load c1 hm rfl rfl rfl rfl ?_
 refine jx_dup2 c1 hm rfl rfl rfl ?_
 obtain ⟨z2, k3, lz2, uz2⟩ := hG0.ld (c := 13) (i := (a0).toNat) (A := (-2147483648)) (B := 2147483647) rfl
 have k4 : M0.1 13 (a0).toNat = z2 := k3
 refine jx_iald c1 hm rfl sh_13 ⟨by omega, by omega⟩ k4 ?_
 refine jx_load c1 hm rfl rfl rfl rfl ?_
 refine jx_iopw c1 hm rfl rfl (fun z5 lz5 uz5 => ?_)
 obtain ⟨M6, e6, hH6, hF6, k6, n6, _⟩ := mup hH0 hF0 (c := 13) (i := (a0).toNat) (v := z5) (A := (-2147483648)) (B := 2147483647) rfl ⟨by omega, by omega⟩ (jin_of 0 rfl ⟨by omega, by omega⟩)
 refine jm_iast c1 hm rfl sh_13 ⟨by omega, by omega⟩ e6 ?_
 refine jx_load c1 hm rfl rfl rfl rfl ?_
 refine jx_getr c1 hm rfl sh_12 rfl ?_
 refine jx_load c1 hm rfl rfl rfl rfl ?_
 refine jx_dup2 c1 hm rfl rfl rfl ?_
 obtain ⟨z7, k8, lz7, uz7⟩ := hG0.ld (c := 14) (i := (a0).toNat) (A := (-2147483648)) (B := 2147483647) rfl
 have k9 : M6.1 14 (a0).toNat = z7 := (n6 14 (a0).toNat (by omega)).trans k8
 refine jx_iald c1 hm rfl sh_14 ⟨by omega, by omega⟩ k9 ?_
 refine jx_load c1 hm rfl rfl rfl rfl ?_
 refine jx_iopw c1 hm rfl rfl (fun z10 lz10 uz10 => ?_)
 obtain ⟨M11, e11, hH11, hF11, k11, n11, _⟩ := mup hH6 hF6 (c := 14) (i := (a0).toNat) (v := z10) (A := (-2147483648)) (B := 2147483647) rfl ⟨by omega, by omega⟩ (jin_of 1 rfl ⟨by omega, by omega⟩)
 refine jm_iast c1 hm rfl sh_14 ⟨by omega, by omega⟩ e11 ?_
 refine jx_load c1 hm rfl rfl rfl rfl ?_
 refine jx_getr c1 hm rfl sh_12 rfl ?_
 refine jx_load c1 hm rfl rfl rfl rfl ?_
 refine jx_dup2 c1 hm rfl rfl rfl ?_
 obtain ⟨z12, k13, lz12, uz12⟩ := hG0.ld (c := 15) (i := (a0).toNat) (A := (-2147483648)) (B := 2147483647) rfl
 have k14 : M11.1 15 (a0).toNat = z12 := (n11 15 (a0).toNat (by omega)).trans ((n6 15 (a0).toNat (by omega)).trans k13)
 refine jx_iald c1 hm rfl sh_15 ⟨by omega, by omega⟩ k14 ?_
 refine jx_load c1 hm rfl rfl rfl rfl ?_
 refine jx_iopw c1 hm rfl rfl (fun z15 lz15 uz15 => ?_)
 obtain ⟨M16, e16, hH16, hF16, k16, n16, _⟩ := mup hH11 hF11 (c := 15) (i := (a0).toNat) (v := z15) (A := (-2147483648)) (B := 2147483647) rfl ⟨by omega, by omega⟩ (jin_of 2 rfl ⟨by omega, by omega⟩)
 refine jm_iast c1 hm rfl sh_15 ⟨by omega, by omega⟩ e16 ?_
 refine jx_load c1 hm rfl rfl rfl rfl ?_
 refine jx_getr c1 hm rfl sh_12 rfl ?_
 refine jx_load c1 hm rfl rfl rfl rfl ?_
 refine jy_bp c1 hm rfl (by decide) ?_
 refine jy_mul c1 hm (6 * a0) rfl (by omega) ?_
 refine jx_load c1 hm rfl rfl rfl rfl ?_
 refine jy_add c1 hm (6 * a0 + a1) rfl (by omega) ?_
 refine jx_dup2 c1 hm rfl rfl rfl ?_
 obtain ⟨z17, k18, lz17, uz17⟩ := hG0.ld (c := 18) (i := ((6 * a0 + a1)).toNat) (A := 0) (B := 1 * X) rfl
 have k19 : M16.1 18 ((6 * a0 + a1)).toNat = z17 := (n16 18 ((6 * a0 + a1)).toNat (by omega)).trans ((n11 18 ((6 * a0 + a1)).toNat (by omega)).trans ((n6 18 ((6 * a0 + a1)).toNat (by omega)).trans k18))
 refine jx_iald c1 hm rfl sh_18 ⟨by omega, by omega⟩ k19 ?_
 refine jy_ic c1 hm rfl (by decide) ?_
 refine jy_add c1 hm (z17 + 1) rfl (by omega) ?_
 obtain ⟨M20, e20, hH20, hF20, k20, n20, _⟩ := mup hH16 hF16 (c := 18) (i := ((6 * a0 + a1)).toNat) (v := (z17 + 1)) (A := 0) (B := 1 * (X + 1)) rfl ⟨by omega, by omega⟩ (jin_of 3 rfl ⟨by omega, by omega⟩)
 refine jm_iast c1 hm rfl sh_18 ⟨by omega, by omega⟩ e20 ?_
 refine jx_load c1 hm rfl rfl rfl rfl ?_
 exact jx_reti c2 hm rfl rfl ⟨_, rfl, hH20, hF20, by omega, by omega⟩
theorem ct_X6_pairAt_23 (X : Int) (hX : 0 ≤ X ∧ X ≤ 100000000) (M0 : JM) (hH0 : HI X M0) (a0 : Int) (ha0 : 0 ≤ a0 ∧ a0 ≤ 5) : JOk shp PJ 1 247 [.inr (.inr (.inl 23)), .inl a0] M0 (jRi (fun v M' => M0 = M' ∧ 0 ≤ v ∧ v ≤ 35 )) := by
 refine ⟨jr_X6_pairAt, pj_X6_pairAt, fun F c1 c2 c3 => ?_⟩
 have hm := pj_X6_pairAt
 change F 0 [some (.inr (.inr (.inl 23))), some (.inl a0)] [] M0
 refine jx_load c1 hm rfl rfl rfl rfl ?_
 refine jx_getr c1 hm rfl sh_23 rfl ?_
 refine jx_load c1 hm rfl rfl rfl rfl ?_
 obtain ⟨z1, k2, lz1, uz1⟩ := hH0.ld (c := 24) (i := (a0).toNat) (A := 0) (B := 5) rfl
 refine jx_iald c1 hm rfl sh_24 ⟨by omega, by omega⟩ k2 ?_
 refine jy_bp c1 hm rfl (by decide) ?_
 refine jy_mul c1 hm (6 * z1) rfl (by omega) ?_
 refine jx_load c1 hm rfl rfl rfl rfl ?_
 refine jx_getr c1 hm rfl sh_23 rfl ?_
 refine jx_load c1 hm rfl rfl rfl rfl ?_
 refine jy_ic c1 hm rfl (by decide) ?_
 refine jy_add c1 hm (a0 + 1) rfl (by omega) ?_
 refine jx_load c1 hm rfl rfl rfl rfl ?_
 obtain ⟨z3, k4, lz3, uz3⟩ := hH0.ld (c := 23) (i := 1) (A := 0) (B := 6) (bs_22_1 _ _ (by omega) (by omega))
 refine jx_geti c1 hm rfl sh_23 rfl k4 ?_
 refine jc_ge c1 hm 29 rfl rfl (fun h5 => ?_) (fun h5 => ?_)
 ·
  refine jy_ic c1 hm rfl (by decide) ?_
  obtain ⟨z6, k7, lz6, uz6⟩ := hH0.ld (c := 24) (i := 0) (A := 0) (B := 5) rfl
  refine jx_iald c1 hm rfl sh_24 ⟨by omega, by omega⟩ k7 ?_
  refine jy_add c1 hm (6 * z1 + z6) rfl (by omega) ?_
  exact jx_reti c2 hm rfl rfl ⟨_, rfl, rfl, by omega, by omega⟩
 refine jx_load c1 hm rfl rfl rfl rfl ?_
 refine jy_ic c1 hm rfl (by decide) ?_
 refine jy_add c1 hm (a0 + 1) rfl (by omega) ?_
 refine jx_goto c1 hm 30 rfl rfl ?_
 obtain ⟨z8, k9, lz8, uz8⟩ := hH0.ld (c := 24) (i := ((a0 + 1)).toNat) (A := 0) (B := 5) rfl
 refine jx_iald c1 hm rfl sh_24 ⟨by omega, by omega⟩ k9 ?_
 refine jy_add c1 hm (6 * z1 + z8) rfl (by omega) ?_
 exact jx_reti c2 hm rfl rfl ⟨_, rfl, rfl, by omega, by omega⟩
def md_X6_strikeFrom_23_12 : List (Nat × (Nat × Nat)) := [(17, (0, 35))]
theorem ct_X6_strikeFrom_23_12 (X : Int) (hX : 0 ≤ X ∧ X ≤ 100000000) (M0 : JM) (hH0 : HI X M0)  : JOk shp PJ 2 248 [.inr (.inr (.inl 23)), .inr (.inr (.inl 12))] M0 (jRi (fun v M' => HI X M' ∧ Fr md_X6_strikeFrom_23_12 M0 M' ∧ (-2147483648) ≤ v ∧ v ≤ 2147483647 )) := by
 refine ⟨jr_X6_strikeFrom, pj_X6_strikeFrom, fun F c1 c2 c3 => ?_⟩
 have hm := pj_X6_strikeFrom
 change F 0 [some (.inr (.inr (.inl 23))), some (.inr (.inr (.inl 12))), none, none, none] [] M0
 have hF0 : Fr md_X6_strikeFrom_23_12 M0 M0 := Fr.rf _ _
 refine jy_ic c1 hm rfl (by decide) ?_
 refine jx_stor c1 hm (L' := [some (.inr (.inr (.inl 23))), some (.inr (.inr (.inl 12))), some (.inl 0), none, none]) rfl rfl rfl rfl rfl ?_
 refine jy_ic c1 hm rfl (by decide) ?_
 refine jx_stor c1 hm (L' := [some (.inr (.inr (.inl 23))), some (.inr (.inr (.inl 12))), some (.inl 0), some (.inl 0), none]) rfl rfl rfl rfl rfl ?_
 have W4 : ∀ (n5 : Nat) (b1 : Int) (hb1 : (-2147483648) ≤ b1 ∧ b1 ≤ 2147483647) (b2 : Int) (hb2 : 0 ≤ b2 ∧ b2 ≤ 6) (o3 : Option JV) (ho3 : o3 = none ∨ (∃ z, o3 = some (.inl z)) ∨ ∃ r, o3 = some (.inr (.inr r))), (-b2 + 6) < (n5 : Int) → F 4 [some (.inr (.inr (.inl 23))), some (.inr (.inr (.inl 12))), some (.inl b1), some (.inl b2), o3] [] M0 := by
  intro n5
  induction n5 with
  | zero => intros; omega
  | succ n5 ihW4 =>
   intro b1 hb1 b2 hb2 o3 ho3 hrW4
   refine jx_load c1 hm rfl rfl rfl rfl ?_
   refine jx_load c1 hm rfl rfl rfl rfl ?_
   obtain ⟨z6, k7, lz6, uz6⟩ := hH0.ld (c := 23) (i := 1) (A := 0) (B := 6) (bs_22_1 _ _ (by omega) (by omega))
   refine jx_geti c1 hm rfl sh_23 rfl k7 ?_
   refine jc_ge c1 hm 46 rfl rfl (fun h8 => ?_) (fun h8 => ?_)
   ·
    refine jy_ic c1 hm rfl (by decide) ?_
    refine jx_stor c1 hm (L' := [some (.inr (.inr (.inl 23))), some (.inr (.inr (.inl 12))), some (.inl b1), some (.inl 0), o3]) rfl rfl rfl rfl rfl ?_
    have W18 : ∀ (n19 : Nat) (b16 : Int) (hb16 : 0 ≤ b16 ∧ b16 ≤ 6) (M17 : JM) (hH17 : HI (X) M17) (hF17 : Fr md_X6_strikeFrom_23_12 M0 M17), (-b16 + 6) < (n19 : Int) → F 48 [some (.inr (.inr (.inl 23))), some (.inr (.inr (.inl 12))), some (.inl b1), some (.inl b16), o3] [] M17 := by
     intro n19
     induction n19 with
     | zero => intros; omega
     | succ n19 ihW18 =>
      intro b16 hb16 M17 hH17 hF17 hrW18
      refine jx_load c1 hm rfl rfl rfl rfl ?_
      refine jx_load c1 hm rfl rfl rfl rfl ?_
      obtain ⟨z20, k21, lz20, uz20⟩ := hH17.ld (c := 23) (i := 1) (A := 0) (B := 6) (bs_22_1 _ _ (by omega) (by omega))
      refine jx_geti c1 hm rfl sh_23 rfl k21 ?_
      refine jc_ge c1 hm 76 rfl rfl (fun h22 => ?_) (fun h22 => ?_)
      ·
       refine jx_load c1 hm rfl rfl rfl rfl ?_
       exact jx_reti c2 hm rfl rfl ⟨_, rfl, hH17, hF17, by omega, by omega⟩
      refine jx_load c1 hm rfl rfl rfl rfl ?_
      refine jx_getr c1 hm rfl sh_12 rfl ?_
      refine jx_load c1 hm rfl rfl rfl rfl ?_
      refine jx_load c1 hm rfl rfl rfl rfl ?_
      refine jv_i c3 hm rfl pj_X6_pairAt rfl rfl ⟨_, _, _, rfl, sh_23⟩ rfl ((ct_X6_pairAt_23 X (by omega) M17 hH17 b16 ⟨by omega, by omega⟩).le (by decide)) (fun z23 _ ⟨rfl, lz23, uz23⟩ => ?_)
      refine jx_dup2 c1 hm rfl rfl rfl ?_
      obtain ⟨z24, k25, lz24, uz24⟩ := hH17.ld (c := 17) (i := (z23).toNat) (A := (-2147483648)) (B := 2147483647) rfl
      refine jx_iald c1 hm rfl sh_17 ⟨by omega, by omega⟩ k25 ?_
      refine jx_load c1 hm rfl rfl rfl rfl ?_
      refine jx_iopw c1 hm rfl rfl (fun z26 lz26 uz26 => ?_)
      obtain ⟨M27, e27, hH27, hF27, k27, n27, _⟩ := mup hH17 hF17 (c := 17) (i := (z23).toNat) (v := z26) (A := (-2147483648)) (B := 2147483647) rfl ⟨by omega, by omega⟩ (jin_of 0 rfl ⟨by omega, by omega⟩)
      refine jm_iast c1 hm rfl sh_17 ⟨by omega, by omega⟩ e27 ?_
      refine jx_iinc c1 hm (v := (b16 + 1)) (L' := [some (.inr (.inr (.inl 23))), some (.inr (.inr (.inl 12))), some (.inl b1), some (.inl (b16 + 1)), o3]) rfl rfl (by omega) (by omega) rfl ?_
      refine jx_goto c1 hm 48 rfl rfl ?_
      exact ihW18 (b16 + 1) (by omega) M27 hH27 hF27 (by omega)
    exact W18 (6 + 1 : Int).toNat 0 (by omega) M0 hH0 hF0 (by omega)
   refine jx_load c1 hm rfl rfl rfl rfl ?_
   refine jx_getr c1 hm rfl sh_12 rfl ?_
   refine jx_load c1 hm rfl rfl rfl rfl ?_
   refine jx_load c1 hm rfl rfl rfl rfl ?_
   refine jv_i c3 hm rfl pj_X6_pairAt rfl rfl ⟨_, _, _, rfl, sh_23⟩ rfl ((ct_X6_pairAt_23 X (by omega) M0 hH0 b2 ⟨by omega, by omega⟩).le (by decide)) (fun z9 _ ⟨rfl, lz9, uz9⟩ => ?_)
   obtain ⟨z10, k11, lz10, uz10⟩ := hH0.ld (c := 17) (i := (z9).toNat) (A := (-2147483648)) (B := 2147483647) rfl
   refine jx_iald c1 hm rfl sh_17 ⟨by omega, by omega⟩ k11 ?_
   refine jx_stor c1 hm (L' := [some (.inr (.inr (.inl 23))), some (.inr (.inr (.inl 12))), some (.inl b1), some (.inl b2), some (.inl z10)]) rfl rfl rfl rfl rfl ?_
   refine jx_load c1 hm rfl rfl rfl rfl ?_
   have J15 : ∀ (b14 : Int) (hb14 : (-2147483648) ≤ b14 ∧ b14 ≤ 2147483647), F 39 [some (.inr (.inr (.inl 23))), some (.inr (.inr (.inl 12))), some (.inl b1), some (.inl b2), some (.inl z10)] [.inl b14] M0 := by
    intro b14 hb14
    refine jx_stor c1 hm (L' := [some (.inr (.inr (.inl 23))), some (.inr (.inr (.inl 12))), some (.inl b14), some (.inl b2), some (.inl z10)]) rfl rfl rfl rfl rfl ?_
    refine jx_iinc c1 hm (v := (b2 + 1)) (L' := [some (.inr (.inr (.inl 23))), some (.inr (.inr (.inl 12))), some (.inl b14), some (.inl (b2 + 1)), some (.inl z10)]) rfl rfl (by omega) (by omega) rfl ?_
    refine jx_goto c1 hm 4 rfl rfl ?_
    exact ihW4 b14 (by omega) (b2 + 1) (by omega) (some (.inl z10)) (Or.inr (Or.inl ⟨_, rfl⟩)) (by omega)
   refine jz_ne c1 hm 33 rfl rfl (fun h12 => ?_) (fun h12 => ?_)
   ·
    refine jx_load c1 hm rfl rfl rfl rfl ?_
    refine jx_load c1 hm rfl rfl rfl rfl ?_
    refine jx_min c1 hm rfl rfl (fun z13 lz13 uz13 ez13 => ?_)
    exact J15 z13 (by omega)
   refine jx_load c1 hm rfl rfl rfl rfl ?_
   refine jx_goto c1 hm 39 rfl rfl ?_
   exact J15 z10 (by omega)
 exact W4 (6 + 1 : Int).toNat 0 (by omega) 0 (by omega) none (Or.inl rfl) (by omega)
def md_X0_passWeeks_4_12 : List (Nat × (Nat × Nat)) := [(12, (7, 7)), (13, (0, 5))]
theorem ct_X0_passWeeks_4_12 (X : Int) (hX : 0 ≤ X ∧ X ≤ 100000000) (M0 : JM) (hH0 : HI X M0) (a0 : Int) (ha0 : 0 ≤ a0 ∧ a0 ≤ 99) : JOk shp PJ 2 10 [.inr (.inr (.inl 4)), .inr (.inr (.inl 12)), .inl a0] M0 (jRv (fun M' => HI X M' ∧ Fr md_X0_passWeeks_4_12 M0 M' )) := by
 refine ⟨jr_X0_passWeeks, pj_X0_passWeeks, fun F c1 c2 c3 => ?_⟩
 have hm := pj_X0_passWeeks
 change F 0 [some (.inr (.inr (.inl 4))), some (.inr (.inr (.inl 12))), some (.inl a0), none] [] M0
 have hF0 : Fr md_X0_passWeeks_4_12 M0 M0 := Fr.rf _ _
 refine jy_ic c1 hm rfl (by decide) ?_
 refine jx_stor c1 hm (L' := [some (.inr (.inr (.inl 4))), some (.inr (.inr (.inl 12))), some (.inl a0), some (.inl 0)]) rfl rfl rfl rfl rfl ?_
 have W3 : ∀ (n4 : Nat) (b1 : Int) (hb1 : 0 ≤ b1 ∧ b1 ≤ 6) (M2 : JM) (hH2 : HI (X) M2) (hF2 : Fr md_X0_passWeeks_4_12 M0 M2), (-b1 + 6) < (n4 : Int) → F 2 [some (.inr (.inr (.inl 4))), some (.inr (.inr (.inl 12))), some (.inl a0), some (.inl b1)] [] M2 := by
  intro n4
  induction n4 with
  | zero => intros; omega
  | succ n4 ihW3 =>
   intro b1 hb1 M2 hH2 hF2 hrW3
   refine jx_load c1 hm rfl rfl rfl rfl ?_
   refine jx_load c1 hm rfl rfl rfl rfl ?_
   refine jx_getr c1 hm rfl sh_4 rfl ?_
   refine jv_i c3 hm rfl pj_X2_men rfl rfl ⟨_, _, _, rfl, sh_5⟩ rfl ((ct_X2_men_5 X (by omega) M2 hH2 ).le (by decide)) (fun z5 _ ⟨rfl, lz5, uz5⟩ => ?_)
   refine jc_ge c1 hm 53 rfl rfl (fun h6 => ?_) (fun h6 => ?_)
   ·
    refine jx_load c1 hm rfl rfl rfl rfl ?_
    refine jx_dup c1 hm rfl rfl ?_
    obtain ⟨z17, k18, lz17, uz17⟩ := hH2.ld (c := 12) (i := 7) (A := (-2147483648)) (B := 2147483647) rfl
    refine jx_geti c1 hm rfl sh_12 rfl k18 ?_
    refine jx_load c1 hm rfl rfl rfl rfl ?_
    refine jx_iopw c1 hm rfl rfl (fun z19 lz19 uz19 => ?_)
    obtain ⟨M20, e20, hH20, hF20, k20, n20, _⟩ := mup hH2 hF2 (c := 12) (i := 7) (v := z19) (A := (-2147483648)) (B := 2147483647) rfl ⟨by omega, by omega⟩ (jin_of 0 rfl ⟨by omega, by omega⟩)
    refine jm_puti c1 hm rfl sh_12 rfl e20 ?_
    exact jx_retv c2 hm rfl rfl ⟨rfl, hH20, hF20⟩
   refine jx_load c1 hm rfl rfl rfl rfl ?_
   refine jx_getr c1 hm rfl sh_12 rfl ?_
   refine jx_load c1 hm rfl rfl rfl rfl ?_
   refine jx_load c1 hm rfl rfl rfl rfl ?_
   refine jx_getr c1 hm rfl sh_4 rfl ?_
   refine jx_getr c1 hm rfl sh_5 rfl ?_
   refine jx_load c1 hm rfl rfl rfl rfl ?_
   obtain ⟨z7, k8, lz7, uz7⟩ := hH2.ld (c := 8) (i := (b1).toNat) (A := 0) (B := 99) rfl
   refine jx_iald c1 hm rfl sh_8 ⟨by omega, by omega⟩ k8 ?_
   refine jx_load c1 hm rfl rfl rfl rfl ?_
   refine jx_getr c1 hm rfl sh_12 rfl ?_
   refine jx_load c1 hm rfl rfl rfl rfl ?_
   obtain ⟨z9, k10, lz9, uz9⟩ := hH2.ld (c := 13) (i := (b1).toNat) (A := (-2147483648)) (B := 2147483647) rfl
   refine jx_iald c1 hm rfl sh_13 ⟨by omega, by omega⟩ k10 ?_
   refine jx_load c1 hm rfl rfl rfl rfl ?_
   refine jx_load c1 hm rfl rfl rfl rfl ?_
   refine jx_getr c1 hm rfl sh_4 rfl ?_
   obtain ⟨z11, k12, lz11, uz11⟩ := hH2.ld (c := 5) (i := 7) (A := 0) (B := 9) (bs_20_1 _ _ (by omega) (by omega))
   refine jx_geti c1 hm rfl sh_5 rfl k12 ?_
   refine jy_mup c1 hm 99 9 891 rfl ⟨by omega, by omega, by omega, by omega⟩ (by decide) (fun z13 lz13 uz13 => ?_)
   refine jx_iopw c1 hm rfl rfl (fun z14 lz14 uz14 => ?_)
   refine jx_min c1 hm rfl rfl (fun z15 lz15 uz15 ez15 => ?_)
   obtain ⟨M16, e16, hH16, hF16, k16, n16, _⟩ := mup hH2 hF2 (c := 13) (i := (b1).toNat) (v := z15) (A := (-2147483648)) (B := 2147483647) rfl ⟨by omega, by omega⟩ (jin_of 1 rfl ⟨by omega, by omega⟩)
   refine jm_iast c1 hm rfl sh_13 ⟨by omega, by omega⟩ e16 ?_
   refine jx_iinc c1 hm (v := (b1 + 1)) (L' := [some (.inr (.inr (.inl 4))), some (.inr (.inr (.inl 12))), some (.inl a0), some (.inl (b1 + 1))]) rfl rfl (by omega) (by omega) rfl ?_
   refine jx_goto c1 hm 2 rfl rfl ?_
   exact ihW3 (b1 + 1) (by omega) M16 hH16 hF16 (by omega)
 exact W3 (6 + 1 : Int).toNat 0 (by omega) M0 hH0 hF0 (by omega)
def md_X0_perform_4_12 : List (Nat × (Nat × Nat)) := [(12, (7, 7)), (13, (0, 5)), (14, (0, 5)), (15, (0, 5)), (16, (0, 5)), (17, (0, 35)), (18, (0, 35)), (19, (0, 35))]
theorem ct_X0_perform_4_12 (X : Int) (hX : 0 ≤ X ∧ X ≤ 99999999) (M0 : JM) (hH0 : HI X M0) (a0 : Int) (ha0 : 0 ≤ a0 ∧ a0 ≤ 5) (a1 : Int) (ha1 : 0 ≤ a1 ∧ a1 ≤ 5) (a2 : Int) (ha2 : 0 ≤ a2 ∧ a2 ≤ 5) (a3 : Int) (ha3 : 0 ≤ a3 ∧ a3 ≤ 99) : JOk shp PJ 4 11 [.inr (.inr (.inl 4)), .inr (.inr (.inl 12)), .inl a0, .inl a1, .inl a2, .inl a3] M0 (jRi (fun v M' => HI (X + 1) M' ∧ Fr md_X0_perform_4_12 M0 M' ∧ (-2147483648) ≤ v ∧ v ≤ 2147483647 )) := by
 refine ⟨jr_X0_perform, pj_X0_perform, fun F c1 c2 c3 => ?_⟩
 have hm := pj_X0_perform
 change F 0 [some (.inr (.inr (.inl 4))), some (.inr (.inr (.inl 12))), some (.inl a0), some (.inl a1), some (.inl a2), some (.inl a3)] [] M0
 have hF0 : Fr md_X0_perform_4_12 M0 M0 := Fr.rf _ _
 refine jx_load c1 hm rfl rfl rfl rfl ?_
 by_cases h1 : a0 = 0
 ·
  refine jx_tswI c1 hm 36 rfl ⟨by omega, by omega⟩ (by rw [h1] <;> rfl) rfl ?_
  refine jx_load c1 hm rfl rfl rfl rfl ?_
  refine jx_load c1 hm rfl rfl rfl rfl ?_
  refine jx_load c1 hm rfl rfl rfl rfl ?_
  refine jx_load c1 hm rfl rfl rfl rfl ?_
  refine jv_i c3 hm rfl pj_X0_doForfeit rfl rfl ⟨_, _, _, rfl, sh_4⟩ rfl ((ct_X0_doForfeit_4_12 X (by omega) M0 hH0 a1 ⟨by omega, by omega⟩ a2 ⟨by omega, by omega⟩).le (by decide)) (fun z2 M3 ⟨hH3, hR3, lz2, uz2⟩ => ?_)
  have hF3 := hF0.tr hR3 (by decide +kernel)
  exact jx_reti c2 hm rfl rfl ⟨_, rfl, hH3, hF3, by omega, by omega⟩
 by_cases h4 : a0 = 1
 ·
  refine jx_tswI c1 hm 45 rfl ⟨by omega, by omega⟩ (by rw [h4] <;> rfl) rfl ?_
  refine jx_load c1 hm rfl rfl rfl rfl ?_
  refine jx_getr c1 hm rfl sh_12 rfl ?_
  refine jx_load c1 hm rfl rfl rfl rfl ?_
  refine jx_dup2 c1 hm rfl rfl rfl ?_
  obtain ⟨z5, k6, lz5, uz5⟩ := hH0.ld (c := 14) (i := (a1).toNat) (A := (-2147483648)) (B := 2147483647) rfl
  refine jx_iald c1 hm rfl sh_14 ⟨by omega, by omega⟩ k6 ?_
  refine jx_load c1 hm rfl rfl rfl rfl ?_
  refine jx_getr c1 hm rfl sh_4 rfl ?_
  refine jx_getr c1 hm rfl sh_5 rfl ?_
  refine jx_load c1 hm rfl rfl rfl rfl ?_
  obtain ⟨z7, k8, lz7, uz7⟩ := hH0.ld (c := 11) (i := (a2).toNat) (A := 0) (B := 99) rfl
  refine jx_iald c1 hm rfl sh_11 ⟨by omega, by omega⟩ k8 ?_
  refine jx_iopw c1 hm rfl rfl (fun z9 lz9 uz9 => ?_)
  obtain ⟨M10, e10, hH10, hF10, k10, n10, _⟩ := mup hH0 hF0 (c := 14) (i := (a1).toNat) (v := z9) (A := (-2147483648)) (B := 2147483647) rfl ⟨by omega, by omega⟩ (jin_of 2 rfl ⟨by omega, by omega⟩)
  refine jm_iast c1 hm rfl sh_14 ⟨by omega, by omega⟩ e10 ?_
  refine jx_load c1 hm rfl rfl rfl rfl ?_
  refine jx_getr c1 hm rfl sh_12 rfl ?_
  refine jx_load c1 hm rfl rfl rfl rfl ?_
  refine jx_dup2 c1 hm rfl rfl rfl ?_
  obtain ⟨z11, k12, lz11, uz11⟩ := hH10.ld (c := 16) (i := (a2).toNat) (A := (-2147483648)) (B := 2147483647) rfl
  refine jx_iald c1 hm rfl sh_16 ⟨by omega, by omega⟩ k12 ?_
  refine jy_ic c1 hm rfl (by decide) ?_
  refine jx_iopw c1 hm rfl rfl (fun z13 lz13 uz13 => ?_)
  obtain ⟨M14, e14, hH14, hF14, k14, n14, _⟩ := mup hH10 hF10 (c := 16) (i := (a2).toNat) (v := z13) (A := (-2147483648)) (B := 2147483647) rfl ⟨by omega, by omega⟩ (jin_of 4 rfl ⟨by omega, by omega⟩)
  refine jm_iast c1 hm rfl sh_16 ⟨by omega, by omega⟩ e14 ?_
  refine jx_load c1 hm rfl rfl rfl rfl ?_
  refine jx_getr c1 hm rfl sh_12 rfl ?_
  refine jx_load c1 hm rfl rfl rfl rfl ?_
  refine jy_bp c1 hm rfl (by decide) ?_
  refine jy_mul c1 hm (6 * a1) rfl (by omega) ?_
  refine jx_load c1 hm rfl rfl rfl rfl ?_
  refine jy_add c1 hm (6 * a1 + a2) rfl (by omega) ?_
  refine jx_dup2 c1 hm rfl rfl rfl ?_
  obtain ⟨z15, k16, lz15, uz15⟩ := hH14.ld (c := 19) (i := ((6 * a1 + a2)).toNat) (A := (-2147483648)) (B := 2147483647) rfl
  refine jx_iald c1 hm rfl sh_19 ⟨by omega, by omega⟩ k16 ?_
  refine jy_ic c1 hm rfl (by decide) ?_
  refine jx_iopw c1 hm rfl rfl (fun z17 lz17 uz17 => ?_)
  obtain ⟨M18, e18, hH18, hF18, k18, n18, _⟩ := mup hH14 hF14 (c := 19) (i := ((6 * a1 + a2)).toNat) (v := z17) (A := (-2147483648)) (B := 2147483647) rfl ⟨by omega, by omega⟩ (jin_of 7 rfl ⟨by omega, by omega⟩)
  refine jm_iast c1 hm rfl sh_19 ⟨by omega, by omega⟩ e18 ?_
  refine jx_load c1 hm rfl rfl rfl rfl ?_
  exact jx_reti c2 hm rfl rfl ⟨_, rfl, (hH18.mono (by omega) (by omega)), hF18, by omega, by omega⟩
 by_cases h19 : a0 = 2
 ·
  refine jx_tswI c1 hm 94 rfl ⟨by omega, by omega⟩ (by rw [h19] <;> rfl) rfl ?_
  refine jx_load c1 hm rfl rfl rfl rfl ?_
  refine jx_getr c1 hm rfl sh_12 rfl ?_
  refine jx_load c1 hm rfl rfl rfl rfl ?_
  refine jx_dup2 c1 hm rfl rfl rfl ?_
  obtain ⟨z20, k21, lz20, uz20⟩ := hH0.ld (c := 14) (i := (a1).toNat) (A := (-2147483648)) (B := 2147483647) rfl
  refine jx_iald c1 hm rfl sh_14 ⟨by omega, by omega⟩ k21 ?_
  refine jx_load c1 hm rfl rfl rfl rfl ?_
  refine jx_iopw c1 hm rfl rfl (fun z22 lz22 uz22 => ?_)
  obtain ⟨M23, e23, hH23, hF23, k23, n23, _⟩ := mup hH0 hF0 (c := 14) (i := (a1).toNat) (v := z22) (A := (-2147483648)) (B := 2147483647) rfl ⟨by omega, by omega⟩ (jin_of 2 rfl ⟨by omega, by omega⟩)
  refine jm_iast c1 hm rfl sh_14 ⟨by omega, by omega⟩ e23 ?_
  refine jx_load c1 hm rfl rfl rfl rfl ?_
  refine jx_getr c1 hm rfl sh_12 rfl ?_
  refine jx_load c1 hm rfl rfl rfl rfl ?_
  refine jx_dup2 c1 hm rfl rfl rfl ?_
  obtain ⟨z24, k25, lz24, uz24⟩ := hH23.ld (c := 14) (i := (a2).toNat) (A := (-2147483648)) (B := 2147483647) rfl
  refine jx_iald c1 hm rfl sh_14 ⟨by omega, by omega⟩ k25 ?_
  refine jx_load c1 hm rfl rfl rfl rfl ?_
  refine jx_iopw c1 hm rfl rfl (fun z26 lz26 uz26 => ?_)
  obtain ⟨M27, e27, hH27, hF27, k27, n27, _⟩ := mup hH23 hF23 (c := 14) (i := (a2).toNat) (v := z26) (A := (-2147483648)) (B := 2147483647) rfl ⟨by omega, by omega⟩ (jin_of 2 rfl ⟨by omega, by omega⟩)
  refine jm_iast c1 hm rfl sh_14 ⟨by omega, by omega⟩ e27 ?_
  refine jx_load c1 hm rfl rfl rfl rfl ?_
  refine jx_getr c1 hm rfl sh_12 rfl ?_
  refine jx_load c1 hm rfl rfl rfl rfl ?_
  refine jy_bp c1 hm rfl (by decide) ?_
  refine jy_mul c1 hm (6 * a2) rfl (by omega) ?_
  refine jx_load c1 hm rfl rfl rfl rfl ?_
  refine jy_add c1 hm (a1 + 6 * a2) rfl (by omega) ?_
  refine jx_dup2 c1 hm rfl rfl rfl ?_
  obtain ⟨z28, k29, lz28, uz28⟩ := hH27.ld (c := 17) (i := ((a1 + 6 * a2)).toNat) (A := (-2147483648)) (B := 2147483647) rfl
  refine jx_iald c1 hm rfl sh_17 ⟨by omega, by omega⟩ k29 ?_
  refine jx_load c1 hm rfl rfl rfl rfl ?_
  refine jx_iopw c1 hm rfl rfl (fun z30 lz30 uz30 => ?_)
  obtain ⟨M31, e31, hH31, hF31, k31, n31, _⟩ := mup hH27 hF27 (c := 17) (i := ((a1 + 6 * a2)).toNat) (v := z30) (A := (-2147483648)) (B := 2147483647) rfl ⟨by omega, by omega⟩ (jin_of 5 rfl ⟨by omega, by omega⟩)
  refine jm_iast c1 hm rfl sh_17 ⟨by omega, by omega⟩ e31 ?_
  refine jx_load c1 hm rfl rfl rfl rfl ?_
  exact jx_reti c2 hm rfl rfl ⟨_, rfl, (hH31.mono (by omega) (by omega)), hF31, by omega, by omega⟩
 by_cases h32 : a0 = 3
 ·
  refine jx_tswI c1 hm 137 rfl ⟨by omega, by omega⟩ (by rw [h32] <;> rfl) rfl ?_
  refine jx_load c1 hm rfl rfl rfl rfl ?_
  refine jx_getr c1 hm rfl sh_12 rfl ?_
  refine jx_load c1 hm rfl rfl rfl rfl ?_
  refine jx_dup2 c1 hm rfl rfl rfl ?_
  obtain ⟨z33, k34, lz33, uz33⟩ := hH0.ld (c := 14) (i := (a1).toNat) (A := (-2147483648)) (B := 2147483647) rfl
  refine jx_iald c1 hm rfl sh_14 ⟨by omega, by omega⟩ k34 ?_
  refine jx_load c1 hm rfl rfl rfl rfl ?_
  refine jx_iopw c1 hm rfl rfl (fun z35 lz35 uz35 => ?_)
  obtain ⟨M36, e36, hH36, hF36, k36, n36, _⟩ := mup hH0 hF0 (c := 14) (i := (a1).toNat) (v := z35) (A := (-2147483648)) (B := 2147483647) rfl ⟨by omega, by omega⟩ (jin_of 2 rfl ⟨by omega, by omega⟩)
  refine jm_iast c1 hm rfl sh_14 ⟨by omega, by omega⟩ e36 ?_
  refine jx_load c1 hm rfl rfl rfl rfl ?_
  refine jx_getr c1 hm rfl sh_12 rfl ?_
  refine jx_load c1 hm rfl rfl rfl rfl ?_
  refine jx_dup2 c1 hm rfl rfl rfl ?_
  obtain ⟨z37, k38, lz37, uz37⟩ := hH36.ld (c := 14) (i := (a2).toNat) (A := (-2147483648)) (B := 2147483647) rfl
  refine jx_iald c1 hm rfl sh_14 ⟨by omega, by omega⟩ k38 ?_
  refine jx_load c1 hm rfl rfl rfl rfl ?_
  refine jx_iopw c1 hm rfl rfl (fun z39 lz39 uz39 => ?_)
  obtain ⟨M40, e40, hH40, hF40, k40, n40, _⟩ := mup hH36 hF36 (c := 14) (i := (a2).toNat) (v := z39) (A := (-2147483648)) (B := 2147483647) rfl ⟨by omega, by omega⟩ (jin_of 2 rfl ⟨by omega, by omega⟩)
  refine jm_iast c1 hm rfl sh_14 ⟨by omega, by omega⟩ e40 ?_
  refine jx_load c1 hm rfl rfl rfl rfl ?_
  refine jx_getr c1 hm rfl sh_12 rfl ?_
  refine jx_load c1 hm rfl rfl rfl rfl ?_
  refine jy_bp c1 hm rfl (by decide) ?_
  refine jy_mul c1 hm (6 * a1) rfl (by omega) ?_
  refine jx_load c1 hm rfl rfl rfl rfl ?_
  refine jy_add c1 hm (6 * a1 + a2) rfl (by omega) ?_
  refine jx_dup2 c1 hm rfl rfl rfl ?_
  obtain ⟨z41, k42, lz41, uz41⟩ := hH40.ld (c := 17) (i := ((6 * a1 + a2)).toNat) (A := (-2147483648)) (B := 2147483647) rfl
  refine jx_iald c1 hm rfl sh_17 ⟨by omega, by omega⟩ k42 ?_
  refine jx_load c1 hm rfl rfl rfl rfl ?_
  refine jx_iopw c1 hm rfl rfl (fun z43 lz43 uz43 => ?_)
  obtain ⟨M44, e44, hH44, hF44, k44, n44, _⟩ := mup hH40 hF40 (c := 17) (i := ((6 * a1 + a2)).toNat) (v := z43) (A := (-2147483648)) (B := 2147483647) rfl ⟨by omega, by omega⟩ (jin_of 5 rfl ⟨by omega, by omega⟩)
  refine jm_iast c1 hm rfl sh_17 ⟨by omega, by omega⟩ e44 ?_
  refine jx_load c1 hm rfl rfl rfl rfl ?_
  exact jx_reti c2 hm rfl rfl ⟨_, rfl, (hH44.mono (by omega) (by omega)), hF44, by omega, by omega⟩
 by_cases h45 : a0 = 4
 ·
  refine jx_tswI c1 hm 180 rfl ⟨by omega, by omega⟩ (by rw [h45] <;> rfl) rfl ?_
  refine jx_load c1 hm rfl rfl rfl rfl ?_
  refine jx_getr c1 hm rfl sh_4 rfl ?_
  refine jx_load c1 hm rfl rfl rfl rfl ?_
  refine jv_i c3 hm rfl pj_X6_strikeFrom rfl rfl ⟨_, _, _, rfl, sh_23⟩ rfl ((ct_X6_strikeFrom_23_12 X (by omega) M0 hH0 ).le (by decide)) (fun z46 M47 ⟨hH47, hR47, lz46, uz46⟩ => ?_)
  have hF47 := hF0.tr hR47 (by decide +kernel)
  exact jx_reti c2 hm rfl rfl ⟨_, rfl, (hH47.mono (by omega) (by omega)), hF47, by omega, by omega⟩
 refine jx_tswO c1 hm 189 rfl (by omega) rfl ?_
 refine jx_load c1 hm rfl rfl rfl rfl ?_
 refine jx_load c1 hm rfl rfl rfl rfl ?_
 refine jx_load c1 hm rfl rfl rfl rfl ?_
 refine jv_v c3 hm rfl pj_X0_passWeeks rfl rfl ⟨_, _, _, rfl, sh_4⟩ rfl ((ct_X0_passWeeks_4_12 X (by omega) M0 hH0 a3 ⟨by omega, by omega⟩).le (by decide)) (fun M48 ⟨hH48, hR48⟩ => ?_)
 have hF48 := hF0.tr hR48 (by decide +kernel)
 refine jx_load c1 hm rfl rfl rfl rfl ?_
 exact jx_reti c2 hm rfl rfl ⟨_, rfl, (hH48.mono (by omega) (by omega)), hF48, by omega, by omega⟩
def md_X11_done_0 : List (Nat × (Nat × Nat)) := [(12, (7, 7)), (13, (0, 5)), (14, (0, 5)), (15, (0, 5)), (16, (0, 5)), (17, (0, 35)), (18, (0, 35)), (19, (0, 35)), (55, (1, 1)), (55, (2, 2)), (57, (7, 7)), (58, (0, 5)), (59, (0, 5)), (60, (0, 5)), (61, (0, 5)), (62, (0, 35)), (63, (0, 35)), (64, (0, 35)), (65, (7, 7)), (66, (0, 5)), (67, (0, 5)), (68, (0, 5)), (69, (0, 5)), (70, (0, 35)), (71, (0, 35)), (72, (0, 35)), (73, (7, 7)), (74, (0, 5)), (75, (0, 5)), (76, (0, 5)), (77, (0, 5)), (78, (0, 35)), (79, (0, 35)), (80, (0, 35)), (81, (7, 7)), (82, (0, 5)), (83, (0, 5)), (84, (0, 5)), (85, (0, 5)), (86, (0, 35)), (87, (0, 35)), (88, (0, 35)), (89, (7, 7)), (90, (0, 5)), (91, (0, 5)), (92, (0, 5)), (93, (0, 5)), (94, (0, 35)), (95, (0, 35)), (96, (0, 35)), (97, (7, 7)), (98, (0, 5)), (99, (0, 5)), (100, (0, 5)), (101, (0, 5)), (102, (0, 35)), (103, (0, 35)), (104, (0, 35)), (105, (7, 7)), (106, (0, 5)), (107, (0, 5)), (108, (0, 5)), (109, (0, 5)), (110, (0, 35)), (111, (0, 35)), (112, (0, 35)), (113, (7, 7)), (114, (0, 5)), (115, (0, 5)), (116, (0, 5)), (117, (0, 5)), (118, (0, 35)), (119, (0, 35)), (120, (0, 35))]
theorem ct_X11_done_0 (X : Int) (hX : 0 ≤ X ∧ X ≤ 99999999) (M0 : JM) (hH0 : HI X M0) (a0 : Int) (ha0 : 0 ≤ a0 ∧ a0 ≤ 5) (a1 : Int) (ha1 : 0 ≤ a1 ∧ a1 ≤ 5) (a2 : Int) (ha2 : 0 ≤ a2 ∧ a2 ≤ 5) (a3 : Int) (ha3 : 0 ≤ a3 ∧ a3 ≤ 99) : JOk shp PJ 5 32 [.inr (.inr (.inl 0)), .inl a0, .inl a1, .inl a2, .inl a3] M0 (jRi (fun v M' => HI (X + 1) M' ∧ Fr md_X11_done_0 M0 M' ∧ (-2147483648) ≤ v ∧ v ≤ 2147483647 )) := by
 refine ⟨jr_X11_done, pj_X11_done, fun F c1 c2 c3 => ?_⟩
 have hm := pj_X11_done
 change F 0 [some (.inr (.inr (.inl 0))), some (.inl a0), some (.inl a1), some (.inl a2), some (.inl a3)] [] M0
 have hF0 : Fr md_X11_done_0 M0 M0 := Fr.rf _ _
 refine jx_load c1 hm rfl rfl rfl rfl ?_
 refine jx_getr c1 hm rfl sh_0 rfl ?_
 refine jx_load c1 hm rfl rfl rfl rfl ?_
 refine jx_getr c1 hm rfl sh_0 rfl ?_
 refine jx_getr c1 hm rfl sh_5 rfl ?_
 refine jv_v c3 hm rfl pj_X4_keep rfl rfl ⟨_, _, _, rfl, sh_55⟩ rfl ((ct_X4_keep_55_12 X (by omega) M0 hH0 ).le (by decide)) (fun M1 ⟨hH1, hR1⟩ => ?_)
 have hF1 := hF0.tr hR1 (by decide +kernel)
 refine jx_load c1 hm rfl rfl rfl rfl ?_
 refine jx_getr c1 hm rfl sh_0 rfl ?_
 refine jx_load c1 hm rfl rfl rfl rfl ?_
 refine jx_getr c1 hm rfl sh_0 rfl ?_
 refine jx_getr c1 hm rfl sh_5 rfl ?_
 refine jx_load c1 hm rfl rfl rfl rfl ?_
 refine jx_load c1 hm rfl rfl rfl rfl ?_
 refine jx_load c1 hm rfl rfl rfl rfl ?_
 refine jx_load c1 hm rfl rfl rfl rfl ?_
 refine jv_i c3 hm rfl pj_X0_perform rfl rfl ⟨_, _, _, rfl, sh_4⟩ rfl ((ct_X0_perform_4_12 X (by omega) M1 hH1 a0 ⟨by omega, by omega⟩ a1 ⟨by omega, by omega⟩ a2 ⟨by omega, by omega⟩ a3 ⟨by omega, by omega⟩).le (by decide)) (fun z2 M3 ⟨hH3, hR3, lz2, uz2⟩ => ?_)
 have hF3 := hF1.tr hR3 (by decide +kernel)
 exact jx_reti c2 hm rfl rfl ⟨_, rfl, hH3, hF3, by omega, by omega⟩
def md_X11_forfeit_0 : List (Nat × (Nat × Nat)) := [(12, (7, 7)), (13, (0, 5)), (14, (0, 5)), (15, (0, 5)), (16, (0, 5)), (17, (0, 35)), (18, (0, 35)), (19, (0, 35)), (23, (1, 1)), (24, (0, 5)), (55, (1, 1)), (55, (2, 2)), (57, (7, 7)), (58, (0, 5)), (59, (0, 5)), (60, (0, 5)), (61, (0, 5)), (62, (0, 35)), (63, (0, 35)), (64, (0, 35)), (65, (7, 7)), (66, (0, 5)), (67, (0, 5)), (68, (0, 5)), (69, (0, 5)), (70, (0, 35)), (71, (0, 35)), (72, (0, 35)), (73, (7, 7)), (74, (0, 5)), (75, (0, 5)), (76, (0, 5)), (77, (0, 5)), (78, (0, 35)), (79, (0, 35)), (80, (0, 35)), (81, (7, 7)), (82, (0, 5)), (83, (0, 5)), (84, (0, 5)), (85, (0, 5)), (86, (0, 35)), (87, (0, 35)), (88, (0, 35)), (89, (7, 7)), (90, (0, 5)), (91, (0, 5)), (92, (0, 5)), (93, (0, 5)), (94, (0, 35)), (95, (0, 35)), (96, (0, 35)), (97, (7, 7)), (98, (0, 5)), (99, (0, 5)), (100, (0, 5)), (101, (0, 5)), (102, (0, 35)), (103, (0, 35)), (104, (0, 35)), (105, (7, 7)), (106, (0, 5)), (107, (0, 5)), (108, (0, 5)), (109, (0, 5)), (110, (0, 35)), (111, (0, 35)), (112, (0, 35)), (113, (7, 7)), (114, (0, 5)), (115, (0, 5)), (116, (0, 5)), (117, (0, 5)), (118, (0, 35)), (119, (0, 35)), (120, (0, 35))]
theorem ct_X11_forfeit_0 (X : Int) (hX : 0 ≤ X ∧ X ≤ 99999999) (M0 : JM) (hH0 : HI X M0) (a0 : Int) (ha0 : (-2147483648) ≤ a0 ∧ a0 ≤ 2147483647) (a1 : Int) (ha1 : (-2147483648) ≤ a1 ∧ a1 ≤ 2147483647) : JOk shp PJ 11 41 [.inr (.inr (.inl 0)), .inl a0, .inl a1] M0 (jRi (fun v M' => HI (X + 1) M' ∧ Fr md_X11_forfeit_0 M0 M' ∧ (-2147483648) ≤ v ∧ v ≤ 2147483647 )) := by
 refine ⟨jr_X11_forfeit, pj_X11_forfeit, fun F c1 c2 c3 => ?_⟩
 have hm := pj_X11_forfeit
 change F 0 [some (.inr (.inr (.inl 0))), some (.inl a0), some (.inl a1), none] [] M0
 have hF0 : Fr md_X11_forfeit_0 M0 M0 := Fr.rf _ _
 refine jx_load c1 hm rfl rfl rfl rfl ?_
 refine jx_getr c1 hm rfl sh_0 rfl ?_
 refine jy_ic c1 hm rfl (by decide) ?_
 refine jx_load c1 hm rfl rfl rfl rfl ?_
 refine jv_i c3 hm rfl pj_X2_has rfl rfl ⟨_, _, _, rfl, sh_5⟩ rfl ((ct_X2_has_5 X (by omega) M0 hH0 0 ⟨by omega, by omega⟩ a0 ⟨by omega, by omega⟩).le (by decide)) (fun z1 _ ⟨rfl, lz1, uz1, p2⟩ => ?_)
 refine jz_eq c1 hm 24 rfl rfl (fun h3 => ?_) (fun h3 => ?_)
 ·
  refine jy_ic c1 hm rfl (by decide) ?_
  exact jx_reti c2 hm rfl rfl ⟨_, rfl, (hH0.mono (by omega) (by omega)), hF0, by omega, by omega⟩
 refine jx_load c1 hm rfl rfl rfl rfl ?_
 refine jx_getr c1 hm rfl sh_0 rfl ?_
 refine jy_ic c1 hm rfl (by decide) ?_
 refine jx_load c1 hm rfl rfl rfl rfl ?_
 refine jv_i c3 hm rfl pj_X2_has rfl rfl ⟨_, _, _, rfl, sh_5⟩ rfl ((ct_X2_has_5 X (by omega) M0 hH0 1 ⟨by omega, by omega⟩ a1 ⟨by omega, by omega⟩).le (by decide)) (fun z4 _ ⟨rfl, lz4, uz4, p5⟩ => ?_)
 refine jz_ne c1 hm 26 rfl rfl (fun h6 => ?_) (fun h6 => ?_)
 ·
  refine jx_load c1 hm rfl rfl rfl rfl ?_
  refine jx_getr c1 hm rfl sh_0 rfl ?_
  refine jx_load c1 hm rfl rfl rfl rfl ?_
  refine jx_getr c1 hm rfl sh_0 rfl ?_
  refine jx_getr c1 hm rfl sh_5 rfl ?_
  refine jy_ic c1 hm rfl (by decide) ?_
  refine jx_load c1 hm rfl rfl rfl rfl ?_
  refine jx_load c1 hm rfl rfl rfl rfl ?_
  refine jy_ic c1 hm rfl (by decide) ?_
  refine jv_i c3 hm rfl pj_X0_whyNot rfl rfl ⟨_, _, _, rfl, sh_4⟩ rfl ((ct_X0_whyNot_4_12 X (by omega) M0 hH0 0 ⟨by omega, by omega⟩ a0 ⟨by omega, by omega⟩ a1 ⟨by omega, by omega⟩ 0 ⟨by omega, by omega⟩).le (by decide)) (fun z7 M8 ⟨hH8, hR8, lz7, uz7⟩ => ?_)
  have hF8 := hF0.tr hR8 (by decide +kernel)
  refine jx_stor c1 hm (L' := [some (.inr (.inr (.inl 0))), some (.inl a0), some (.inl a1), some (.inl z7)]) rfl rfl rfl rfl rfl ?_
  refine jx_load c1 hm rfl rfl rfl rfl ?_
  refine jz_ne c1 hm 60 rfl rfl (fun h9 => ?_) (fun h9 => ?_)
  ·
   refine jy_ic c1 hm rfl (by decide) ?_
   refine jx_load c1 hm rfl rfl rfl rfl ?_
   refine jy_sub c1 hm (-z7 - 1) rfl (by omega) ?_
   exact jx_reti c2 hm rfl rfl ⟨_, rfl, (hH8.mono (by omega) (by omega)), hF8, by omega, by omega⟩
  refine jx_load c1 hm rfl rfl rfl rfl ?_
  refine jy_ic c1 hm rfl (by decide) ?_
  refine jx_load c1 hm rfl rfl rfl rfl ?_
  refine jx_load c1 hm rfl rfl rfl rfl ?_
  refine jy_ic c1 hm rfl (by decide) ?_
  refine jv_i c3 hm rfl pj_X11_done rfl rfl ⟨_, _, _, rfl, sh_0⟩ rfl ((ct_X11_done_0 X (by omega) M8 hH8 0 ⟨by omega, by omega⟩ a0 ⟨by omega, by omega⟩ a1 ⟨by omega, by omega⟩ 0 ⟨by omega, by omega⟩).le (by decide)) (fun z10 M11 ⟨hH11, hR11, lz10, uz10⟩ => ?_)
  have hF11 := hF8.tr hR11 (by decide +kernel)
  refine jx_goto c1 hm 63 rfl rfl ?_
  exact jx_reti c2 hm rfl rfl ⟨_, rfl, hH11, hF11, by omega, by omega⟩
 refine jy_ic c1 hm rfl (by decide) ?_
 exact jx_reti c2 hm rfl rfl ⟨_, rfl, (hH0.mono (by omega) (by omega)), hF0, by omega, by omega⟩
def md_X11_tried_0 : List (Nat × (Nat × Nat)) := [(12, (7, 7)), (13, (0, 5)), (14, (0, 5)), (15, (0, 5)), (16, (0, 5)), (17, (0, 35)), (18, (0, 35)), (19, (0, 35)), (23, (1, 1)), (24, (0, 5)), (55, (1, 1)), (55, (2, 2)), (57, (7, 7)), (58, (0, 5)), (59, (0, 5)), (60, (0, 5)), (61, (0, 5)), (62, (0, 35)), (63, (0, 35)), (64, (0, 35)), (65, (7, 7)), (66, (0, 5)), (67, (0, 5)), (68, (0, 5)), (69, (0, 5)), (70, (0, 35)), (71, (0, 35)), (72, (0, 35)), (73, (7, 7)), (74, (0, 5)), (75, (0, 5)), (76, (0, 5)), (77, (0, 5)), (78, (0, 35)), (79, (0, 35)), (80, (0, 35)), (81, (7, 7)), (82, (0, 5)), (83, (0, 5)), (84, (0, 5)), (85, (0, 5)), (86, (0, 35)), (87, (0, 35)), (88, (0, 35)), (89, (7, 7)), (90, (0, 5)), (91, (0, 5)), (92, (0, 5)), (93, (0, 5)), (94, (0, 35)), (95, (0, 35)), (96, (0, 35)), (97, (7, 7)), (98, (0, 5)), (99, (0, 5)), (100, (0, 5)), (101, (0, 5)), (102, (0, 35)), (103, (0, 35)), (104, (0, 35)), (105, (7, 7)), (106, (0, 5)), (107, (0, 5)), (108, (0, 5)), (109, (0, 5)), (110, (0, 35)), (111, (0, 35)), (112, (0, 35)), (113, (7, 7)), (114, (0, 5)), (115, (0, 5)), (116, (0, 5)), (117, (0, 5)), (118, (0, 35)), (119, (0, 35)), (120, (0, 35))]
theorem ct_X11_tried_0 (X : Int) (hX : 0 ≤ X ∧ X ≤ 99999999) (M0 : JM) (hH0 : HI X M0) (a0 : Int) (ha0 : 0 ≤ a0 ∧ a0 ≤ 3) (a1 : Int) (ha1 : 0 ≤ a1 ∧ a1 ≤ 5) (a2 : Int) (ha2 : 0 ≤ a2 ∧ a2 ≤ 5) (a3 : Int) (ha3 : 0 ≤ a3 ∧ a3 ≤ 99) : JOk shp PJ 11 74 [.inr (.inr (.inl 0)), .inl a0, .inl a1, .inl a2, .inl a3] M0 (jRi (fun v M' => HI (X + 1) M' ∧ Fr md_X11_tried_0 M0 M' ∧ 0 ≤ v ∧ v ≤ 2 )) := by
 refine ⟨jr_X11_tried, pj_X11_tried, fun F c1 c2 c3 => ?_⟩
 have hm := pj_X11_tried
 change F 0 [some (.inr (.inr (.inl 0))), some (.inl a0), some (.inl a1), some (.inl a2), some (.inl a3), none] [] M0
 have hF0 : Fr md_X11_tried_0 M0 M0 := Fr.rf _ _
 refine jx_load c1 hm rfl rfl rfl rfl ?_
 refine jx_getr c1 hm rfl sh_0 rfl ?_
 refine jx_load c1 hm rfl rfl rfl rfl ?_
 refine jx_getr c1 hm rfl sh_0 rfl ?_
 refine jx_getr c1 hm rfl sh_5 rfl ?_
 refine jx_load c1 hm rfl rfl rfl rfl ?_
 refine jx_load c1 hm rfl rfl rfl rfl ?_
 refine jx_load c1 hm rfl rfl rfl rfl ?_
 refine jx_load c1 hm rfl rfl rfl rfl ?_
 refine jv_i c3 hm rfl pj_X0_whyNot rfl rfl ⟨_, _, _, rfl, sh_4⟩ rfl ((ct_X0_whyNot_4_12 X (by omega) M0 hH0 a0 ⟨by omega, by omega⟩ a1 ⟨by omega, by omega⟩ a2 ⟨by omega, by omega⟩ a3 ⟨by omega, by omega⟩).le (by decide)) (fun z1 M2 ⟨hH2, hR2, lz1, uz1⟩ => ?_)
 have hF2 := hF0.tr hR2 (by decide +kernel)
 refine jx_stor c1 hm (L' := [some (.inr (.inr (.inl 0))), some (.inl a0), some (.inl a1), some (.inl a2), some (.inl a3), some (.inl z1)]) rfl rfl rfl rfl rfl ?_
 refine jx_load c1 hm rfl rfl rfl rfl ?_
 refine jz_ne c1 hm 36 rfl rfl (fun h3 => ?_) (fun h3 => ?_)
 ·
  refine jx_load c1 hm rfl rfl rfl rfl ?_
  exact jx_reti c2 hm rfl rfl ⟨_, rfl, (hH2.mono (by omega) (by omega)), hF2, by omega, by omega⟩
 refine jx_load c1 hm rfl rfl rfl rfl ?_
 refine jx_load c1 hm rfl rfl rfl rfl ?_
 refine jx_load c1 hm rfl rfl rfl rfl ?_
 refine jx_load c1 hm rfl rfl rfl rfl ?_
 refine jx_load c1 hm rfl rfl rfl rfl ?_
 refine jv_i c3 hm rfl pj_X11_done rfl rfl ⟨_, _, _, rfl, sh_0⟩ rfl ((ct_X11_done_0 X (by omega) M2 hH2 a0 ⟨by omega, by omega⟩ a1 ⟨by omega, by omega⟩ a2 ⟨by omega, by omega⟩ a3 ⟨by omega, by omega⟩).le (by decide)) (fun z4 M5 ⟨hH5, hR5, lz4, uz4⟩ => ?_)
 have hF5 := hF2.tr hR5 (by decide +kernel)
 refine jx_pop c1 hm rfl rfl ?_
 refine jx_load c1 hm rfl rfl rfl rfl ?_
 exact jx_reti c2 hm rfl rfl ⟨_, rfl, hH5, hF5, by omega, by omega⟩
def md_X11_buy_0 : List (Nat × (Nat × Nat)) := [(12, (7, 7)), (13, (0, 5)), (14, (0, 5)), (15, (0, 5)), (16, (0, 5)), (17, (0, 35)), (18, (0, 35)), (19, (0, 35)), (23, (1, 1)), (24, (0, 5)), (55, (1, 1)), (55, (2, 2)), (57, (7, 7)), (58, (0, 5)), (59, (0, 5)), (60, (0, 5)), (61, (0, 5)), (62, (0, 35)), (63, (0, 35)), (64, (0, 35)), (65, (7, 7)), (66, (0, 5)), (67, (0, 5)), (68, (0, 5)), (69, (0, 5)), (70, (0, 35)), (71, (0, 35)), (72, (0, 35)), (73, (7, 7)), (74, (0, 5)), (75, (0, 5)), (76, (0, 5)), (77, (0, 5)), (78, (0, 35)), (79, (0, 35)), (80, (0, 35)), (81, (7, 7)), (82, (0, 5)), (83, (0, 5)), (84, (0, 5)), (85, (0, 5)), (86, (0, 35)), (87, (0, 35)), (88, (0, 35)), (89, (7, 7)), (90, (0, 5)), (91, (0, 5)), (92, (0, 5)), (93, (0, 5)), (94, (0, 35)), (95, (0, 35)), (96, (0, 35)), (97, (7, 7)), (98, (0, 5)), (99, (0, 5)), (100, (0, 5)), (101, (0, 5)), (102, (0, 35)), (103, (0, 35)), (104, (0, 35)), (105, (7, 7)), (106, (0, 5)), (107, (0, 5)), (108, (0, 5)), (109, (0, 5)), (110, (0, 35)), (111, (0, 35)), (112, (0, 35)), (113, (7, 7)), (114, (0, 5)), (115, (0, 5)), (116, (0, 5)), (117, (0, 5)), (118, (0, 35)), (119, (0, 35)), (120, (0, 35))]
theorem ct_X11_buy_0 (X : Int) (hX : 0 ≤ X ∧ X ≤ 99999999) (M0 : JM) (hH0 : HI X M0) (a0 : Int) (ha0 : (-2147483648) ≤ a0 ∧ a0 ≤ 2147483647) (a1 : Int) (ha1 : (-2147483648) ≤ a1 ∧ a1 ≤ 2147483647) : JOk shp PJ 12 27 [.inr (.inr (.inl 0)), .inl a0, .inl a1] M0 (jRi (fun v M' => HI (X + 1) M' ∧ Fr md_X11_buy_0 M0 M' ∧ (-1) ≤ v ∧ v ≤ 2 )) := by
 refine ⟨jr_X11_buy, pj_X11_buy, fun F c1 c2 c3 => ?_⟩
 have hm := pj_X11_buy
 change F 0 [some (.inr (.inr (.inl 0))), some (.inl a0), some (.inl a1)] [] M0
 have hF0 : Fr md_X11_buy_0 M0 M0 := Fr.rf _ _
 refine jx_load c1 hm rfl rfl rfl rfl ?_
 refine jx_getr c1 hm rfl sh_0 rfl ?_
 refine jy_ic c1 hm rfl (by decide) ?_
 refine jx_load c1 hm rfl rfl rfl rfl ?_
 refine jv_i c3 hm rfl pj_X2_has rfl rfl ⟨_, _, _, rfl, sh_5⟩ rfl ((ct_X2_has_5 X (by omega) M0 hH0 0 ⟨by omega, by omega⟩ a0 ⟨by omega, by omega⟩).le (by decide)) (fun z1 _ ⟨rfl, lz1, uz1, p2⟩ => ?_)
 refine jz_eq c1 hm 24 rfl rfl (fun h3 => ?_) (fun h3 => ?_)
 ·
  refine jy_ic c1 hm rfl (by decide) ?_
  exact jx_reti c2 hm rfl rfl ⟨_, rfl, (hH0.mono (by omega) (by omega)), hF0, by omega, by omega⟩
 refine jx_load c1 hm rfl rfl rfl rfl ?_
 refine jx_getr c1 hm rfl sh_0 rfl ?_
 refine jy_ic c1 hm rfl (by decide) ?_
 refine jx_load c1 hm rfl rfl rfl rfl ?_
 refine jv_i c3 hm rfl pj_X2_has rfl rfl ⟨_, _, _, rfl, sh_5⟩ rfl ((ct_X2_has_5 X (by omega) M0 hH0 2 ⟨by omega, by omega⟩ a1 ⟨by omega, by omega⟩).le (by decide)) (fun z4 _ ⟨rfl, lz4, uz4, p5⟩ => ?_)
 refine jz_ne c1 hm 26 rfl rfl (fun h6 => ?_) (fun h6 => ?_)
 ·
  refine jx_load c1 hm rfl rfl rfl rfl ?_
  refine jy_ic c1 hm rfl (by decide) ?_
  refine jx_load c1 hm rfl rfl rfl rfl ?_
  refine jx_load c1 hm rfl rfl rfl rfl ?_
  refine jy_ic c1 hm rfl (by decide) ?_
  refine jv_i c3 hm rfl pj_X11_tried rfl rfl ⟨_, _, _, rfl, sh_0⟩ rfl ((ct_X11_tried_0 X (by omega) M0 hH0 1 ⟨by omega, by omega⟩ a0 ⟨by omega, by omega⟩ a1 ⟨by omega, by omega⟩ 0 ⟨by omega, by omega⟩).le (by decide)) (fun z7 M8 ⟨hH8, hR8, lz7, uz7⟩ => ?_)
  have hF8 := hF0.tr hR8 (by decide +kernel)
  exact jx_reti c2 hm rfl rfl ⟨_, rfl, hH8, hF8, by omega, by omega⟩
 refine jy_ic c1 hm rfl (by decide) ?_
 exact jx_reti c2 hm rfl rfl ⟨_, rfl, (hH0.mono (by omega) (by omega)), hF0, by omega, by omega⟩
def md_X11_triedBetween_0 : List (Nat × (Nat × Nat)) := [(12, (7, 7)), (13, (0, 5)), (14, (0, 5)), (15, (0, 5)), (16, (0, 5)), (17, (0, 35)), (18, (0, 35)), (19, (0, 35)), (23, (1, 1)), (24, (0, 5)), (55, (1, 1)), (55, (2, 2)), (57, (7, 7)), (58, (0, 5)), (59, (0, 5)), (60, (0, 5)), (61, (0, 5)), (62, (0, 35)), (63, (0, 35)), (64, (0, 35)), (65, (7, 7)), (66, (0, 5)), (67, (0, 5)), (68, (0, 5)), (69, (0, 5)), (70, (0, 35)), (71, (0, 35)), (72, (0, 35)), (73, (7, 7)), (74, (0, 5)), (75, (0, 5)), (76, (0, 5)), (77, (0, 5)), (78, (0, 35)), (79, (0, 35)), (80, (0, 35)), (81, (7, 7)), (82, (0, 5)), (83, (0, 5)), (84, (0, 5)), (85, (0, 5)), (86, (0, 35)), (87, (0, 35)), (88, (0, 35)), (89, (7, 7)), (90, (0, 5)), (91, (0, 5)), (92, (0, 5)), (93, (0, 5)), (94, (0, 35)), (95, (0, 35)), (96, (0, 35)), (97, (7, 7)), (98, (0, 5)), (99, (0, 5)), (100, (0, 5)), (101, (0, 5)), (102, (0, 35)), (103, (0, 35)), (104, (0, 35)), (105, (7, 7)), (106, (0, 5)), (107, (0, 5)), (108, (0, 5)), (109, (0, 5)), (110, (0, 35)), (111, (0, 35)), (112, (0, 35)), (113, (7, 7)), (114, (0, 5)), (115, (0, 5)), (116, (0, 5)), (117, (0, 5)), (118, (0, 35)), (119, (0, 35)), (120, (0, 35))]
theorem ct_X11_triedBetween_0 (X : Int) (hX : 0 ≤ X ∧ X ≤ 99999999) (M0 : JM) (hH0 : HI X M0) (a0 : Int) (ha0 : 2 ≤ a0 ∧ a0 ≤ 3) (a1 : Int) (ha1 : (-2147483648) ≤ a1 ∧ a1 ≤ 2147483647) (a2 : Int) (ha2 : (-2147483648) ≤ a2 ∧ a2 ≤ 2147483647) (a3 : Int) (ha3 : (-2147483648) ≤ a3 ∧ a3 ≤ 2147483647) : JOk shp PJ 12 75 [.inr (.inr (.inl 0)), .inl a0, .inl a1, .inl a2, .inl a3] M0 (jRi (fun v M' => HI (X + 1) M' ∧ Fr md_X11_triedBetween_0 M0 M' ∧ (-1) ≤ v ∧ v ≤ 2 )) := by
 refine ⟨jr_X11_triedBetween, pj_X11_triedBetween, fun F c1 c2 c3 => ?_⟩
 have hm := pj_X11_triedBetween
 change F 0 [some (.inr (.inr (.inl 0))), some (.inl a0), some (.inl a1), some (.inl a2), some (.inl a3)] [] M0
 have hF0 : Fr md_X11_triedBetween_0 M0 M0 := Fr.rf _ _
 refine jx_load c1 hm rfl rfl rfl rfl ?_
 refine jx_getr c1 hm rfl sh_0 rfl ?_
 refine jy_ic c1 hm rfl (by decide) ?_
 refine jx_load c1 hm rfl rfl rfl rfl ?_
 refine jv_i c3 hm rfl pj_X2_has rfl rfl ⟨_, _, _, rfl, sh_5⟩ rfl ((ct_X2_has_5 X (by omega) M0 hH0 0 ⟨by omega, by omega⟩ a1 ⟨by omega, by omega⟩).le (by decide)) (fun z1 _ ⟨rfl, lz1, uz1, p2⟩ => ?_)
 refine jz_eq c1 hm 37 rfl rfl (fun h3 => ?_) (fun h3 => ?_)
 ·
  refine jy_ic c1 hm rfl (by decide) ?_
  exact jx_reti c2 hm rfl rfl ⟨_, rfl, (hH0.mono (by omega) (by omega)), hF0, by omega, by omega⟩
 refine jx_load c1 hm rfl rfl rfl rfl ?_
 refine jx_getr c1 hm rfl sh_0 rfl ?_
 refine jy_ic c1 hm rfl (by decide) ?_
 refine jx_load c1 hm rfl rfl rfl rfl ?_
 refine jv_i c3 hm rfl pj_X2_has rfl rfl ⟨_, _, _, rfl, sh_5⟩ rfl ((ct_X2_has_5 X (by omega) M0 hH0 0 ⟨by omega, by omega⟩ a2 ⟨by omega, by omega⟩).le (by decide)) (fun z4 _ ⟨rfl, lz4, uz4, p5⟩ => ?_)
 refine jz_eq c1 hm 37 rfl rfl (fun h6 => ?_) (fun h6 => ?_)
 ·
  refine jy_ic c1 hm rfl (by decide) ?_
  exact jx_reti c2 hm rfl rfl ⟨_, rfl, (hH0.mono (by omega) (by omega)), hF0, by omega, by omega⟩
 refine jx_load c1 hm rfl rfl rfl rfl ?_
 refine jy_ic c1 hm rfl (by decide) ?_
 refine jc_lt c1 hm 37 rfl rfl (fun h7 => ?_) (fun h7 => ?_)
 ·
  refine jy_ic c1 hm rfl (by decide) ?_
  exact jx_reti c2 hm rfl rfl ⟨_, rfl, (hH0.mono (by omega) (by omega)), hF0, by omega, by omega⟩
 refine jx_load c1 hm rfl rfl rfl rfl ?_
 refine jy_bp c1 hm rfl (by decide) ?_
 refine jc_le c1 hm 39 rfl rfl (fun h8 => ?_) (fun h8 => ?_)
 ·
  refine jx_load c1 hm rfl rfl rfl rfl ?_
  refine jx_load c1 hm rfl rfl rfl rfl ?_
  refine jx_load c1 hm rfl rfl rfl rfl ?_
  refine jx_load c1 hm rfl rfl rfl rfl ?_
  refine jx_load c1 hm rfl rfl rfl rfl ?_
  refine jv_i c3 hm rfl pj_X11_tried rfl rfl ⟨_, _, _, rfl, sh_0⟩ rfl ((ct_X11_tried_0 X (by omega) M0 hH0 a0 ⟨by omega, by omega⟩ a1 ⟨by omega, by omega⟩ a2 ⟨by omega, by omega⟩ a3 ⟨by omega, by omega⟩).le (by decide)) (fun z9 M10 ⟨hH10, hR10, lz9, uz9⟩ => ?_)
  have hF10 := hF0.tr hR10 (by decide +kernel)
  exact jx_reti c2 hm rfl rfl ⟨_, rfl, hH10, hF10, by omega, by omega⟩
 refine jy_ic c1 hm rfl (by decide) ?_
 exact jx_reti c2 hm rfl rfl ⟨_, rfl, (hH0.mono (by omega) (by omega)), hF0, by omega, by omega⟩
def md_X11_lend_0 : List (Nat × (Nat × Nat)) := [(12, (7, 7)), (13, (0, 5)), (14, (0, 5)), (15, (0, 5)), (16, (0, 5)), (17, (0, 35)), (18, (0, 35)), (19, (0, 35)), (23, (1, 1)), (24, (0, 5)), (55, (1, 1)), (55, (2, 2)), (57, (7, 7)), (58, (0, 5)), (59, (0, 5)), (60, (0, 5)), (61, (0, 5)), (62, (0, 35)), (63, (0, 35)), (64, (0, 35)), (65, (7, 7)), (66, (0, 5)), (67, (0, 5)), (68, (0, 5)), (69, (0, 5)), (70, (0, 35)), (71, (0, 35)), (72, (0, 35)), (73, (7, 7)), (74, (0, 5)), (75, (0, 5)), (76, (0, 5)), (77, (0, 5)), (78, (0, 35)), (79, (0, 35)), (80, (0, 35)), (81, (7, 7)), (82, (0, 5)), (83, (0, 5)), (84, (0, 5)), (85, (0, 5)), (86, (0, 35)), (87, (0, 35)), (88, (0, 35)), (89, (7, 7)), (90, (0, 5)), (91, (0, 5)), (92, (0, 5)), (93, (0, 5)), (94, (0, 35)), (95, (0, 35)), (96, (0, 35)), (97, (7, 7)), (98, (0, 5)), (99, (0, 5)), (100, (0, 5)), (101, (0, 5)), (102, (0, 35)), (103, (0, 35)), (104, (0, 35)), (105, (7, 7)), (106, (0, 5)), (107, (0, 5)), (108, (0, 5)), (109, (0, 5)), (110, (0, 35)), (111, (0, 35)), (112, (0, 35)), (113, (7, 7)), (114, (0, 5)), (115, (0, 5)), (116, (0, 5)), (117, (0, 5)), (118, (0, 35)), (119, (0, 35)), (120, (0, 35))]
theorem ct_X11_lend_0 (X : Int) (hX : 0 ≤ X ∧ X ≤ 99999999) (M0 : JM) (hH0 : HI X M0) (a0 : Int) (ha0 : (-2147483648) ≤ a0 ∧ a0 ≤ 2147483647) (a1 : Int) (ha1 : (-2147483648) ≤ a1 ∧ a1 ≤ 2147483647) (a2 : Int) (ha2 : (-2147483648) ≤ a2 ∧ a2 ≤ 2147483647) : JOk shp PJ 13 46 [.inr (.inr (.inl 0)), .inl a0, .inl a1, .inl a2] M0 (jRi (fun v M' => HI (X + 1) M' ∧ Fr md_X11_lend_0 M0 M' ∧ (-1) ≤ v ∧ v ≤ 2 )) := by
 refine ⟨jr_X11_lend, pj_X11_lend, fun F c1 c2 c3 => ?_⟩
 have hm := pj_X11_lend
 change F 0 [some (.inr (.inr (.inl 0))), some (.inl a0), some (.inl a1), some (.inl a2)] [] M0
 have hF0 : Fr md_X11_lend_0 M0 M0 := Fr.rf _ _
 refine jx_load c1 hm rfl rfl rfl rfl ?_
 refine jy_ic c1 hm rfl (by decide) ?_
 refine jx_load c1 hm rfl rfl rfl rfl ?_
 refine jx_load c1 hm rfl rfl rfl rfl ?_
 refine jx_load c1 hm rfl rfl rfl rfl ?_
 refine jv_i c3 hm rfl pj_X11_triedBetween rfl rfl ⟨_, _, _, rfl, sh_0⟩ rfl ((ct_X11_triedBetween_0 X (by omega) M0 hH0 2 ⟨by omega, by omega⟩ a0 ⟨by omega, by omega⟩ a1 ⟨by omega, by omega⟩ a2 ⟨by omega, by omega⟩).le (by decide)) (fun z1 M2 ⟨hH2, hR2, lz1, uz1⟩ => ?_)
 have hF2 := hF0.tr hR2 (by decide +kernel)
 exact jx_reti c2 hm rfl rfl ⟨_, rfl, hH2, hF2, by omega, by omega⟩
def md_X11_repay_0 : List (Nat × (Nat × Nat)) := [(12, (7, 7)), (13, (0, 5)), (14, (0, 5)), (15, (0, 5)), (16, (0, 5)), (17, (0, 35)), (18, (0, 35)), (19, (0, 35)), (23, (1, 1)), (24, (0, 5)), (55, (1, 1)), (55, (2, 2)), (57, (7, 7)), (58, (0, 5)), (59, (0, 5)), (60, (0, 5)), (61, (0, 5)), (62, (0, 35)), (63, (0, 35)), (64, (0, 35)), (65, (7, 7)), (66, (0, 5)), (67, (0, 5)), (68, (0, 5)), (69, (0, 5)), (70, (0, 35)), (71, (0, 35)), (72, (0, 35)), (73, (7, 7)), (74, (0, 5)), (75, (0, 5)), (76, (0, 5)), (77, (0, 5)), (78, (0, 35)), (79, (0, 35)), (80, (0, 35)), (81, (7, 7)), (82, (0, 5)), (83, (0, 5)), (84, (0, 5)), (85, (0, 5)), (86, (0, 35)), (87, (0, 35)), (88, (0, 35)), (89, (7, 7)), (90, (0, 5)), (91, (0, 5)), (92, (0, 5)), (93, (0, 5)), (94, (0, 35)), (95, (0, 35)), (96, (0, 35)), (97, (7, 7)), (98, (0, 5)), (99, (0, 5)), (100, (0, 5)), (101, (0, 5)), (102, (0, 35)), (103, (0, 35)), (104, (0, 35)), (105, (7, 7)), (106, (0, 5)), (107, (0, 5)), (108, (0, 5)), (109, (0, 5)), (110, (0, 35)), (111, (0, 35)), (112, (0, 35)), (113, (7, 7)), (114, (0, 5)), (115, (0, 5)), (116, (0, 5)), (117, (0, 5)), (118, (0, 35)), (119, (0, 35)), (120, (0, 35))]
theorem ct_X11_repay_0 (X : Int) (hX : 0 ≤ X ∧ X ≤ 99999999) (M0 : JM) (hH0 : HI X M0) (a0 : Int) (ha0 : (-2147483648) ≤ a0 ∧ a0 ≤ 2147483647) (a1 : Int) (ha1 : (-2147483648) ≤ a1 ∧ a1 ≤ 2147483647) (a2 : Int) (ha2 : (-2147483648) ≤ a2 ∧ a2 ≤ 2147483647) : JOk shp PJ 13 59 [.inr (.inr (.inl 0)), .inl a0, .inl a1, .inl a2] M0 (jRi (fun v M' => HI (X + 1) M' ∧ Fr md_X11_repay_0 M0 M' ∧ (-1) ≤ v ∧ v ≤ 2 )) := by
 refine ⟨jr_X11_repay, pj_X11_repay, fun F c1 c2 c3 => ?_⟩
 have hm := pj_X11_repay
 change F 0 [some (.inr (.inr (.inl 0))), some (.inl a0), some (.inl a1), some (.inl a2)] [] M0
 have hF0 : Fr md_X11_repay_0 M0 M0 := Fr.rf _ _
 refine jx_load c1 hm rfl rfl rfl rfl ?_
 refine jy_ic c1 hm rfl (by decide) ?_
 refine jx_load c1 hm rfl rfl rfl rfl ?_
 refine jx_load c1 hm rfl rfl rfl rfl ?_
 refine jx_load c1 hm rfl rfl rfl rfl ?_
 refine jv_i c3 hm rfl pj_X11_triedBetween rfl rfl ⟨_, _, _, rfl, sh_0⟩ rfl ((ct_X11_triedBetween_0 X (by omega) M0 hH0 3 ⟨by omega, by omega⟩ a0 ⟨by omega, by omega⟩ a1 ⟨by omega, by omega⟩ a2 ⟨by omega, by omega⟩).le (by decide)) (fun z1 M2 ⟨hH2, hR2, lz1, uz1⟩ => ?_)
 have hF2 := hF0.tr hR2 (by decide +kernel)
 exact jx_reti c2 hm rfl rfl ⟨_, rfl, hH2, hF2, by omega, by omega⟩
def md_X11_strike_0 : List (Nat × (Nat × Nat)) := [(12, (7, 7)), (13, (0, 5)), (14, (0, 5)), (15, (0, 5)), (16, (0, 5)), (17, (0, 35)), (18, (0, 35)), (19, (0, 35)), (23, (1, 1)), (24, (0, 5)), (55, (1, 1)), (55, (2, 2)), (57, (7, 7)), (58, (0, 5)), (59, (0, 5)), (60, (0, 5)), (61, (0, 5)), (62, (0, 35)), (63, (0, 35)), (64, (0, 35)), (65, (7, 7)), (66, (0, 5)), (67, (0, 5)), (68, (0, 5)), (69, (0, 5)), (70, (0, 35)), (71, (0, 35)), (72, (0, 35)), (73, (7, 7)), (74, (0, 5)), (75, (0, 5)), (76, (0, 5)), (77, (0, 5)), (78, (0, 35)), (79, (0, 35)), (80, (0, 35)), (81, (7, 7)), (82, (0, 5)), (83, (0, 5)), (84, (0, 5)), (85, (0, 5)), (86, (0, 35)), (87, (0, 35)), (88, (0, 35)), (89, (7, 7)), (90, (0, 5)), (91, (0, 5)), (92, (0, 5)), (93, (0, 5)), (94, (0, 35)), (95, (0, 35)), (96, (0, 35)), (97, (7, 7)), (98, (0, 5)), (99, (0, 5)), (100, (0, 5)), (101, (0, 5)), (102, (0, 35)), (103, (0, 35)), (104, (0, 35)), (105, (7, 7)), (106, (0, 5)), (107, (0, 5)), (108, (0, 5)), (109, (0, 5)), (110, (0, 35)), (111, (0, 35)), (112, (0, 35)), (113, (7, 7)), (114, (0, 5)), (115, (0, 5)), (116, (0, 5)), (117, (0, 5)), (118, (0, 35)), (119, (0, 35)), (120, (0, 35))]
theorem ct_X11_strike_0 (X : Int) (hX : 0 ≤ X ∧ X ≤ 99999999) (M0 : JM) (hH0 : HI X M0)  : JOk shp PJ 11 67 [.inr (.inr (.inl 0))] M0 (jRi (fun v M' => HI (X + 1) M' ∧ Fr md_X11_strike_0 M0 M' ∧ (-2147483648) ≤ v ∧ v ≤ 2147483647 )) := by
 refine ⟨jr_X11_strike, pj_X11_strike, fun F c1 c2 c3 => ?_⟩
 have hm := pj_X11_strike
 change F 0 [some (.inr (.inr (.inl 0)))] [] M0
 have hF0 : Fr md_X11_strike_0 M0 M0 := Fr.rf _ _
 refine jx_load c1 hm rfl rfl rfl rfl ?_
 refine jx_getr c1 hm rfl sh_0 rfl ?_
 refine jx_load c1 hm rfl rfl rfl rfl ?_
 refine jx_getr c1 hm rfl sh_0 rfl ?_
 refine jx_getr c1 hm rfl sh_5 rfl ?_
 refine jy_ic c1 hm rfl (by decide) ?_
 refine jy_ic c1 hm rfl (by decide) ?_
 refine jy_ic c1 hm rfl (by decide) ?_
 refine jy_ic c1 hm rfl (by decide) ?_
 refine jv_i c3 hm rfl pj_X0_whyNot rfl rfl ⟨_, _, _, rfl, sh_4⟩ rfl ((ct_X0_whyNot_4_12 X (by omega) M0 hH0 4 ⟨by omega, by omega⟩ 0 ⟨by omega, by omega⟩ 0 ⟨by omega, by omega⟩ 0 ⟨by omega, by omega⟩).le (by decide)) (fun z1 M2 ⟨hH2, hR2, lz1, uz1⟩ => ?_)
 have hF2 := hF0.tr hR2 (by decide +kernel)
 refine jz_ne c1 hm 32 rfl rfl (fun h3 => ?_) (fun h3 => ?_)
 ·
  refine jy_ic c1 hm rfl (by decide) ?_
  exact jx_reti c2 hm rfl rfl ⟨_, rfl, (hH2.mono (by omega) (by omega)), hF2, by omega, by omega⟩
 refine jx_load c1 hm rfl rfl rfl rfl ?_
 refine jy_ic c1 hm rfl (by decide) ?_
 refine jy_ic c1 hm rfl (by decide) ?_
 refine jy_ic c1 hm rfl (by decide) ?_
 refine jy_ic c1 hm rfl (by decide) ?_
 refine jv_i c3 hm rfl pj_X11_done rfl rfl ⟨_, _, _, rfl, sh_0⟩ rfl ((ct_X11_done_0 X (by omega) M2 hH2 4 ⟨by omega, by omega⟩ 0 ⟨by omega, by omega⟩ 0 ⟨by omega, by omega⟩ 0 ⟨by omega, by omega⟩).le (by decide)) (fun z4 M5 ⟨hH5, hR5, lz4, uz4⟩ => ?_)
 have hF5 := hF2.tr hR5 (by decide +kernel)
 refine jx_goto c1 hm 33 rfl rfl ?_
 exact jx_reti c2 hm rfl rfl ⟨_, rfl, hH5, hF5, by omega, by omega⟩
theorem ct_X11_weeksToGo_12 (X : Int) (hX : 0 ≤ X ∧ X ≤ 100000000) (M0 : JM) (hH0 : HI X M0) (a0 : Int) (ha0 : (-2147483648) ≤ a0 ∧ a0 ≤ 2147483647) : JOk shp PJ 1 78 [.inr (.inr (.inl 12)), .inl a0] M0 (jRi (fun v M' => M0 = M' ∧ (-2147483648) ≤ v ∧ v ≤ 2147483647 ∧ (v ≤ a0))) := by
 refine ⟨jr_X11_weeksToGo, pj_X11_weeksToGo, fun F c1 c2 c3 => ?_⟩
 have hm := pj_X11_weeksToGo
 change F 0 [some (.inr (.inr (.inl 12))), some (.inl a0)] [] M0
 refine jx_load c1 hm rfl rfl rfl rfl ?_
 refine jy_sp c1 hm rfl (by decide) ?_
 refine jx_load c1 hm rfl rfl rfl rfl ?_
 obtain ⟨z1, k2, lz1, uz1⟩ := hH0.ld (c := 12) (i := 7) (A := (-2147483648)) (B := 2147483647) rfl
 refine jx_geti c1 hm rfl sh_12 rfl k2 ?_
 refine jx_iopw c1 hm rfl rfl (fun z3 lz3 uz3 => ?_)
 refine jx_min c1 hm rfl rfl (fun z4 lz4 uz4 ez4 => ?_)
 exact jx_reti c2 hm rfl rfl ⟨_, rfl, rfl, by omega, by omega, (by omega)⟩
def md_X11_weeks_0 : List (Nat × (Nat × Nat)) := [(12, (7, 7)), (13, (0, 5)), (14, (0, 5)), (15, (0, 5)), (16, (0, 5)), (17, (0, 35)), (18, (0, 35)), (19, (0, 35)), (55, (1, 1)), (55, (2, 2)), (57, (7, 7)), (58, (0, 5)), (59, (0, 5)), (60, (0, 5)), (61, (0, 5)), (62, (0, 35)), (63, (0, 35)), (64, (0, 35)), (65, (7, 7)), (66, (0, 5)), (67, (0, 5)), (68, (0, 5)), (69, (0, 5)), (70, (0, 35)), (71, (0, 35)), (72, (0, 35)), (73, (7, 7)), (74, (0, 5)), (75, (0, 5)), (76, (0, 5)), (77, (0, 5)), (78, (0, 35)), (79, (0, 35)), (80, (0, 35)), (81, (7, 7)), (82, (0, 5)), (83, (0, 5)), (84, (0, 5)), (85, (0, 5)), (86, (0, 35)), (87, (0, 35)), (88, (0, 35)), (89, (7, 7)), (90, (0, 5)), (91, (0, 5)), (92, (0, 5)), (93, (0, 5)), (94, (0, 35)), (95, (0, 35)), (96, (0, 35)), (97, (7, 7)), (98, (0, 5)), (99, (0, 5)), (100, (0, 5)), (101, (0, 5)), (102, (0, 35)), (103, (0, 35)), (104, (0, 35)), (105, (7, 7)), (106, (0, 5)), (107, (0, 5)), (108, (0, 5)), (109, (0, 5)), (110, (0, 35)), (111, (0, 35)), (112, (0, 35)), (113, (7, 7)), (114, (0, 5)), (115, (0, 5)), (116, (0, 5)), (117, (0, 5)), (118, (0, 35)), (119, (0, 35)), (120, (0, 35))]
theorem ct_X11_weeks_0 (X : Int) (hX : 0 ≤ X ∧ X ≤ 99999999) (M0 : JM) (hH0 : HI X M0) (a0 : Int) (ha0 : (-2147483648) ≤ a0 ∧ a0 ≤ 2147483647) : JOk shp PJ 6 77 [.inr (.inr (.inl 0)), .inl a0] M0 (jRi (fun v M' => HI (X + 1) M' ∧ Fr md_X11_weeks_0 M0 M' ∧ (-2147483648) ≤ v ∧ v ≤ 60 )) := by
 refine ⟨jr_X11_weeks, pj_X11_weeks, fun F c1 c2 c3 => ?_⟩
 have hm := pj_X11_weeks
 change F 0 [some (.inr (.inr (.inl 0))), some (.inl a0), none] [] M0
 have hF0 : Fr md_X11_weeks_0 M0 M0 := Fr.rf _ _
 refine jx_load c1 hm rfl rfl rfl rfl ?_
 refine jy_ic c1 hm rfl (by decide) ?_
 refine jc_lt c1 hm 11 rfl rfl (fun h1 => ?_) (fun h1 => ?_)
 ·
  refine jy_ic c1 hm rfl (by decide) ?_
  exact jx_reti c2 hm rfl rfl ⟨_, rfl, (hH0.mono (by omega) (by omega)), hF0, by omega, by omega⟩
 refine jx_load c1 hm rfl rfl rfl rfl ?_
 refine jy_bp c1 hm rfl (by decide) ?_
 refine jc_le c1 hm 13 rfl rfl (fun h2 => ?_) (fun h2 => ?_)
 ·
  refine jx_load c1 hm rfl rfl rfl rfl ?_
  refine jx_getr c1 hm rfl sh_0 rfl ?_
  refine jx_getr c1 hm rfl sh_5 rfl ?_
  refine jx_load c1 hm rfl rfl rfl rfl ?_
  refine jt_i c3 hm rfl rfl pj_X11_weeksToGo rfl rfl rfl ((ct_X11_weeksToGo_12 X (by omega) M0 hH0 a0 ⟨by omega, by omega⟩).le (by decide)) (fun z3 _ ⟨rfl, lz3, uz3, p4⟩ => ?_)
  refine jx_stor c1 hm (L' := [some (.inr (.inr (.inl 0))), some (.inl a0), some (.inl z3)]) rfl rfl rfl rfl rfl ?_
  refine jx_load c1 hm rfl rfl rfl rfl ?_
  refine jz_le c1 hm 38 rfl rfl (fun h5 => ?_) (fun h5 => ?_)
  ·
   refine jx_load c1 hm rfl rfl rfl rfl ?_
   exact jx_reti c2 hm rfl rfl ⟨_, rfl, (hH0.mono (by omega) (by omega)), hF0, by omega, by omega⟩
  refine jx_load c1 hm rfl rfl rfl rfl ?_
  refine jy_ic c1 hm rfl (by decide) ?_
  refine jy_ic c1 hm rfl (by decide) ?_
  refine jy_ic c1 hm rfl (by decide) ?_
  refine jx_load c1 hm rfl rfl rfl rfl ?_
  refine jv_i c3 hm rfl pj_X11_done rfl rfl ⟨_, _, _, rfl, sh_0⟩ rfl ((ct_X11_done_0 X (by omega) M0 hH0 5 ⟨by omega, by omega⟩ 0 ⟨by omega, by omega⟩ 0 ⟨by omega, by omega⟩ z3 ⟨by omega, by omega⟩).le (by decide)) (fun z6 M7 ⟨hH7, hR7, lz6, uz6⟩ => ?_)
  have hF7 := hF0.tr hR7 (by decide +kernel)
  refine jx_pop c1 hm rfl rfl ?_
  refine jx_load c1 hm rfl rfl rfl rfl ?_
  exact jx_reti c2 hm rfl rfl ⟨_, rfl, hH7, hF7, by omega, by omega⟩
 refine jy_ic c1 hm rfl (by decide) ?_
 exact jx_reti c2 hm rfl rfl ⟨_, rfl, (hH0.mono (by omega) (by omega)), hF0, by omega, by omega⟩
def md_X11_copyRow_58_13 : List (Nat × (Nat × Nat)) := [(13, (0, 5))]
theorem ct_X11_copyRow_58_13 (X : Int) (hX : 0 ≤ X ∧ X ≤ 100000000) (M0 : JM) (hH0 : HI X M0)  : JOk shp PJ 1 29 [.inr (.inr (.inl 58)), .inr (.inr (.inl 13))] M0 (jRv (fun M' => HI X M' ∧ Fr md_X11_copyRow_58_13 M0 M' )) := by
 refine ⟨jr_X11_copyRow, pj_X11_copyRow, fun F c1 c2 c3 => ?_⟩
 have hm := pj_X11_copyRow
 change F 0 [some (.inr (.inr (.inl 58))), some (.inr (.inr (.inl 13)))] [] M0
 have hF0 : Fr md_X11_copyRow_58_13 M0 M0 := Fr.rf _ _
 refine jx_load c1 hm rfl rfl rfl rfl ?_
 refine jy_ic c1 hm rfl (by decide) ?_
 refine jx_load c1 hm rfl rfl rfl rfl ?_
 refine jy_ic c1 hm rfl (by decide) ?_
 refine jx_load c1 hm rfl rfl rfl rfl ?_
 refine jx_alen c1 hm (v := 6) rfl sh_58 rfl rfl ?_
 refine jx_load c1 hm rfl rfl rfl rfl ?_
 refine jx_alen c1 hm (v := 6) rfl sh_13 rfl rfl ?_
 refine jx_min c1 hm rfl rfl (fun z1 lz1 uz1 ez1 => ?_)
 obtain ⟨M2, e2, hH2, hF2, n2, _⟩ := mcp hH0 hF0 (c1 := 58) (c2 := 13) (n := z1) (fun _ _ => rfl) (fun j hj => jin_of 0 rfl ⟨by omega, by omega⟩)
 refine jm_acpi c1 hm rfl rfl sh_58 sh_13 ⟨by omega, by omega, by omega⟩ e2 ?_
 exact jx_retv c2 hm rfl rfl ⟨rfl, hH2, hF2⟩
def md_X11_copyRow_59_14 : List (Nat × (Nat × Nat)) := [(14, (0, 5))]
theorem ct_X11_copyRow_59_14 (X : Int) (hX : 0 ≤ X ∧ X ≤ 100000000) (M0 : JM) (hH0 : HI X M0)  : JOk shp PJ 1 29 [.inr (.inr (.inl 59)), .inr (.inr (.inl 14))] M0 (jRv (fun M' => HI X M' ∧ Fr md_X11_copyRow_59_14 M0 M' )) := by
 refine ⟨jr_X11_copyRow, pj_X11_copyRow, fun F c1 c2 c3 => ?_⟩
 have hm := pj_X11_copyRow
 change F 0 [some (.inr (.inr (.inl 59))), some (.inr (.inr (.inl 14)))] [] M0
 have hF0 : Fr md_X11_copyRow_59_14 M0 M0 := Fr.rf _ _
 refine jx_load c1 hm rfl rfl rfl rfl ?_
 refine jy_ic c1 hm rfl (by decide) ?_
 refine jx_load c1 hm rfl rfl rfl rfl ?_
 refine jy_ic c1 hm rfl (by decide) ?_
 refine jx_load c1 hm rfl rfl rfl rfl ?_
 refine jx_alen c1 hm (v := 6) rfl sh_59 rfl rfl ?_
 refine jx_load c1 hm rfl rfl rfl rfl ?_
 refine jx_alen c1 hm (v := 6) rfl sh_14 rfl rfl ?_
 refine jx_min c1 hm rfl rfl (fun z1 lz1 uz1 ez1 => ?_)
 obtain ⟨M2, e2, hH2, hF2, n2, _⟩ := mcp hH0 hF0 (c1 := 59) (c2 := 14) (n := z1) (fun _ _ => rfl) (fun j hj => jin_of 0 rfl ⟨by omega, by omega⟩)
 refine jm_acpi c1 hm rfl rfl sh_59 sh_14 ⟨by omega, by omega, by omega⟩ e2 ?_
 exact jx_retv c2 hm rfl rfl ⟨rfl, hH2, hF2⟩
def md_X11_copyRow_60_15 : List (Nat × (Nat × Nat)) := [(15, (0, 5))]
theorem ct_X11_copyRow_60_15 (X : Int) (hX : 0 ≤ X ∧ X ≤ 100000000) (M0 : JM) (hH0 : HI X M0)  : JOk shp PJ 1 29 [.inr (.inr (.inl 60)), .inr (.inr (.inl 15))] M0 (jRv (fun M' => HI X M' ∧ Fr md_X11_copyRow_60_15 M0 M' )) := by
 refine ⟨jr_X11_copyRow, pj_X11_copyRow, fun F c1 c2 c3 => ?_⟩
 have hm := pj_X11_copyRow
 change F 0 [some (.inr (.inr (.inl 60))), some (.inr (.inr (.inl 15)))] [] M0
 have hF0 : Fr md_X11_copyRow_60_15 M0 M0 := Fr.rf _ _
 refine jx_load c1 hm rfl rfl rfl rfl ?_
 refine jy_ic c1 hm rfl (by decide) ?_
 refine jx_load c1 hm rfl rfl rfl rfl ?_
 refine jy_ic c1 hm rfl (by decide) ?_
 refine jx_load c1 hm rfl rfl rfl rfl ?_
 refine jx_alen c1 hm (v := 6) rfl sh_60 rfl rfl ?_
 refine jx_load c1 hm rfl rfl rfl rfl ?_
 refine jx_alen c1 hm (v := 6) rfl sh_15 rfl rfl ?_
 refine jx_min c1 hm rfl rfl (fun z1 lz1 uz1 ez1 => ?_)
 obtain ⟨M2, e2, hH2, hF2, n2, _⟩ := mcp hH0 hF0 (c1 := 60) (c2 := 15) (n := z1) (fun _ _ => rfl) (fun j hj => jin_of 0 rfl ⟨by omega, by omega⟩)
 refine jm_acpi c1 hm rfl rfl sh_60 sh_15 ⟨by omega, by omega, by omega⟩ e2 ?_
 exact jx_retv c2 hm rfl rfl ⟨rfl, hH2, hF2⟩
def md_X11_copyRow_61_16 : List (Nat × (Nat × Nat)) := [(16, (0, 5))]
theorem ct_X11_copyRow_61_16 (X : Int) (hX : 0 ≤ X ∧ X ≤ 100000000) (M0 : JM) (hH0 : HI X M0)  : JOk shp PJ 1 29 [.inr (.inr (.inl 61)), .inr (.inr (.inl 16))] M0 (jRv (fun M' => HI X M' ∧ Fr md_X11_copyRow_61_16 M0 M' )) := by
 refine ⟨jr_X11_copyRow, pj_X11_copyRow, fun F c1 c2 c3 => ?_⟩
 have hm := pj_X11_copyRow
 change F 0 [some (.inr (.inr (.inl 61))), some (.inr (.inr (.inl 16)))] [] M0
 have hF0 : Fr md_X11_copyRow_61_16 M0 M0 := Fr.rf _ _
 refine jx_load c1 hm rfl rfl rfl rfl ?_
 refine jy_ic c1 hm rfl (by decide) ?_
 refine jx_load c1 hm rfl rfl rfl rfl ?_
 refine jy_ic c1 hm rfl (by decide) ?_
 refine jx_load c1 hm rfl rfl rfl rfl ?_
 refine jx_alen c1 hm (v := 6) rfl sh_61 rfl rfl ?_
 refine jx_load c1 hm rfl rfl rfl rfl ?_
 refine jx_alen c1 hm (v := 6) rfl sh_16 rfl rfl ?_
 refine jx_min c1 hm rfl rfl (fun z1 lz1 uz1 ez1 => ?_)
 obtain ⟨M2, e2, hH2, hF2, n2, _⟩ := mcp hH0 hF0 (c1 := 61) (c2 := 16) (n := z1) (fun _ _ => rfl) (fun j hj => jin_of 0 rfl ⟨by omega, by omega⟩)
 refine jm_acpi c1 hm rfl rfl sh_61 sh_16 ⟨by omega, by omega, by omega⟩ e2 ?_
 exact jx_retv c2 hm rfl rfl ⟨rfl, hH2, hF2⟩
def md_X11_copyRow_62_17 : List (Nat × (Nat × Nat)) := [(17, (0, 35))]
theorem ct_X11_copyRow_62_17 (X : Int) (hX : 0 ≤ X ∧ X ≤ 100000000) (M0 : JM) (hH0 : HI X M0)  : JOk shp PJ 1 29 [.inr (.inr (.inl 62)), .inr (.inr (.inl 17))] M0 (jRv (fun M' => HI X M' ∧ Fr md_X11_copyRow_62_17 M0 M' )) := by
 refine ⟨jr_X11_copyRow, pj_X11_copyRow, fun F c1 c2 c3 => ?_⟩
 have hm := pj_X11_copyRow
 change F 0 [some (.inr (.inr (.inl 62))), some (.inr (.inr (.inl 17)))] [] M0
 have hF0 : Fr md_X11_copyRow_62_17 M0 M0 := Fr.rf _ _
 refine jx_load c1 hm rfl rfl rfl rfl ?_
 refine jy_ic c1 hm rfl (by decide) ?_
 refine jx_load c1 hm rfl rfl rfl rfl ?_
 refine jy_ic c1 hm rfl (by decide) ?_
 refine jx_load c1 hm rfl rfl rfl rfl ?_
 refine jx_alen c1 hm (v := 36) rfl sh_62 rfl rfl ?_
 refine jx_load c1 hm rfl rfl rfl rfl ?_
 refine jx_alen c1 hm (v := 36) rfl sh_17 rfl rfl ?_
 refine jx_min c1 hm rfl rfl (fun z1 lz1 uz1 ez1 => ?_)
 obtain ⟨M2, e2, hH2, hF2, n2, _⟩ := mcp hH0 hF0 (c1 := 62) (c2 := 17) (n := z1) (fun _ _ => rfl) (fun j hj => jin_of 0 rfl ⟨by omega, by omega⟩)
 refine jm_acpi c1 hm rfl rfl sh_62 sh_17 ⟨by omega, by omega, by omega⟩ e2 ?_
 exact jx_retv c2 hm rfl rfl ⟨rfl, hH2, hF2⟩
def md_X11_copyRow_63_18 : List (Nat × (Nat × Nat)) := [(18, (0, 35))]
theorem ct_X11_copyRow_63_18 (X : Int) (hX : 0 ≤ X ∧ X ≤ 100000000) (M0 : JM) (hH0 : HI X M0)  : JOk shp PJ 1 29 [.inr (.inr (.inl 63)), .inr (.inr (.inl 18))] M0 (jRv (fun M' => HI X M' ∧ Fr md_X11_copyRow_63_18 M0 M' )) := by
 refine ⟨jr_X11_copyRow, pj_X11_copyRow, fun F c1 c2 c3 => ?_⟩
 have hm := pj_X11_copyRow
 change F 0 [some (.inr (.inr (.inl 63))), some (.inr (.inr (.inl 18)))] [] M0
 have hF0 : Fr md_X11_copyRow_63_18 M0 M0 := Fr.rf _ _
 refine jx_load c1 hm rfl rfl rfl rfl ?_
 refine jy_ic c1 hm rfl (by decide) ?_
 refine jx_load c1 hm rfl rfl rfl rfl ?_
 refine jy_ic c1 hm rfl (by decide) ?_
 refine jx_load c1 hm rfl rfl rfl rfl ?_
 refine jx_alen c1 hm (v := 36) rfl sh_63 rfl rfl ?_
 refine jx_load c1 hm rfl rfl rfl rfl ?_
 refine jx_alen c1 hm (v := 36) rfl sh_18 rfl rfl ?_
 refine jx_min c1 hm rfl rfl (fun z1 lz1 uz1 ez1 => ?_)
 obtain ⟨M2, e2, hH2, hF2, n2, _⟩ := mcp hH0 hF0 (c1 := 63) (c2 := 18) (n := z1) (fun _ _ => rfl) (fun j hj => jin_of 0 rfl ⟨by omega, by omega⟩)
 refine jm_acpi c1 hm rfl rfl sh_63 sh_18 ⟨by omega, by omega, by omega⟩ e2 ?_
 exact jx_retv c2 hm rfl rfl ⟨rfl, hH2, hF2⟩
def md_X11_copyRow_64_19 : List (Nat × (Nat × Nat)) := [(19, (0, 35))]
theorem ct_X11_copyRow_64_19 (X : Int) (hX : 0 ≤ X ∧ X ≤ 100000000) (M0 : JM) (hH0 : HI X M0)  : JOk shp PJ 1 29 [.inr (.inr (.inl 64)), .inr (.inr (.inl 19))] M0 (jRv (fun M' => HI X M' ∧ Fr md_X11_copyRow_64_19 M0 M' )) := by
 refine ⟨jr_X11_copyRow, pj_X11_copyRow, fun F c1 c2 c3 => ?_⟩
 have hm := pj_X11_copyRow
 change F 0 [some (.inr (.inr (.inl 64))), some (.inr (.inr (.inl 19)))] [] M0
 have hF0 : Fr md_X11_copyRow_64_19 M0 M0 := Fr.rf _ _
 refine jx_load c1 hm rfl rfl rfl rfl ?_
 refine jy_ic c1 hm rfl (by decide) ?_
 refine jx_load c1 hm rfl rfl rfl rfl ?_
 refine jy_ic c1 hm rfl (by decide) ?_
 refine jx_load c1 hm rfl rfl rfl rfl ?_
 refine jx_alen c1 hm (v := 36) rfl sh_64 rfl rfl ?_
 refine jx_load c1 hm rfl rfl rfl rfl ?_
 refine jx_alen c1 hm (v := 36) rfl sh_19 rfl rfl ?_
 refine jx_min c1 hm rfl rfl (fun z1 lz1 uz1 ez1 => ?_)
 obtain ⟨M2, e2, hH2, hF2, n2, _⟩ := mcp hH0 hF0 (c1 := 64) (c2 := 19) (n := z1) (fun _ _ => rfl) (fun j hj => jin_of 0 rfl ⟨by omega, by omega⟩)
 refine jm_acpi c1 hm rfl rfl sh_64 sh_19 ⟨by omega, by omega, by omega⟩ e2 ?_
 exact jx_retv c2 hm rfl rfl ⟨rfl, hH2, hF2⟩
def md_X8_takeAll_12_57 : List (Nat × (Nat × Nat)) := [(12, (7, 7)), (13, (0, 5)), (14, (0, 5)), (15, (0, 5)), (16, (0, 5)), (17, (0, 35)), (18, (0, 35)), (19, (0, 35))]
theorem ct_X8_takeAll_12_57 (X : Int) (hX : 0 ≤ X ∧ X ≤ 100000000) (M0 : JM) (hH0 : HI X M0)  : JOk shp PJ 2 264 [.inr (.inr (.inl 12)), .inr (.inr (.inl 57))] M0 (jRv (fun M' => HI X M' ∧ Fr md_X8_takeAll_12_57 M0 M' )) := by
 refine ⟨jr_X8_takeAll, pj_X8_takeAll, fun F c1 c2 c3 => ?_⟩
 have hm := pj_X8_takeAll
 change F 0 [some (.inr (.inr (.inl 12))), some (.inr (.inr (.inl 57)))] [] M0
 have hF0 : Fr md_X8_takeAll_12_57 M0 M0 := Fr.rf _ _
 refine jx_load c1 hm rfl rfl rfl rfl ?_
 refine jx_getr c1 hm rfl sh_57 rfl ?_
 refine jx_load c1 hm rfl rfl rfl rfl ?_
 refine jx_getr c1 hm rfl sh_12 rfl ?_
 refine jt_v c3 hm rfl rfl pj_X11_copyRow rfl rfl rfl ((ct_X11_copyRow_58_13 X (by omega) M0 hH0 ).le (by decide)) (fun M1 ⟨hH1, hR1⟩ => ?_)
 have hF1 := hF0.tr hR1 (by decide +kernel)
 refine jx_load c1 hm rfl rfl rfl rfl ?_
 refine jx_getr c1 hm rfl sh_57 rfl ?_
 refine jx_load c1 hm rfl rfl rfl rfl ?_
 refine jx_getr c1 hm rfl sh_12 rfl ?_
 refine jt_v c3 hm rfl rfl pj_X11_copyRow rfl rfl rfl ((ct_X11_copyRow_59_14 X (by omega) M1 hH1 ).le (by decide)) (fun M2 ⟨hH2, hR2⟩ => ?_)
 have hF2 := hF1.tr hR2 (by decide +kernel)
 refine jx_load c1 hm rfl rfl rfl rfl ?_
 refine jx_getr c1 hm rfl sh_57 rfl ?_
 refine jx_load c1 hm rfl rfl rfl rfl ?_
 refine jx_getr c1 hm rfl sh_12 rfl ?_
 refine jt_v c3 hm rfl rfl pj_X11_copyRow rfl rfl rfl ((ct_X11_copyRow_60_15 X (by omega) M2 hH2 ).le (by decide)) (fun M3 ⟨hH3, hR3⟩ => ?_)
 have hF3 := hF2.tr hR3 (by decide +kernel)
 refine jx_load c1 hm rfl rfl rfl rfl ?_
 refine jx_getr c1 hm rfl sh_57 rfl ?_
 refine jx_load c1 hm rfl rfl rfl rfl ?_
 refine jx_getr c1 hm rfl sh_12 rfl ?_
 refine jt_v c3 hm rfl rfl pj_X11_copyRow rfl rfl rfl ((ct_X11_copyRow_61_16 X (by omega) M3 hH3 ).le (by decide)) (fun M4 ⟨hH4, hR4⟩ => ?_)
 have hF4 := hF3.tr hR4 (by decide +kernel)
 refine jx_load c1 hm rfl rfl rfl rfl ?_
 refine jx_getr c1 hm rfl sh_57 rfl ?_
 refine jx_load c1 hm rfl rfl rfl rfl ?_
 refine jx_getr c1 hm rfl sh_12 rfl ?_
 refine jt_v c3 hm rfl rfl pj_X11_copyRow rfl rfl rfl ((ct_X11_copyRow_62_17 X (by omega) M4 hH4 ).le (by decide)) (fun M5 ⟨hH5, hR5⟩ => ?_)
 have hF5 := hF4.tr hR5 (by decide +kernel)
 refine jx_load c1 hm rfl rfl rfl rfl ?_
 refine jx_getr c1 hm rfl sh_57 rfl ?_
 refine jx_load c1 hm rfl rfl rfl rfl ?_
 refine jx_getr c1 hm rfl sh_12 rfl ?_
 refine jt_v c3 hm rfl rfl pj_X11_copyRow rfl rfl rfl ((ct_X11_copyRow_63_18 X (by omega) M5 hH5 ).le (by decide)) (fun M6 ⟨hH6, hR6⟩ => ?_)
 have hF6 := hF5.tr hR6 (by decide +kernel)
 refine jx_load c1 hm rfl rfl rfl rfl ?_
 refine jx_getr c1 hm rfl sh_57 rfl ?_
 refine jx_load c1 hm rfl rfl rfl rfl ?_
 refine jx_getr c1 hm rfl sh_12 rfl ?_
 refine jt_v c3 hm rfl rfl pj_X11_copyRow rfl rfl rfl ((ct_X11_copyRow_64_19 X (by omega) M6 hH6 ).le (by decide)) (fun M7 ⟨hH7, hR7⟩ => ?_)
 have hF7 := hF6.tr hR7 (by decide +kernel)
 refine jx_load c1 hm rfl rfl rfl rfl ?_
 refine jx_load c1 hm rfl rfl rfl rfl ?_
 obtain ⟨z8, k9, lz8, uz8⟩ := hH7.ld (c := 57) (i := 7) (A := (-2147483648)) (B := 2147483647) rfl
 refine jx_geti c1 hm rfl sh_57 rfl k9 ?_
 obtain ⟨M10, e10, hH10, hF10, k10, n10, _⟩ := mup hH7 hF7 (c := 12) (i := 7) (v := z8) (A := (-2147483648)) (B := 2147483647) rfl ⟨by omega, by omega⟩ (jin_of 0 rfl ⟨by omega, by omega⟩)
 refine jm_puti c1 hm rfl sh_12 rfl e10 ?_
 exact jx_retv c2 hm rfl rfl ⟨rfl, hH10, hF10⟩
def md_X11_copyRow_66_13 : List (Nat × (Nat × Nat)) := [(13, (0, 5))]
theorem ct_X11_copyRow_66_13 (X : Int) (hX : 0 ≤ X ∧ X ≤ 100000000) (M0 : JM) (hH0 : HI X M0)  : JOk shp PJ 1 29 [.inr (.inr (.inl 66)), .inr (.inr (.inl 13))] M0 (jRv (fun M' => HI X M' ∧ Fr md_X11_copyRow_66_13 M0 M' )) := by
 refine ⟨jr_X11_copyRow, pj_X11_copyRow, fun F c1 c2 c3 => ?_⟩
 have hm := pj_X11_copyRow
 change F 0 [some (.inr (.inr (.inl 66))), some (.inr (.inr (.inl 13)))] [] M0
 have hF0 : Fr md_X11_copyRow_66_13 M0 M0 := Fr.rf _ _
 refine jx_load c1 hm rfl rfl rfl rfl ?_
 refine jy_ic c1 hm rfl (by decide) ?_
 refine jx_load c1 hm rfl rfl rfl rfl ?_
 refine jy_ic c1 hm rfl (by decide) ?_
 refine jx_load c1 hm rfl rfl rfl rfl ?_
 refine jx_alen c1 hm (v := 6) rfl sh_66 rfl rfl ?_
 refine jx_load c1 hm rfl rfl rfl rfl ?_
 refine jx_alen c1 hm (v := 6) rfl sh_13 rfl rfl ?_
 refine jx_min c1 hm rfl rfl (fun z1 lz1 uz1 ez1 => ?_)
 obtain ⟨M2, e2, hH2, hF2, n2, _⟩ := mcp hH0 hF0 (c1 := 66) (c2 := 13) (n := z1) (fun _ _ => rfl) (fun j hj => jin_of 0 rfl ⟨by omega, by omega⟩)
 refine jm_acpi c1 hm rfl rfl sh_66 sh_13 ⟨by omega, by omega, by omega⟩ e2 ?_
 exact jx_retv c2 hm rfl rfl ⟨rfl, hH2, hF2⟩
def md_X11_copyRow_67_14 : List (Nat × (Nat × Nat)) := [(14, (0, 5))]
theorem ct_X11_copyRow_67_14 (X : Int) (hX : 0 ≤ X ∧ X ≤ 100000000) (M0 : JM) (hH0 : HI X M0)  : JOk shp PJ 1 29 [.inr (.inr (.inl 67)), .inr (.inr (.inl 14))] M0 (jRv (fun M' => HI X M' ∧ Fr md_X11_copyRow_67_14 M0 M' )) := by
 refine ⟨jr_X11_copyRow, pj_X11_copyRow, fun F c1 c2 c3 => ?_⟩
 have hm := pj_X11_copyRow
 change F 0 [some (.inr (.inr (.inl 67))), some (.inr (.inr (.inl 14)))] [] M0
 have hF0 : Fr md_X11_copyRow_67_14 M0 M0 := Fr.rf _ _
 refine jx_load c1 hm rfl rfl rfl rfl ?_
 refine jy_ic c1 hm rfl (by decide) ?_
 refine jx_load c1 hm rfl rfl rfl rfl ?_
 refine jy_ic c1 hm rfl (by decide) ?_
 refine jx_load c1 hm rfl rfl rfl rfl ?_
 refine jx_alen c1 hm (v := 6) rfl sh_67 rfl rfl ?_
 refine jx_load c1 hm rfl rfl rfl rfl ?_
 refine jx_alen c1 hm (v := 6) rfl sh_14 rfl rfl ?_
 refine jx_min c1 hm rfl rfl (fun z1 lz1 uz1 ez1 => ?_)
 obtain ⟨M2, e2, hH2, hF2, n2, _⟩ := mcp hH0 hF0 (c1 := 67) (c2 := 14) (n := z1) (fun _ _ => rfl) (fun j hj => jin_of 0 rfl ⟨by omega, by omega⟩)
 refine jm_acpi c1 hm rfl rfl sh_67 sh_14 ⟨by omega, by omega, by omega⟩ e2 ?_
 exact jx_retv c2 hm rfl rfl ⟨rfl, hH2, hF2⟩
def md_X11_copyRow_68_15 : List (Nat × (Nat × Nat)) := [(15, (0, 5))]
theorem ct_X11_copyRow_68_15 (X : Int) (hX : 0 ≤ X ∧ X ≤ 100000000) (M0 : JM) (hH0 : HI X M0)  : JOk shp PJ 1 29 [.inr (.inr (.inl 68)), .inr (.inr (.inl 15))] M0 (jRv (fun M' => HI X M' ∧ Fr md_X11_copyRow_68_15 M0 M' )) := by
 refine ⟨jr_X11_copyRow, pj_X11_copyRow, fun F c1 c2 c3 => ?_⟩
 have hm := pj_X11_copyRow
 change F 0 [some (.inr (.inr (.inl 68))), some (.inr (.inr (.inl 15)))] [] M0
 have hF0 : Fr md_X11_copyRow_68_15 M0 M0 := Fr.rf _ _
 refine jx_load c1 hm rfl rfl rfl rfl ?_
 refine jy_ic c1 hm rfl (by decide) ?_
 refine jx_load c1 hm rfl rfl rfl rfl ?_
 refine jy_ic c1 hm rfl (by decide) ?_
 refine jx_load c1 hm rfl rfl rfl rfl ?_
 refine jx_alen c1 hm (v := 6) rfl sh_68 rfl rfl ?_
 refine jx_load c1 hm rfl rfl rfl rfl ?_
 refine jx_alen c1 hm (v := 6) rfl sh_15 rfl rfl ?_
 refine jx_min c1 hm rfl rfl (fun z1 lz1 uz1 ez1 => ?_)
 obtain ⟨M2, e2, hH2, hF2, n2, _⟩ := mcp hH0 hF0 (c1 := 68) (c2 := 15) (n := z1) (fun _ _ => rfl) (fun j hj => jin_of 0 rfl ⟨by omega, by omega⟩)
 refine jm_acpi c1 hm rfl rfl sh_68 sh_15 ⟨by omega, by omega, by omega⟩ e2 ?_
 exact jx_retv c2 hm rfl rfl ⟨rfl, hH2, hF2⟩
def md_X11_copyRow_69_16 : List (Nat × (Nat × Nat)) := [(16, (0, 5))]
theorem ct_X11_copyRow_69_16 (X : Int) (hX : 0 ≤ X ∧ X ≤ 100000000) (M0 : JM) (hH0 : HI X M0)  : JOk shp PJ 1 29 [.inr (.inr (.inl 69)), .inr (.inr (.inl 16))] M0 (jRv (fun M' => HI X M' ∧ Fr md_X11_copyRow_69_16 M0 M' )) := by
 refine ⟨jr_X11_copyRow, pj_X11_copyRow, fun F c1 c2 c3 => ?_⟩
 have hm := pj_X11_copyRow
 change F 0 [some (.inr (.inr (.inl 69))), some (.inr (.inr (.inl 16)))] [] M0
 have hF0 : Fr md_X11_copyRow_69_16 M0 M0 := Fr.rf _ _
 refine jx_load c1 hm rfl rfl rfl rfl ?_
 refine jy_ic c1 hm rfl (by decide) ?_
 refine jx_load c1 hm rfl rfl rfl rfl ?_
 refine jy_ic c1 hm rfl (by decide) ?_
 refine jx_load c1 hm rfl rfl rfl rfl ?_
 refine jx_alen c1 hm (v := 6) rfl sh_69 rfl rfl ?_
 refine jx_load c1 hm rfl rfl rfl rfl ?_
 refine jx_alen c1 hm (v := 6) rfl sh_16 rfl rfl ?_
 refine jx_min c1 hm rfl rfl (fun z1 lz1 uz1 ez1 => ?_)
 obtain ⟨M2, e2, hH2, hF2, n2, _⟩ := mcp hH0 hF0 (c1 := 69) (c2 := 16) (n := z1) (fun _ _ => rfl) (fun j hj => jin_of 0 rfl ⟨by omega, by omega⟩)
 refine jm_acpi c1 hm rfl rfl sh_69 sh_16 ⟨by omega, by omega, by omega⟩ e2 ?_
 exact jx_retv c2 hm rfl rfl ⟨rfl, hH2, hF2⟩
def md_X11_copyRow_70_17 : List (Nat × (Nat × Nat)) := [(17, (0, 35))]
theorem ct_X11_copyRow_70_17 (X : Int) (hX : 0 ≤ X ∧ X ≤ 100000000) (M0 : JM) (hH0 : HI X M0)  : JOk shp PJ 1 29 [.inr (.inr (.inl 70)), .inr (.inr (.inl 17))] M0 (jRv (fun M' => HI X M' ∧ Fr md_X11_copyRow_70_17 M0 M' )) := by
 refine ⟨jr_X11_copyRow, pj_X11_copyRow, fun F c1 c2 c3 => ?_⟩
 have hm := pj_X11_copyRow
 change F 0 [some (.inr (.inr (.inl 70))), some (.inr (.inr (.inl 17)))] [] M0
 have hF0 : Fr md_X11_copyRow_70_17 M0 M0 := Fr.rf _ _
 refine jx_load c1 hm rfl rfl rfl rfl ?_
 refine jy_ic c1 hm rfl (by decide) ?_
 refine jx_load c1 hm rfl rfl rfl rfl ?_
 refine jy_ic c1 hm rfl (by decide) ?_
 refine jx_load c1 hm rfl rfl rfl rfl ?_
 refine jx_alen c1 hm (v := 36) rfl sh_70 rfl rfl ?_
 refine jx_load c1 hm rfl rfl rfl rfl ?_
 refine jx_alen c1 hm (v := 36) rfl sh_17 rfl rfl ?_
 refine jx_min c1 hm rfl rfl (fun z1 lz1 uz1 ez1 => ?_)
 obtain ⟨M2, e2, hH2, hF2, n2, _⟩ := mcp hH0 hF0 (c1 := 70) (c2 := 17) (n := z1) (fun _ _ => rfl) (fun j hj => jin_of 0 rfl ⟨by omega, by omega⟩)
 refine jm_acpi c1 hm rfl rfl sh_70 sh_17 ⟨by omega, by omega, by omega⟩ e2 ?_
 exact jx_retv c2 hm rfl rfl ⟨rfl, hH2, hF2⟩
def md_X11_copyRow_71_18 : List (Nat × (Nat × Nat)) := [(18, (0, 35))]
theorem ct_X11_copyRow_71_18 (X : Int) (hX : 0 ≤ X ∧ X ≤ 100000000) (M0 : JM) (hH0 : HI X M0)  : JOk shp PJ 1 29 [.inr (.inr (.inl 71)), .inr (.inr (.inl 18))] M0 (jRv (fun M' => HI X M' ∧ Fr md_X11_copyRow_71_18 M0 M' )) := by
 refine ⟨jr_X11_copyRow, pj_X11_copyRow, fun F c1 c2 c3 => ?_⟩
 have hm := pj_X11_copyRow
 change F 0 [some (.inr (.inr (.inl 71))), some (.inr (.inr (.inl 18)))] [] M0
 have hF0 : Fr md_X11_copyRow_71_18 M0 M0 := Fr.rf _ _
 refine jx_load c1 hm rfl rfl rfl rfl ?_
 refine jy_ic c1 hm rfl (by decide) ?_
 refine jx_load c1 hm rfl rfl rfl rfl ?_
 refine jy_ic c1 hm rfl (by decide) ?_
 refine jx_load c1 hm rfl rfl rfl rfl ?_
 refine jx_alen c1 hm (v := 36) rfl sh_71 rfl rfl ?_
 refine jx_load c1 hm rfl rfl rfl rfl ?_
 refine jx_alen c1 hm (v := 36) rfl sh_18 rfl rfl ?_
 refine jx_min c1 hm rfl rfl (fun z1 lz1 uz1 ez1 => ?_)
 obtain ⟨M2, e2, hH2, hF2, n2, _⟩ := mcp hH0 hF0 (c1 := 71) (c2 := 18) (n := z1) (fun _ _ => rfl) (fun j hj => jin_of 0 rfl ⟨by omega, by omega⟩)
 refine jm_acpi c1 hm rfl rfl sh_71 sh_18 ⟨by omega, by omega, by omega⟩ e2 ?_
 exact jx_retv c2 hm rfl rfl ⟨rfl, hH2, hF2⟩
def md_X11_copyRow_72_19 : List (Nat × (Nat × Nat)) := [(19, (0, 35))]
theorem ct_X11_copyRow_72_19 (X : Int) (hX : 0 ≤ X ∧ X ≤ 100000000) (M0 : JM) (hH0 : HI X M0)  : JOk shp PJ 1 29 [.inr (.inr (.inl 72)), .inr (.inr (.inl 19))] M0 (jRv (fun M' => HI X M' ∧ Fr md_X11_copyRow_72_19 M0 M' )) := by
 refine ⟨jr_X11_copyRow, pj_X11_copyRow, fun F c1 c2 c3 => ?_⟩
 have hm := pj_X11_copyRow
 change F 0 [some (.inr (.inr (.inl 72))), some (.inr (.inr (.inl 19)))] [] M0
 have hF0 : Fr md_X11_copyRow_72_19 M0 M0 := Fr.rf _ _
 refine jx_load c1 hm rfl rfl rfl rfl ?_
 refine jy_ic c1 hm rfl (by decide) ?_
 refine jx_load c1 hm rfl rfl rfl rfl ?_
 refine jy_ic c1 hm rfl (by decide) ?_
 refine jx_load c1 hm rfl rfl rfl rfl ?_
 refine jx_alen c1 hm (v := 36) rfl sh_72 rfl rfl ?_
 refine jx_load c1 hm rfl rfl rfl rfl ?_
 refine jx_alen c1 hm (v := 36) rfl sh_19 rfl rfl ?_
 refine jx_min c1 hm rfl rfl (fun z1 lz1 uz1 ez1 => ?_)
 obtain ⟨M2, e2, hH2, hF2, n2, _⟩ := mcp hH0 hF0 (c1 := 72) (c2 := 19) (n := z1) (fun _ _ => rfl) (fun j hj => jin_of 0 rfl ⟨by omega, by omega⟩)
 refine jm_acpi c1 hm rfl rfl sh_72 sh_19 ⟨by omega, by omega, by omega⟩ e2 ?_
 exact jx_retv c2 hm rfl rfl ⟨rfl, hH2, hF2⟩
def md_X8_takeAll_12_65 : List (Nat × (Nat × Nat)) := [(12, (7, 7)), (13, (0, 5)), (14, (0, 5)), (15, (0, 5)), (16, (0, 5)), (17, (0, 35)), (18, (0, 35)), (19, (0, 35))]
theorem ct_X8_takeAll_12_65 (X : Int) (hX : 0 ≤ X ∧ X ≤ 100000000) (M0 : JM) (hH0 : HI X M0)  : JOk shp PJ 2 264 [.inr (.inr (.inl 12)), .inr (.inr (.inl 65))] M0 (jRv (fun M' => HI X M' ∧ Fr md_X8_takeAll_12_65 M0 M' )) := by
 refine ⟨jr_X8_takeAll, pj_X8_takeAll, fun F c1 c2 c3 => ?_⟩
 have hm := pj_X8_takeAll
 change F 0 [some (.inr (.inr (.inl 12))), some (.inr (.inr (.inl 65)))] [] M0
 have hF0 : Fr md_X8_takeAll_12_65 M0 M0 := Fr.rf _ _
 refine jx_load c1 hm rfl rfl rfl rfl ?_
 refine jx_getr c1 hm rfl sh_65 rfl ?_
 refine jx_load c1 hm rfl rfl rfl rfl ?_
 refine jx_getr c1 hm rfl sh_12 rfl ?_
 refine jt_v c3 hm rfl rfl pj_X11_copyRow rfl rfl rfl ((ct_X11_copyRow_66_13 X (by omega) M0 hH0 ).le (by decide)) (fun M1 ⟨hH1, hR1⟩ => ?_)
 have hF1 := hF0.tr hR1 (by decide +kernel)
 refine jx_load c1 hm rfl rfl rfl rfl ?_
 refine jx_getr c1 hm rfl sh_65 rfl ?_
 refine jx_load c1 hm rfl rfl rfl rfl ?_
 refine jx_getr c1 hm rfl sh_12 rfl ?_
 refine jt_v c3 hm rfl rfl pj_X11_copyRow rfl rfl rfl ((ct_X11_copyRow_67_14 X (by omega) M1 hH1 ).le (by decide)) (fun M2 ⟨hH2, hR2⟩ => ?_)
 have hF2 := hF1.tr hR2 (by decide +kernel)
 refine jx_load c1 hm rfl rfl rfl rfl ?_
 refine jx_getr c1 hm rfl sh_65 rfl ?_
 refine jx_load c1 hm rfl rfl rfl rfl ?_
 refine jx_getr c1 hm rfl sh_12 rfl ?_
 refine jt_v c3 hm rfl rfl pj_X11_copyRow rfl rfl rfl ((ct_X11_copyRow_68_15 X (by omega) M2 hH2 ).le (by decide)) (fun M3 ⟨hH3, hR3⟩ => ?_)
 have hF3 := hF2.tr hR3 (by decide +kernel)
 refine jx_load c1 hm rfl rfl rfl rfl ?_
 refine jx_getr c1 hm rfl sh_65 rfl ?_
 refine jx_load c1 hm rfl rfl rfl rfl ?_
 refine jx_getr c1 hm rfl sh_12 rfl ?_
 refine jt_v c3 hm rfl rfl pj_X11_copyRow rfl rfl rfl ((ct_X11_copyRow_69_16 X (by omega) M3 hH3 ).le (by decide)) (fun M4 ⟨hH4, hR4⟩ => ?_)
 have hF4 := hF3.tr hR4 (by decide +kernel)
 refine jx_load c1 hm rfl rfl rfl rfl ?_
 refine jx_getr c1 hm rfl sh_65 rfl ?_
 refine jx_load c1 hm rfl rfl rfl rfl ?_
 refine jx_getr c1 hm rfl sh_12 rfl ?_
 refine jt_v c3 hm rfl rfl pj_X11_copyRow rfl rfl rfl ((ct_X11_copyRow_70_17 X (by omega) M4 hH4 ).le (by decide)) (fun M5 ⟨hH5, hR5⟩ => ?_)
 have hF5 := hF4.tr hR5 (by decide +kernel)
 refine jx_load c1 hm rfl rfl rfl rfl ?_
 refine jx_getr c1 hm rfl sh_65 rfl ?_
 refine jx_load c1 hm rfl rfl rfl rfl ?_
 refine jx_getr c1 hm rfl sh_12 rfl ?_
 refine jt_v c3 hm rfl rfl pj_X11_copyRow rfl rfl rfl ((ct_X11_copyRow_71_18 X (by omega) M5 hH5 ).le (by decide)) (fun M6 ⟨hH6, hR6⟩ => ?_)
 have hF6 := hF5.tr hR6 (by decide +kernel)
 refine jx_load c1 hm rfl rfl rfl rfl ?_
 refine jx_getr c1 hm rfl sh_65 rfl ?_
 refine jx_load c1 hm rfl rfl rfl rfl ?_
 refine jx_getr c1 hm rfl sh_12 rfl ?_
 refine jt_v c3 hm rfl rfl pj_X11_copyRow rfl rfl rfl ((ct_X11_copyRow_72_19 X (by omega) M6 hH6 ).le (by decide)) (fun M7 ⟨hH7, hR7⟩ => ?_)
 have hF7 := hF6.tr hR7 (by decide +kernel)
 refine jx_load c1 hm rfl rfl rfl rfl ?_
 refine jx_load c1 hm rfl rfl rfl rfl ?_
 obtain ⟨z8, k9, lz8, uz8⟩ := hH7.ld (c := 65) (i := 7) (A := (-2147483648)) (B := 2147483647) rfl
 refine jx_geti c1 hm rfl sh_65 rfl k9 ?_
 obtain ⟨M10, e10, hH10, hF10, k10, n10, _⟩ := mup hH7 hF7 (c := 12) (i := 7) (v := z8) (A := (-2147483648)) (B := 2147483647) rfl ⟨by omega, by omega⟩ (jin_of 0 rfl ⟨by omega, by omega⟩)
 refine jm_puti c1 hm rfl sh_12 rfl e10 ?_
 exact jx_retv c2 hm rfl rfl ⟨rfl, hH10, hF10⟩
def md_X11_copyRow_74_13 : List (Nat × (Nat × Nat)) := [(13, (0, 5))]
theorem ct_X11_copyRow_74_13 (X : Int) (hX : 0 ≤ X ∧ X ≤ 100000000) (M0 : JM) (hH0 : HI X M0)  : JOk shp PJ 1 29 [.inr (.inr (.inl 74)), .inr (.inr (.inl 13))] M0 (jRv (fun M' => HI X M' ∧ Fr md_X11_copyRow_74_13 M0 M' )) := by
 refine ⟨jr_X11_copyRow, pj_X11_copyRow, fun F c1 c2 c3 => ?_⟩
 have hm := pj_X11_copyRow
 change F 0 [some (.inr (.inr (.inl 74))), some (.inr (.inr (.inl 13)))] [] M0
 have hF0 : Fr md_X11_copyRow_74_13 M0 M0 := Fr.rf _ _
 refine jx_load c1 hm rfl rfl rfl rfl ?_
 refine jy_ic c1 hm rfl (by decide) ?_
 refine jx_load c1 hm rfl rfl rfl rfl ?_
 refine jy_ic c1 hm rfl (by decide) ?_
 refine jx_load c1 hm rfl rfl rfl rfl ?_
 refine jx_alen c1 hm (v := 6) rfl sh_74 rfl rfl ?_
 refine jx_load c1 hm rfl rfl rfl rfl ?_
 refine jx_alen c1 hm (v := 6) rfl sh_13 rfl rfl ?_
 refine jx_min c1 hm rfl rfl (fun z1 lz1 uz1 ez1 => ?_)
 obtain ⟨M2, e2, hH2, hF2, n2, _⟩ := mcp hH0 hF0 (c1 := 74) (c2 := 13) (n := z1) (fun _ _ => rfl) (fun j hj => jin_of 0 rfl ⟨by omega, by omega⟩)
 refine jm_acpi c1 hm rfl rfl sh_74 sh_13 ⟨by omega, by omega, by omega⟩ e2 ?_
 exact jx_retv c2 hm rfl rfl ⟨rfl, hH2, hF2⟩
def md_X11_copyRow_75_14 : List (Nat × (Nat × Nat)) := [(14, (0, 5))]
theorem ct_X11_copyRow_75_14 (X : Int) (hX : 0 ≤ X ∧ X ≤ 100000000) (M0 : JM) (hH0 : HI X M0)  : JOk shp PJ 1 29 [.inr (.inr (.inl 75)), .inr (.inr (.inl 14))] M0 (jRv (fun M' => HI X M' ∧ Fr md_X11_copyRow_75_14 M0 M' )) := by
 refine ⟨jr_X11_copyRow, pj_X11_copyRow, fun F c1 c2 c3 => ?_⟩
 have hm := pj_X11_copyRow
 change F 0 [some (.inr (.inr (.inl 75))), some (.inr (.inr (.inl 14)))] [] M0
 have hF0 : Fr md_X11_copyRow_75_14 M0 M0 := Fr.rf _ _
 refine jx_load c1 hm rfl rfl rfl rfl ?_
 refine jy_ic c1 hm rfl (by decide) ?_
 refine jx_load c1 hm rfl rfl rfl rfl ?_
 refine jy_ic c1 hm rfl (by decide) ?_
 refine jx_load c1 hm rfl rfl rfl rfl ?_
 refine jx_alen c1 hm (v := 6) rfl sh_75 rfl rfl ?_
 refine jx_load c1 hm rfl rfl rfl rfl ?_
 refine jx_alen c1 hm (v := 6) rfl sh_14 rfl rfl ?_
 refine jx_min c1 hm rfl rfl (fun z1 lz1 uz1 ez1 => ?_)
 obtain ⟨M2, e2, hH2, hF2, n2, _⟩ := mcp hH0 hF0 (c1 := 75) (c2 := 14) (n := z1) (fun _ _ => rfl) (fun j hj => jin_of 0 rfl ⟨by omega, by omega⟩)
 refine jm_acpi c1 hm rfl rfl sh_75 sh_14 ⟨by omega, by omega, by omega⟩ e2 ?_
 exact jx_retv c2 hm rfl rfl ⟨rfl, hH2, hF2⟩
def md_X11_copyRow_76_15 : List (Nat × (Nat × Nat)) := [(15, (0, 5))]
theorem ct_X11_copyRow_76_15 (X : Int) (hX : 0 ≤ X ∧ X ≤ 100000000) (M0 : JM) (hH0 : HI X M0)  : JOk shp PJ 1 29 [.inr (.inr (.inl 76)), .inr (.inr (.inl 15))] M0 (jRv (fun M' => HI X M' ∧ Fr md_X11_copyRow_76_15 M0 M' )) := by
 refine ⟨jr_X11_copyRow, pj_X11_copyRow, fun F c1 c2 c3 => ?_⟩
 have hm := pj_X11_copyRow
 change F 0 [some (.inr (.inr (.inl 76))), some (.inr (.inr (.inl 15)))] [] M0
 have hF0 : Fr md_X11_copyRow_76_15 M0 M0 := Fr.rf _ _
 refine jx_load c1 hm rfl rfl rfl rfl ?_
 refine jy_ic c1 hm rfl (by decide) ?_
 refine jx_load c1 hm rfl rfl rfl rfl ?_
 refine jy_ic c1 hm rfl (by decide) ?_
 refine jx_load c1 hm rfl rfl rfl rfl ?_
 refine jx_alen c1 hm (v := 6) rfl sh_76 rfl rfl ?_
 refine jx_load c1 hm rfl rfl rfl rfl ?_
 refine jx_alen c1 hm (v := 6) rfl sh_15 rfl rfl ?_
 refine jx_min c1 hm rfl rfl (fun z1 lz1 uz1 ez1 => ?_)
 obtain ⟨M2, e2, hH2, hF2, n2, _⟩ := mcp hH0 hF0 (c1 := 76) (c2 := 15) (n := z1) (fun _ _ => rfl) (fun j hj => jin_of 0 rfl ⟨by omega, by omega⟩)
 refine jm_acpi c1 hm rfl rfl sh_76 sh_15 ⟨by omega, by omega, by omega⟩ e2 ?_
 exact jx_retv c2 hm rfl rfl ⟨rfl, hH2, hF2⟩
def md_X11_copyRow_77_16 : List (Nat × (Nat × Nat)) := [(16, (0, 5))]
theorem ct_X11_copyRow_77_16 (X : Int) (hX : 0 ≤ X ∧ X ≤ 100000000) (M0 : JM) (hH0 : HI X M0)  : JOk shp PJ 1 29 [.inr (.inr (.inl 77)), .inr (.inr (.inl 16))] M0 (jRv (fun M' => HI X M' ∧ Fr md_X11_copyRow_77_16 M0 M' )) := by
 refine ⟨jr_X11_copyRow, pj_X11_copyRow, fun F c1 c2 c3 => ?_⟩
 have hm := pj_X11_copyRow
 change F 0 [some (.inr (.inr (.inl 77))), some (.inr (.inr (.inl 16)))] [] M0
 have hF0 : Fr md_X11_copyRow_77_16 M0 M0 := Fr.rf _ _
 refine jx_load c1 hm rfl rfl rfl rfl ?_
 refine jy_ic c1 hm rfl (by decide) ?_
 refine jx_load c1 hm rfl rfl rfl rfl ?_
 refine jy_ic c1 hm rfl (by decide) ?_
 refine jx_load c1 hm rfl rfl rfl rfl ?_
 refine jx_alen c1 hm (v := 6) rfl sh_77 rfl rfl ?_
 refine jx_load c1 hm rfl rfl rfl rfl ?_
 refine jx_alen c1 hm (v := 6) rfl sh_16 rfl rfl ?_
 refine jx_min c1 hm rfl rfl (fun z1 lz1 uz1 ez1 => ?_)
 obtain ⟨M2, e2, hH2, hF2, n2, _⟩ := mcp hH0 hF0 (c1 := 77) (c2 := 16) (n := z1) (fun _ _ => rfl) (fun j hj => jin_of 0 rfl ⟨by omega, by omega⟩)
 refine jm_acpi c1 hm rfl rfl sh_77 sh_16 ⟨by omega, by omega, by omega⟩ e2 ?_
 exact jx_retv c2 hm rfl rfl ⟨rfl, hH2, hF2⟩
def md_X11_copyRow_78_17 : List (Nat × (Nat × Nat)) := [(17, (0, 35))]
theorem ct_X11_copyRow_78_17 (X : Int) (hX : 0 ≤ X ∧ X ≤ 100000000) (M0 : JM) (hH0 : HI X M0)  : JOk shp PJ 1 29 [.inr (.inr (.inl 78)), .inr (.inr (.inl 17))] M0 (jRv (fun M' => HI X M' ∧ Fr md_X11_copyRow_78_17 M0 M' )) := by
 refine ⟨jr_X11_copyRow, pj_X11_copyRow, fun F c1 c2 c3 => ?_⟩
 have hm := pj_X11_copyRow
 change F 0 [some (.inr (.inr (.inl 78))), some (.inr (.inr (.inl 17)))] [] M0
 have hF0 : Fr md_X11_copyRow_78_17 M0 M0 := Fr.rf _ _
 refine jx_load c1 hm rfl rfl rfl rfl ?_
 refine jy_ic c1 hm rfl (by decide) ?_
 refine jx_load c1 hm rfl rfl rfl rfl ?_
 refine jy_ic c1 hm rfl (by decide) ?_
 refine jx_load c1 hm rfl rfl rfl rfl ?_
 refine jx_alen c1 hm (v := 36) rfl sh_78 rfl rfl ?_
 refine jx_load c1 hm rfl rfl rfl rfl ?_
 refine jx_alen c1 hm (v := 36) rfl sh_17 rfl rfl ?_
 refine jx_min c1 hm rfl rfl (fun z1 lz1 uz1 ez1 => ?_)
 obtain ⟨M2, e2, hH2, hF2, n2, _⟩ := mcp hH0 hF0 (c1 := 78) (c2 := 17) (n := z1) (fun _ _ => rfl) (fun j hj => jin_of 0 rfl ⟨by omega, by omega⟩)
 refine jm_acpi c1 hm rfl rfl sh_78 sh_17 ⟨by omega, by omega, by omega⟩ e2 ?_
 exact jx_retv c2 hm rfl rfl ⟨rfl, hH2, hF2⟩
def md_X11_copyRow_79_18 : List (Nat × (Nat × Nat)) := [(18, (0, 35))]
theorem ct_X11_copyRow_79_18 (X : Int) (hX : 0 ≤ X ∧ X ≤ 100000000) (M0 : JM) (hH0 : HI X M0)  : JOk shp PJ 1 29 [.inr (.inr (.inl 79)), .inr (.inr (.inl 18))] M0 (jRv (fun M' => HI X M' ∧ Fr md_X11_copyRow_79_18 M0 M' )) := by
 refine ⟨jr_X11_copyRow, pj_X11_copyRow, fun F c1 c2 c3 => ?_⟩
 have hm := pj_X11_copyRow
 change F 0 [some (.inr (.inr (.inl 79))), some (.inr (.inr (.inl 18)))] [] M0
 have hF0 : Fr md_X11_copyRow_79_18 M0 M0 := Fr.rf _ _
 refine jx_load c1 hm rfl rfl rfl rfl ?_
 refine jy_ic c1 hm rfl (by decide) ?_
 refine jx_load c1 hm rfl rfl rfl rfl ?_
 refine jy_ic c1 hm rfl (by decide) ?_
 refine jx_load c1 hm rfl rfl rfl rfl ?_
 refine jx_alen c1 hm (v := 36) rfl sh_79 rfl rfl ?_
 refine jx_load c1 hm rfl rfl rfl rfl ?_
 refine jx_alen c1 hm (v := 36) rfl sh_18 rfl rfl ?_
 refine jx_min c1 hm rfl rfl (fun z1 lz1 uz1 ez1 => ?_)
 obtain ⟨M2, e2, hH2, hF2, n2, _⟩ := mcp hH0 hF0 (c1 := 79) (c2 := 18) (n := z1) (fun _ _ => rfl) (fun j hj => jin_of 0 rfl ⟨by omega, by omega⟩)
 refine jm_acpi c1 hm rfl rfl sh_79 sh_18 ⟨by omega, by omega, by omega⟩ e2 ?_
 exact jx_retv c2 hm rfl rfl ⟨rfl, hH2, hF2⟩
def md_X11_copyRow_80_19 : List (Nat × (Nat × Nat)) := [(19, (0, 35))]
theorem ct_X11_copyRow_80_19 (X : Int) (hX : 0 ≤ X ∧ X ≤ 100000000) (M0 : JM) (hH0 : HI X M0)  : JOk shp PJ 1 29 [.inr (.inr (.inl 80)), .inr (.inr (.inl 19))] M0 (jRv (fun M' => HI X M' ∧ Fr md_X11_copyRow_80_19 M0 M' )) := by
 refine ⟨jr_X11_copyRow, pj_X11_copyRow, fun F c1 c2 c3 => ?_⟩
 have hm := pj_X11_copyRow
 change F 0 [some (.inr (.inr (.inl 80))), some (.inr (.inr (.inl 19)))] [] M0
 have hF0 : Fr md_X11_copyRow_80_19 M0 M0 := Fr.rf _ _
 refine jx_load c1 hm rfl rfl rfl rfl ?_
 refine jy_ic c1 hm rfl (by decide) ?_
 refine jx_load c1 hm rfl rfl rfl rfl ?_
 refine jy_ic c1 hm rfl (by decide) ?_
 refine jx_load c1 hm rfl rfl rfl rfl ?_
 refine jx_alen c1 hm (v := 36) rfl sh_80 rfl rfl ?_
 refine jx_load c1 hm rfl rfl rfl rfl ?_
 refine jx_alen c1 hm (v := 36) rfl sh_19 rfl rfl ?_
 refine jx_min c1 hm rfl rfl (fun z1 lz1 uz1 ez1 => ?_)
 obtain ⟨M2, e2, hH2, hF2, n2, _⟩ := mcp hH0 hF0 (c1 := 80) (c2 := 19) (n := z1) (fun _ _ => rfl) (fun j hj => jin_of 0 rfl ⟨by omega, by omega⟩)
 refine jm_acpi c1 hm rfl rfl sh_80 sh_19 ⟨by omega, by omega, by omega⟩ e2 ?_
 exact jx_retv c2 hm rfl rfl ⟨rfl, hH2, hF2⟩
def md_X8_takeAll_12_73 : List (Nat × (Nat × Nat)) := [(12, (7, 7)), (13, (0, 5)), (14, (0, 5)), (15, (0, 5)), (16, (0, 5)), (17, (0, 35)), (18, (0, 35)), (19, (0, 35))]
theorem ct_X8_takeAll_12_73 (X : Int) (hX : 0 ≤ X ∧ X ≤ 100000000) (M0 : JM) (hH0 : HI X M0)  : JOk shp PJ 2 264 [.inr (.inr (.inl 12)), .inr (.inr (.inl 73))] M0 (jRv (fun M' => HI X M' ∧ Fr md_X8_takeAll_12_73 M0 M' )) := by
 refine ⟨jr_X8_takeAll, pj_X8_takeAll, fun F c1 c2 c3 => ?_⟩
 have hm := pj_X8_takeAll
 change F 0 [some (.inr (.inr (.inl 12))), some (.inr (.inr (.inl 73)))] [] M0
 have hF0 : Fr md_X8_takeAll_12_73 M0 M0 := Fr.rf _ _
 refine jx_load c1 hm rfl rfl rfl rfl ?_
 refine jx_getr c1 hm rfl sh_73 rfl ?_
 refine jx_load c1 hm rfl rfl rfl rfl ?_
 refine jx_getr c1 hm rfl sh_12 rfl ?_
 refine jt_v c3 hm rfl rfl pj_X11_copyRow rfl rfl rfl ((ct_X11_copyRow_74_13 X (by omega) M0 hH0 ).le (by decide)) (fun M1 ⟨hH1, hR1⟩ => ?_)
 have hF1 := hF0.tr hR1 (by decide +kernel)
 refine jx_load c1 hm rfl rfl rfl rfl ?_
 refine jx_getr c1 hm rfl sh_73 rfl ?_
 refine jx_load c1 hm rfl rfl rfl rfl ?_
 refine jx_getr c1 hm rfl sh_12 rfl ?_
 refine jt_v c3 hm rfl rfl pj_X11_copyRow rfl rfl rfl ((ct_X11_copyRow_75_14 X (by omega) M1 hH1 ).le (by decide)) (fun M2 ⟨hH2, hR2⟩ => ?_)
 have hF2 := hF1.tr hR2 (by decide +kernel)
 refine jx_load c1 hm rfl rfl rfl rfl ?_
 refine jx_getr c1 hm rfl sh_73 rfl ?_
 refine jx_load c1 hm rfl rfl rfl rfl ?_
 refine jx_getr c1 hm rfl sh_12 rfl ?_
 refine jt_v c3 hm rfl rfl pj_X11_copyRow rfl rfl rfl ((ct_X11_copyRow_76_15 X (by omega) M2 hH2 ).le (by decide)) (fun M3 ⟨hH3, hR3⟩ => ?_)
 have hF3 := hF2.tr hR3 (by decide +kernel)
 refine jx_load c1 hm rfl rfl rfl rfl ?_
 refine jx_getr c1 hm rfl sh_73 rfl ?_
 refine jx_load c1 hm rfl rfl rfl rfl ?_
 refine jx_getr c1 hm rfl sh_12 rfl ?_
 refine jt_v c3 hm rfl rfl pj_X11_copyRow rfl rfl rfl ((ct_X11_copyRow_77_16 X (by omega) M3 hH3 ).le (by decide)) (fun M4 ⟨hH4, hR4⟩ => ?_)
 have hF4 := hF3.tr hR4 (by decide +kernel)
 refine jx_load c1 hm rfl rfl rfl rfl ?_
 refine jx_getr c1 hm rfl sh_73 rfl ?_
 refine jx_load c1 hm rfl rfl rfl rfl ?_
 refine jx_getr c1 hm rfl sh_12 rfl ?_
 refine jt_v c3 hm rfl rfl pj_X11_copyRow rfl rfl rfl ((ct_X11_copyRow_78_17 X (by omega) M4 hH4 ).le (by decide)) (fun M5 ⟨hH5, hR5⟩ => ?_)
 have hF5 := hF4.tr hR5 (by decide +kernel)
 refine jx_load c1 hm rfl rfl rfl rfl ?_
 refine jx_getr c1 hm rfl sh_73 rfl ?_
 refine jx_load c1 hm rfl rfl rfl rfl ?_
 refine jx_getr c1 hm rfl sh_12 rfl ?_
 refine jt_v c3 hm rfl rfl pj_X11_copyRow rfl rfl rfl ((ct_X11_copyRow_79_18 X (by omega) M5 hH5 ).le (by decide)) (fun M6 ⟨hH6, hR6⟩ => ?_)
 have hF6 := hF5.tr hR6 (by decide +kernel)
 refine jx_load c1 hm rfl rfl rfl rfl ?_
 refine jx_getr c1 hm rfl sh_73 rfl ?_
 refine jx_load c1 hm rfl rfl rfl rfl ?_
 refine jx_getr c1 hm rfl sh_12 rfl ?_
 refine jt_v c3 hm rfl rfl pj_X11_copyRow rfl rfl rfl ((ct_X11_copyRow_80_19 X (by omega) M6 hH6 ).le (by decide)) (fun M7 ⟨hH7, hR7⟩ => ?_)
 have hF7 := hF6.tr hR7 (by decide +kernel)
 refine jx_load c1 hm rfl rfl rfl rfl ?_
 refine jx_load c1 hm rfl rfl rfl rfl ?_
 obtain ⟨z8, k9, lz8, uz8⟩ := hH7.ld (c := 73) (i := 7) (A := (-2147483648)) (B := 2147483647) rfl
 refine jx_geti c1 hm rfl sh_73 rfl k9 ?_
 obtain ⟨M10, e10, hH10, hF10, k10, n10, _⟩ := mup hH7 hF7 (c := 12) (i := 7) (v := z8) (A := (-2147483648)) (B := 2147483647) rfl ⟨by omega, by omega⟩ (jin_of 0 rfl ⟨by omega, by omega⟩)
 refine jm_puti c1 hm rfl sh_12 rfl e10 ?_
 exact jx_retv c2 hm rfl rfl ⟨rfl, hH10, hF10⟩
def md_X11_copyRow_82_13 : List (Nat × (Nat × Nat)) := [(13, (0, 5))]
theorem ct_X11_copyRow_82_13 (X : Int) (hX : 0 ≤ X ∧ X ≤ 100000000) (M0 : JM) (hH0 : HI X M0)  : JOk shp PJ 1 29 [.inr (.inr (.inl 82)), .inr (.inr (.inl 13))] M0 (jRv (fun M' => HI X M' ∧ Fr md_X11_copyRow_82_13 M0 M' )) := by
 refine ⟨jr_X11_copyRow, pj_X11_copyRow, fun F c1 c2 c3 => ?_⟩
 have hm := pj_X11_copyRow
 change F 0 [some (.inr (.inr (.inl 82))), some (.inr (.inr (.inl 13)))] [] M0
 have hF0 : Fr md_X11_copyRow_82_13 M0 M0 := Fr.rf _ _
 refine jx_load c1 hm rfl rfl rfl rfl ?_
 refine jy_ic c1 hm rfl (by decide) ?_
 refine jx_load c1 hm rfl rfl rfl rfl ?_
 refine jy_ic c1 hm rfl (by decide) ?_
 refine jx_load c1 hm rfl rfl rfl rfl ?_
 refine jx_alen c1 hm (v := 6) rfl sh_82 rfl rfl ?_
 refine jx_load c1 hm rfl rfl rfl rfl ?_
 refine jx_alen c1 hm (v := 6) rfl sh_13 rfl rfl ?_
 refine jx_min c1 hm rfl rfl (fun z1 lz1 uz1 ez1 => ?_)
 obtain ⟨M2, e2, hH2, hF2, n2, _⟩ := mcp hH0 hF0 (c1 := 82) (c2 := 13) (n := z1) (fun _ _ => rfl) (fun j hj => jin_of 0 rfl ⟨by omega, by omega⟩)
 refine jm_acpi c1 hm rfl rfl sh_82 sh_13 ⟨by omega, by omega, by omega⟩ e2 ?_
 exact jx_retv c2 hm rfl rfl ⟨rfl, hH2, hF2⟩
def md_X11_copyRow_83_14 : List (Nat × (Nat × Nat)) := [(14, (0, 5))]
theorem ct_X11_copyRow_83_14 (X : Int) (hX : 0 ≤ X ∧ X ≤ 100000000) (M0 : JM) (hH0 : HI X M0)  : JOk shp PJ 1 29 [.inr (.inr (.inl 83)), .inr (.inr (.inl 14))] M0 (jRv (fun M' => HI X M' ∧ Fr md_X11_copyRow_83_14 M0 M' )) := by
 refine ⟨jr_X11_copyRow, pj_X11_copyRow, fun F c1 c2 c3 => ?_⟩
 have hm := pj_X11_copyRow
 change F 0 [some (.inr (.inr (.inl 83))), some (.inr (.inr (.inl 14)))] [] M0
 have hF0 : Fr md_X11_copyRow_83_14 M0 M0 := Fr.rf _ _
 refine jx_load c1 hm rfl rfl rfl rfl ?_
 refine jy_ic c1 hm rfl (by decide) ?_
 refine jx_load c1 hm rfl rfl rfl rfl ?_
 refine jy_ic c1 hm rfl (by decide) ?_
 refine jx_load c1 hm rfl rfl rfl rfl ?_
 refine jx_alen c1 hm (v := 6) rfl sh_83 rfl rfl ?_
 refine jx_load c1 hm rfl rfl rfl rfl ?_
 refine jx_alen c1 hm (v := 6) rfl sh_14 rfl rfl ?_
 refine jx_min c1 hm rfl rfl (fun z1 lz1 uz1 ez1 => ?_)
 obtain ⟨M2, e2, hH2, hF2, n2, _⟩ := mcp hH0 hF0 (c1 := 83) (c2 := 14) (n := z1) (fun _ _ => rfl) (fun j hj => jin_of 0 rfl ⟨by omega, by omega⟩)
 refine jm_acpi c1 hm rfl rfl sh_83 sh_14 ⟨by omega, by omega, by omega⟩ e2 ?_
 exact jx_retv c2 hm rfl rfl ⟨rfl, hH2, hF2⟩
def md_X11_copyRow_84_15 : List (Nat × (Nat × Nat)) := [(15, (0, 5))]
theorem ct_X11_copyRow_84_15 (X : Int) (hX : 0 ≤ X ∧ X ≤ 100000000) (M0 : JM) (hH0 : HI X M0)  : JOk shp PJ 1 29 [.inr (.inr (.inl 84)), .inr (.inr (.inl 15))] M0 (jRv (fun M' => HI X M' ∧ Fr md_X11_copyRow_84_15 M0 M' )) := by
 refine ⟨jr_X11_copyRow, pj_X11_copyRow, fun F c1 c2 c3 => ?_⟩
 have hm := pj_X11_copyRow
 change F 0 [some (.inr (.inr (.inl 84))), some (.inr (.inr (.inl 15)))] [] M0
 have hF0 : Fr md_X11_copyRow_84_15 M0 M0 := Fr.rf _ _
 refine jx_load c1 hm rfl rfl rfl rfl ?_
 refine jy_ic c1 hm rfl (by decide) ?_
 refine jx_load c1 hm rfl rfl rfl rfl ?_
 refine jy_ic c1 hm rfl (by decide) ?_
 refine jx_load c1 hm rfl rfl rfl rfl ?_
 refine jx_alen c1 hm (v := 6) rfl sh_84 rfl rfl ?_
 refine jx_load c1 hm rfl rfl rfl rfl ?_
 refine jx_alen c1 hm (v := 6) rfl sh_15 rfl rfl ?_
 refine jx_min c1 hm rfl rfl (fun z1 lz1 uz1 ez1 => ?_)
 obtain ⟨M2, e2, hH2, hF2, n2, _⟩ := mcp hH0 hF0 (c1 := 84) (c2 := 15) (n := z1) (fun _ _ => rfl) (fun j hj => jin_of 0 rfl ⟨by omega, by omega⟩)
 refine jm_acpi c1 hm rfl rfl sh_84 sh_15 ⟨by omega, by omega, by omega⟩ e2 ?_
 exact jx_retv c2 hm rfl rfl ⟨rfl, hH2, hF2⟩
def md_X11_copyRow_85_16 : List (Nat × (Nat × Nat)) := [(16, (0, 5))]
theorem ct_X11_copyRow_85_16 (X : Int) (hX : 0 ≤ X ∧ X ≤ 100000000) (M0 : JM) (hH0 : HI X M0)  : JOk shp PJ 1 29 [.inr (.inr (.inl 85)), .inr (.inr (.inl 16))] M0 (jRv (fun M' => HI X M' ∧ Fr md_X11_copyRow_85_16 M0 M' )) := by
 refine ⟨jr_X11_copyRow, pj_X11_copyRow, fun F c1 c2 c3 => ?_⟩
 have hm := pj_X11_copyRow
 change F 0 [some (.inr (.inr (.inl 85))), some (.inr (.inr (.inl 16)))] [] M0
 have hF0 : Fr md_X11_copyRow_85_16 M0 M0 := Fr.rf _ _
 refine jx_load c1 hm rfl rfl rfl rfl ?_
 refine jy_ic c1 hm rfl (by decide) ?_
 refine jx_load c1 hm rfl rfl rfl rfl ?_
 refine jy_ic c1 hm rfl (by decide) ?_
 refine jx_load c1 hm rfl rfl rfl rfl ?_
 refine jx_alen c1 hm (v := 6) rfl sh_85 rfl rfl ?_
 refine jx_load c1 hm rfl rfl rfl rfl ?_
 refine jx_alen c1 hm (v := 6) rfl sh_16 rfl rfl ?_
 refine jx_min c1 hm rfl rfl (fun z1 lz1 uz1 ez1 => ?_)
 obtain ⟨M2, e2, hH2, hF2, n2, _⟩ := mcp hH0 hF0 (c1 := 85) (c2 := 16) (n := z1) (fun _ _ => rfl) (fun j hj => jin_of 0 rfl ⟨by omega, by omega⟩)
 refine jm_acpi c1 hm rfl rfl sh_85 sh_16 ⟨by omega, by omega, by omega⟩ e2 ?_
 exact jx_retv c2 hm rfl rfl ⟨rfl, hH2, hF2⟩
def md_X11_copyRow_86_17 : List (Nat × (Nat × Nat)) := [(17, (0, 35))]
theorem ct_X11_copyRow_86_17 (X : Int) (hX : 0 ≤ X ∧ X ≤ 100000000) (M0 : JM) (hH0 : HI X M0)  : JOk shp PJ 1 29 [.inr (.inr (.inl 86)), .inr (.inr (.inl 17))] M0 (jRv (fun M' => HI X M' ∧ Fr md_X11_copyRow_86_17 M0 M' )) := by
 refine ⟨jr_X11_copyRow, pj_X11_copyRow, fun F c1 c2 c3 => ?_⟩
 have hm := pj_X11_copyRow
 change F 0 [some (.inr (.inr (.inl 86))), some (.inr (.inr (.inl 17)))] [] M0
 have hF0 : Fr md_X11_copyRow_86_17 M0 M0 := Fr.rf _ _
 refine jx_load c1 hm rfl rfl rfl rfl ?_
 refine jy_ic c1 hm rfl (by decide) ?_
 refine jx_load c1 hm rfl rfl rfl rfl ?_
 refine jy_ic c1 hm rfl (by decide) ?_
 refine jx_load c1 hm rfl rfl rfl rfl ?_
 refine jx_alen c1 hm (v := 36) rfl sh_86 rfl rfl ?_
 refine jx_load c1 hm rfl rfl rfl rfl ?_
 refine jx_alen c1 hm (v := 36) rfl sh_17 rfl rfl ?_
 refine jx_min c1 hm rfl rfl (fun z1 lz1 uz1 ez1 => ?_)
 obtain ⟨M2, e2, hH2, hF2, n2, _⟩ := mcp hH0 hF0 (c1 := 86) (c2 := 17) (n := z1) (fun _ _ => rfl) (fun j hj => jin_of 0 rfl ⟨by omega, by omega⟩)
 refine jm_acpi c1 hm rfl rfl sh_86 sh_17 ⟨by omega, by omega, by omega⟩ e2 ?_
 exact jx_retv c2 hm rfl rfl ⟨rfl, hH2, hF2⟩
def md_X11_copyRow_87_18 : List (Nat × (Nat × Nat)) := [(18, (0, 35))]
theorem ct_X11_copyRow_87_18 (X : Int) (hX : 0 ≤ X ∧ X ≤ 100000000) (M0 : JM) (hH0 : HI X M0)  : JOk shp PJ 1 29 [.inr (.inr (.inl 87)), .inr (.inr (.inl 18))] M0 (jRv (fun M' => HI X M' ∧ Fr md_X11_copyRow_87_18 M0 M' )) := by
 refine ⟨jr_X11_copyRow, pj_X11_copyRow, fun F c1 c2 c3 => ?_⟩
 have hm := pj_X11_copyRow
 change F 0 [some (.inr (.inr (.inl 87))), some (.inr (.inr (.inl 18)))] [] M0
 have hF0 : Fr md_X11_copyRow_87_18 M0 M0 := Fr.rf _ _
 refine jx_load c1 hm rfl rfl rfl rfl ?_
 refine jy_ic c1 hm rfl (by decide) ?_
 refine jx_load c1 hm rfl rfl rfl rfl ?_
 refine jy_ic c1 hm rfl (by decide) ?_
 refine jx_load c1 hm rfl rfl rfl rfl ?_
 refine jx_alen c1 hm (v := 36) rfl sh_87 rfl rfl ?_
 refine jx_load c1 hm rfl rfl rfl rfl ?_
 refine jx_alen c1 hm (v := 36) rfl sh_18 rfl rfl ?_
 refine jx_min c1 hm rfl rfl (fun z1 lz1 uz1 ez1 => ?_)
 obtain ⟨M2, e2, hH2, hF2, n2, _⟩ := mcp hH0 hF0 (c1 := 87) (c2 := 18) (n := z1) (fun _ _ => rfl) (fun j hj => jin_of 0 rfl ⟨by omega, by omega⟩)
 refine jm_acpi c1 hm rfl rfl sh_87 sh_18 ⟨by omega, by omega, by omega⟩ e2 ?_
 exact jx_retv c2 hm rfl rfl ⟨rfl, hH2, hF2⟩
def md_X11_copyRow_88_19 : List (Nat × (Nat × Nat)) := [(19, (0, 35))]
theorem ct_X11_copyRow_88_19 (X : Int) (hX : 0 ≤ X ∧ X ≤ 100000000) (M0 : JM) (hH0 : HI X M0)  : JOk shp PJ 1 29 [.inr (.inr (.inl 88)), .inr (.inr (.inl 19))] M0 (jRv (fun M' => HI X M' ∧ Fr md_X11_copyRow_88_19 M0 M' )) := by
 refine ⟨jr_X11_copyRow, pj_X11_copyRow, fun F c1 c2 c3 => ?_⟩
 have hm := pj_X11_copyRow
 change F 0 [some (.inr (.inr (.inl 88))), some (.inr (.inr (.inl 19)))] [] M0
 have hF0 : Fr md_X11_copyRow_88_19 M0 M0 := Fr.rf _ _
 refine jx_load c1 hm rfl rfl rfl rfl ?_
 refine jy_ic c1 hm rfl (by decide) ?_
 refine jx_load c1 hm rfl rfl rfl rfl ?_
 refine jy_ic c1 hm rfl (by decide) ?_
 refine jx_load c1 hm rfl rfl rfl rfl ?_
 refine jx_alen c1 hm (v := 36) rfl sh_88 rfl rfl ?_
 refine jx_load c1 hm rfl rfl rfl rfl ?_
 refine jx_alen c1 hm (v := 36) rfl sh_19 rfl rfl ?_
 refine jx_min c1 hm rfl rfl (fun z1 lz1 uz1 ez1 => ?_)
 obtain ⟨M2, e2, hH2, hF2, n2, _⟩ := mcp hH0 hF0 (c1 := 88) (c2 := 19) (n := z1) (fun _ _ => rfl) (fun j hj => jin_of 0 rfl ⟨by omega, by omega⟩)
 refine jm_acpi c1 hm rfl rfl sh_88 sh_19 ⟨by omega, by omega, by omega⟩ e2 ?_
 exact jx_retv c2 hm rfl rfl ⟨rfl, hH2, hF2⟩
def md_X8_takeAll_12_81 : List (Nat × (Nat × Nat)) := [(12, (7, 7)), (13, (0, 5)), (14, (0, 5)), (15, (0, 5)), (16, (0, 5)), (17, (0, 35)), (18, (0, 35)), (19, (0, 35))]
theorem ct_X8_takeAll_12_81 (X : Int) (hX : 0 ≤ X ∧ X ≤ 100000000) (M0 : JM) (hH0 : HI X M0)  : JOk shp PJ 2 264 [.inr (.inr (.inl 12)), .inr (.inr (.inl 81))] M0 (jRv (fun M' => HI X M' ∧ Fr md_X8_takeAll_12_81 M0 M' )) := by
 refine ⟨jr_X8_takeAll, pj_X8_takeAll, fun F c1 c2 c3 => ?_⟩
 have hm := pj_X8_takeAll
 change F 0 [some (.inr (.inr (.inl 12))), some (.inr (.inr (.inl 81)))] [] M0
 have hF0 : Fr md_X8_takeAll_12_81 M0 M0 := Fr.rf _ _
 refine jx_load c1 hm rfl rfl rfl rfl ?_
 refine jx_getr c1 hm rfl sh_81 rfl ?_
 refine jx_load c1 hm rfl rfl rfl rfl ?_
 refine jx_getr c1 hm rfl sh_12 rfl ?_
 refine jt_v c3 hm rfl rfl pj_X11_copyRow rfl rfl rfl ((ct_X11_copyRow_82_13 X (by omega) M0 hH0 ).le (by decide)) (fun M1 ⟨hH1, hR1⟩ => ?_)
 have hF1 := hF0.tr hR1 (by decide +kernel)
 refine jx_load c1 hm rfl rfl rfl rfl ?_
 refine jx_getr c1 hm rfl sh_81 rfl ?_
 refine jx_load c1 hm rfl rfl rfl rfl ?_
 refine jx_getr c1 hm rfl sh_12 rfl ?_
 refine jt_v c3 hm rfl rfl pj_X11_copyRow rfl rfl rfl ((ct_X11_copyRow_83_14 X (by omega) M1 hH1 ).le (by decide)) (fun M2 ⟨hH2, hR2⟩ => ?_)
 have hF2 := hF1.tr hR2 (by decide +kernel)
 refine jx_load c1 hm rfl rfl rfl rfl ?_
 refine jx_getr c1 hm rfl sh_81 rfl ?_
 refine jx_load c1 hm rfl rfl rfl rfl ?_
 refine jx_getr c1 hm rfl sh_12 rfl ?_
 refine jt_v c3 hm rfl rfl pj_X11_copyRow rfl rfl rfl ((ct_X11_copyRow_84_15 X (by omega) M2 hH2 ).le (by decide)) (fun M3 ⟨hH3, hR3⟩ => ?_)
 have hF3 := hF2.tr hR3 (by decide +kernel)
 refine jx_load c1 hm rfl rfl rfl rfl ?_
 refine jx_getr c1 hm rfl sh_81 rfl ?_
 refine jx_load c1 hm rfl rfl rfl rfl ?_
 refine jx_getr c1 hm rfl sh_12 rfl ?_
 refine jt_v c3 hm rfl rfl pj_X11_copyRow rfl rfl rfl ((ct_X11_copyRow_85_16 X (by omega) M3 hH3 ).le (by decide)) (fun M4 ⟨hH4, hR4⟩ => ?_)
 have hF4 := hF3.tr hR4 (by decide +kernel)
 refine jx_load c1 hm rfl rfl rfl rfl ?_
 refine jx_getr c1 hm rfl sh_81 rfl ?_
 refine jx_load c1 hm rfl rfl rfl rfl ?_
 refine jx_getr c1 hm rfl sh_12 rfl ?_
 refine jt_v c3 hm rfl rfl pj_X11_copyRow rfl rfl rfl ((ct_X11_copyRow_86_17 X (by omega) M4 hH4 ).le (by decide)) (fun M5 ⟨hH5, hR5⟩ => ?_)
 have hF5 := hF4.tr hR5 (by decide +kernel)
 refine jx_load c1 hm rfl rfl rfl rfl ?_
 refine jx_getr c1 hm rfl sh_81 rfl ?_
 refine jx_load c1 hm rfl rfl rfl rfl ?_
 refine jx_getr c1 hm rfl sh_12 rfl ?_
 refine jt_v c3 hm rfl rfl pj_X11_copyRow rfl rfl rfl ((ct_X11_copyRow_87_18 X (by omega) M5 hH5 ).le (by decide)) (fun M6 ⟨hH6, hR6⟩ => ?_)
 have hF6 := hF5.tr hR6 (by decide +kernel)
 refine jx_load c1 hm rfl rfl rfl rfl ?_
 refine jx_getr c1 hm rfl sh_81 rfl ?_
 refine jx_load c1 hm rfl rfl rfl rfl ?_
 refine jx_getr c1 hm rfl sh_12 rfl ?_
 refine jt_v c3 hm rfl rfl pj_X11_copyRow rfl rfl rfl ((ct_X11_copyRow_88_19 X (by omega) M6 hH6 ).le (by decide)) (fun M7 ⟨hH7, hR7⟩ => ?_)
 have hF7 := hF6.tr hR7 (by decide +kernel)
 refine jx_load c1 hm rfl rfl rfl rfl ?_
 refine jx_load c1 hm rfl rfl rfl rfl ?_
 obtain ⟨z8, k9, lz8, uz8⟩ := hH7.ld (c := 81) (i := 7) (A := (-2147483648)) (B := 2147483647) rfl
 refine jx_geti c1 hm rfl sh_81 rfl k9 ?_
 obtain ⟨M10, e10, hH10, hF10, k10, n10, _⟩ := mup hH7 hF7 (c := 12) (i := 7) (v := z8) (A := (-2147483648)) (B := 2147483647) rfl ⟨by omega, by omega⟩ (jin_of 0 rfl ⟨by omega, by omega⟩)
 refine jm_puti c1 hm rfl sh_12 rfl e10 ?_
 exact jx_retv c2 hm rfl rfl ⟨rfl, hH10, hF10⟩
def md_X11_copyRow_90_13 : List (Nat × (Nat × Nat)) := [(13, (0, 5))]
theorem ct_X11_copyRow_90_13 (X : Int) (hX : 0 ≤ X ∧ X ≤ 100000000) (M0 : JM) (hH0 : HI X M0)  : JOk shp PJ 1 29 [.inr (.inr (.inl 90)), .inr (.inr (.inl 13))] M0 (jRv (fun M' => HI X M' ∧ Fr md_X11_copyRow_90_13 M0 M' )) := by
 refine ⟨jr_X11_copyRow, pj_X11_copyRow, fun F c1 c2 c3 => ?_⟩
 have hm := pj_X11_copyRow
 change F 0 [some (.inr (.inr (.inl 90))), some (.inr (.inr (.inl 13)))] [] M0
 have hF0 : Fr md_X11_copyRow_90_13 M0 M0 := Fr.rf _ _
 refine jx_load c1 hm rfl rfl rfl rfl ?_
 refine jy_ic c1 hm rfl (by decide) ?_
 refine jx_load c1 hm rfl rfl rfl rfl ?_
 refine jy_ic c1 hm rfl (by decide) ?_
 refine jx_load c1 hm rfl rfl rfl rfl ?_
 refine jx_alen c1 hm (v := 6) rfl sh_90 rfl rfl ?_
 refine jx_load c1 hm rfl rfl rfl rfl ?_
 refine jx_alen c1 hm (v := 6) rfl sh_13 rfl rfl ?_
 refine jx_min c1 hm rfl rfl (fun z1 lz1 uz1 ez1 => ?_)
 obtain ⟨M2, e2, hH2, hF2, n2, _⟩ := mcp hH0 hF0 (c1 := 90) (c2 := 13) (n := z1) (fun _ _ => rfl) (fun j hj => jin_of 0 rfl ⟨by omega, by omega⟩)
 refine jm_acpi c1 hm rfl rfl sh_90 sh_13 ⟨by omega, by omega, by omega⟩ e2 ?_
 exact jx_retv c2 hm rfl rfl ⟨rfl, hH2, hF2⟩
def md_X11_copyRow_91_14 : List (Nat × (Nat × Nat)) := [(14, (0, 5))]
theorem ct_X11_copyRow_91_14 (X : Int) (hX : 0 ≤ X ∧ X ≤ 100000000) (M0 : JM) (hH0 : HI X M0)  : JOk shp PJ 1 29 [.inr (.inr (.inl 91)), .inr (.inr (.inl 14))] M0 (jRv (fun M' => HI X M' ∧ Fr md_X11_copyRow_91_14 M0 M' )) := by
 refine ⟨jr_X11_copyRow, pj_X11_copyRow, fun F c1 c2 c3 => ?_⟩
 have hm := pj_X11_copyRow
 change F 0 [some (.inr (.inr (.inl 91))), some (.inr (.inr (.inl 14)))] [] M0
 have hF0 : Fr md_X11_copyRow_91_14 M0 M0 := Fr.rf _ _
 refine jx_load c1 hm rfl rfl rfl rfl ?_
 refine jy_ic c1 hm rfl (by decide) ?_
 refine jx_load c1 hm rfl rfl rfl rfl ?_
 refine jy_ic c1 hm rfl (by decide) ?_
 refine jx_load c1 hm rfl rfl rfl rfl ?_
 refine jx_alen c1 hm (v := 6) rfl sh_91 rfl rfl ?_
 refine jx_load c1 hm rfl rfl rfl rfl ?_
 refine jx_alen c1 hm (v := 6) rfl sh_14 rfl rfl ?_
 refine jx_min c1 hm rfl rfl (fun z1 lz1 uz1 ez1 => ?_)
 obtain ⟨M2, e2, hH2, hF2, n2, _⟩ := mcp hH0 hF0 (c1 := 91) (c2 := 14) (n := z1) (fun _ _ => rfl) (fun j hj => jin_of 0 rfl ⟨by omega, by omega⟩)
 refine jm_acpi c1 hm rfl rfl sh_91 sh_14 ⟨by omega, by omega, by omega⟩ e2 ?_
 exact jx_retv c2 hm rfl rfl ⟨rfl, hH2, hF2⟩
def md_X11_copyRow_92_15 : List (Nat × (Nat × Nat)) := [(15, (0, 5))]
theorem ct_X11_copyRow_92_15 (X : Int) (hX : 0 ≤ X ∧ X ≤ 100000000) (M0 : JM) (hH0 : HI X M0)  : JOk shp PJ 1 29 [.inr (.inr (.inl 92)), .inr (.inr (.inl 15))] M0 (jRv (fun M' => HI X M' ∧ Fr md_X11_copyRow_92_15 M0 M' )) := by
 refine ⟨jr_X11_copyRow, pj_X11_copyRow, fun F c1 c2 c3 => ?_⟩
 have hm := pj_X11_copyRow
 change F 0 [some (.inr (.inr (.inl 92))), some (.inr (.inr (.inl 15)))] [] M0
 have hF0 : Fr md_X11_copyRow_92_15 M0 M0 := Fr.rf _ _
 refine jx_load c1 hm rfl rfl rfl rfl ?_
 refine jy_ic c1 hm rfl (by decide) ?_
 refine jx_load c1 hm rfl rfl rfl rfl ?_
 refine jy_ic c1 hm rfl (by decide) ?_
 refine jx_load c1 hm rfl rfl rfl rfl ?_
 refine jx_alen c1 hm (v := 6) rfl sh_92 rfl rfl ?_
 refine jx_load c1 hm rfl rfl rfl rfl ?_
 refine jx_alen c1 hm (v := 6) rfl sh_15 rfl rfl ?_
 refine jx_min c1 hm rfl rfl (fun z1 lz1 uz1 ez1 => ?_)
 obtain ⟨M2, e2, hH2, hF2, n2, _⟩ := mcp hH0 hF0 (c1 := 92) (c2 := 15) (n := z1) (fun _ _ => rfl) (fun j hj => jin_of 0 rfl ⟨by omega, by omega⟩)
 refine jm_acpi c1 hm rfl rfl sh_92 sh_15 ⟨by omega, by omega, by omega⟩ e2 ?_
 exact jx_retv c2 hm rfl rfl ⟨rfl, hH2, hF2⟩
def md_X11_copyRow_93_16 : List (Nat × (Nat × Nat)) := [(16, (0, 5))]
theorem ct_X11_copyRow_93_16 (X : Int) (hX : 0 ≤ X ∧ X ≤ 100000000) (M0 : JM) (hH0 : HI X M0)  : JOk shp PJ 1 29 [.inr (.inr (.inl 93)), .inr (.inr (.inl 16))] M0 (jRv (fun M' => HI X M' ∧ Fr md_X11_copyRow_93_16 M0 M' )) := by
 refine ⟨jr_X11_copyRow, pj_X11_copyRow, fun F c1 c2 c3 => ?_⟩
 have hm := pj_X11_copyRow
 change F 0 [some (.inr (.inr (.inl 93))), some (.inr (.inr (.inl 16)))] [] M0
 have hF0 : Fr md_X11_copyRow_93_16 M0 M0 := Fr.rf _ _
 refine jx_load c1 hm rfl rfl rfl rfl ?_
 refine jy_ic c1 hm rfl (by decide) ?_
 refine jx_load c1 hm rfl rfl rfl rfl ?_
 refine jy_ic c1 hm rfl (by decide) ?_
 refine jx_load c1 hm rfl rfl rfl rfl ?_
 refine jx_alen c1 hm (v := 6) rfl sh_93 rfl rfl ?_
 refine jx_load c1 hm rfl rfl rfl rfl ?_
 refine jx_alen c1 hm (v := 6) rfl sh_16 rfl rfl ?_
 refine jx_min c1 hm rfl rfl (fun z1 lz1 uz1 ez1 => ?_)
 obtain ⟨M2, e2, hH2, hF2, n2, _⟩ := mcp hH0 hF0 (c1 := 93) (c2 := 16) (n := z1) (fun _ _ => rfl) (fun j hj => jin_of 0 rfl ⟨by omega, by omega⟩)
 refine jm_acpi c1 hm rfl rfl sh_93 sh_16 ⟨by omega, by omega, by omega⟩ e2 ?_
 exact jx_retv c2 hm rfl rfl ⟨rfl, hH2, hF2⟩
def md_X11_copyRow_94_17 : List (Nat × (Nat × Nat)) := [(17, (0, 35))]
theorem ct_X11_copyRow_94_17 (X : Int) (hX : 0 ≤ X ∧ X ≤ 100000000) (M0 : JM) (hH0 : HI X M0)  : JOk shp PJ 1 29 [.inr (.inr (.inl 94)), .inr (.inr (.inl 17))] M0 (jRv (fun M' => HI X M' ∧ Fr md_X11_copyRow_94_17 M0 M' )) := by
 refine ⟨jr_X11_copyRow, pj_X11_copyRow, fun F c1 c2 c3 => ?_⟩
 have hm := pj_X11_copyRow
 change F 0 [some (.inr (.inr (.inl 94))), some (.inr (.inr (.inl 17)))] [] M0
 have hF0 : Fr md_X11_copyRow_94_17 M0 M0 := Fr.rf _ _
 refine jx_load c1 hm rfl rfl rfl rfl ?_
 refine jy_ic c1 hm rfl (by decide) ?_
 refine jx_load c1 hm rfl rfl rfl rfl ?_
 refine jy_ic c1 hm rfl (by decide) ?_
 refine jx_load c1 hm rfl rfl rfl rfl ?_
 refine jx_alen c1 hm (v := 36) rfl sh_94 rfl rfl ?_
 refine jx_load c1 hm rfl rfl rfl rfl ?_
 refine jx_alen c1 hm (v := 36) rfl sh_17 rfl rfl ?_
 refine jx_min c1 hm rfl rfl (fun z1 lz1 uz1 ez1 => ?_)
 obtain ⟨M2, e2, hH2, hF2, n2, _⟩ := mcp hH0 hF0 (c1 := 94) (c2 := 17) (n := z1) (fun _ _ => rfl) (fun j hj => jin_of 0 rfl ⟨by omega, by omega⟩)
 refine jm_acpi c1 hm rfl rfl sh_94 sh_17 ⟨by omega, by omega, by omega⟩ e2 ?_
 exact jx_retv c2 hm rfl rfl ⟨rfl, hH2, hF2⟩
def md_X11_copyRow_95_18 : List (Nat × (Nat × Nat)) := [(18, (0, 35))]
theorem ct_X11_copyRow_95_18 (X : Int) (hX : 0 ≤ X ∧ X ≤ 100000000) (M0 : JM) (hH0 : HI X M0)  : JOk shp PJ 1 29 [.inr (.inr (.inl 95)), .inr (.inr (.inl 18))] M0 (jRv (fun M' => HI X M' ∧ Fr md_X11_copyRow_95_18 M0 M' )) := by
 refine ⟨jr_X11_copyRow, pj_X11_copyRow, fun F c1 c2 c3 => ?_⟩
 have hm := pj_X11_copyRow
 change F 0 [some (.inr (.inr (.inl 95))), some (.inr (.inr (.inl 18)))] [] M0
 have hF0 : Fr md_X11_copyRow_95_18 M0 M0 := Fr.rf _ _
 refine jx_load c1 hm rfl rfl rfl rfl ?_
 refine jy_ic c1 hm rfl (by decide) ?_
 refine jx_load c1 hm rfl rfl rfl rfl ?_
 refine jy_ic c1 hm rfl (by decide) ?_
 refine jx_load c1 hm rfl rfl rfl rfl ?_
 refine jx_alen c1 hm (v := 36) rfl sh_95 rfl rfl ?_
 refine jx_load c1 hm rfl rfl rfl rfl ?_
 refine jx_alen c1 hm (v := 36) rfl sh_18 rfl rfl ?_
 refine jx_min c1 hm rfl rfl (fun z1 lz1 uz1 ez1 => ?_)
 obtain ⟨M2, e2, hH2, hF2, n2, _⟩ := mcp hH0 hF0 (c1 := 95) (c2 := 18) (n := z1) (fun _ _ => rfl) (fun j hj => jin_of 0 rfl ⟨by omega, by omega⟩)
 refine jm_acpi c1 hm rfl rfl sh_95 sh_18 ⟨by omega, by omega, by omega⟩ e2 ?_
 exact jx_retv c2 hm rfl rfl ⟨rfl, hH2, hF2⟩
def md_X11_copyRow_96_19 : List (Nat × (Nat × Nat)) := [(19, (0, 35))]
theorem ct_X11_copyRow_96_19 (X : Int) (hX : 0 ≤ X ∧ X ≤ 100000000) (M0 : JM) (hH0 : HI X M0)  : JOk shp PJ 1 29 [.inr (.inr (.inl 96)), .inr (.inr (.inl 19))] M0 (jRv (fun M' => HI X M' ∧ Fr md_X11_copyRow_96_19 M0 M' )) := by
 refine ⟨jr_X11_copyRow, pj_X11_copyRow, fun F c1 c2 c3 => ?_⟩
 have hm := pj_X11_copyRow
 change F 0 [some (.inr (.inr (.inl 96))), some (.inr (.inr (.inl 19)))] [] M0
 have hF0 : Fr md_X11_copyRow_96_19 M0 M0 := Fr.rf _ _
 refine jx_load c1 hm rfl rfl rfl rfl ?_
 refine jy_ic c1 hm rfl (by decide) ?_
 refine jx_load c1 hm rfl rfl rfl rfl ?_
 refine jy_ic c1 hm rfl (by decide) ?_
 refine jx_load c1 hm rfl rfl rfl rfl ?_
 refine jx_alen c1 hm (v := 36) rfl sh_96 rfl rfl ?_
 refine jx_load c1 hm rfl rfl rfl rfl ?_
 refine jx_alen c1 hm (v := 36) rfl sh_19 rfl rfl ?_
 refine jx_min c1 hm rfl rfl (fun z1 lz1 uz1 ez1 => ?_)
 obtain ⟨M2, e2, hH2, hF2, n2, _⟩ := mcp hH0 hF0 (c1 := 96) (c2 := 19) (n := z1) (fun _ _ => rfl) (fun j hj => jin_of 0 rfl ⟨by omega, by omega⟩)
 refine jm_acpi c1 hm rfl rfl sh_96 sh_19 ⟨by omega, by omega, by omega⟩ e2 ?_
 exact jx_retv c2 hm rfl rfl ⟨rfl, hH2, hF2⟩
def md_X8_takeAll_12_89 : List (Nat × (Nat × Nat)) := [(12, (7, 7)), (13, (0, 5)), (14, (0, 5)), (15, (0, 5)), (16, (0, 5)), (17, (0, 35)), (18, (0, 35)), (19, (0, 35))]
theorem ct_X8_takeAll_12_89 (X : Int) (hX : 0 ≤ X ∧ X ≤ 100000000) (M0 : JM) (hH0 : HI X M0)  : JOk shp PJ 2 264 [.inr (.inr (.inl 12)), .inr (.inr (.inl 89))] M0 (jRv (fun M' => HI X M' ∧ Fr md_X8_takeAll_12_89 M0 M' )) := by
 refine ⟨jr_X8_takeAll, pj_X8_takeAll, fun F c1 c2 c3 => ?_⟩
 have hm := pj_X8_takeAll
 change F 0 [some (.inr (.inr (.inl 12))), some (.inr (.inr (.inl 89)))] [] M0
 have hF0 : Fr md_X8_takeAll_12_89 M0 M0 := Fr.rf _ _
 refine jx_load c1 hm rfl rfl rfl rfl ?_
 refine jx_getr c1 hm rfl sh_89 rfl ?_
 refine jx_load c1 hm rfl rfl rfl rfl ?_
 refine jx_getr c1 hm rfl sh_12 rfl ?_
 refine jt_v c3 hm rfl rfl pj_X11_copyRow rfl rfl rfl ((ct_X11_copyRow_90_13 X (by omega) M0 hH0 ).le (by decide)) (fun M1 ⟨hH1, hR1⟩ => ?_)
 have hF1 := hF0.tr hR1 (by decide +kernel)
 refine jx_load c1 hm rfl rfl rfl rfl ?_
 refine jx_getr c1 hm rfl sh_89 rfl ?_
 refine jx_load c1 hm rfl rfl rfl rfl ?_
 refine jx_getr c1 hm rfl sh_12 rfl ?_
 refine jt_v c3 hm rfl rfl pj_X11_copyRow rfl rfl rfl ((ct_X11_copyRow_91_14 X (by omega) M1 hH1 ).le (by decide)) (fun M2 ⟨hH2, hR2⟩ => ?_)
 have hF2 := hF1.tr hR2 (by decide +kernel)
 refine jx_load c1 hm rfl rfl rfl rfl ?_
 refine jx_getr c1 hm rfl sh_89 rfl ?_
 refine jx_load c1 hm rfl rfl rfl rfl ?_
 refine jx_getr c1 hm rfl sh_12 rfl ?_
 refine jt_v c3 hm rfl rfl pj_X11_copyRow rfl rfl rfl ((ct_X11_copyRow_92_15 X (by omega) M2 hH2 ).le (by decide)) (fun M3 ⟨hH3, hR3⟩ => ?_)
 have hF3 := hF2.tr hR3 (by decide +kernel)
 refine jx_load c1 hm rfl rfl rfl rfl ?_
 refine jx_getr c1 hm rfl sh_89 rfl ?_
 refine jx_load c1 hm rfl rfl rfl rfl ?_
 refine jx_getr c1 hm rfl sh_12 rfl ?_
 refine jt_v c3 hm rfl rfl pj_X11_copyRow rfl rfl rfl ((ct_X11_copyRow_93_16 X (by omega) M3 hH3 ).le (by decide)) (fun M4 ⟨hH4, hR4⟩ => ?_)
 have hF4 := hF3.tr hR4 (by decide +kernel)
 refine jx_load c1 hm rfl rfl rfl rfl ?_
 refine jx_getr c1 hm rfl sh_89 rfl ?_
 refine jx_load c1 hm rfl rfl rfl rfl ?_
 refine jx_getr c1 hm rfl sh_12 rfl ?_
 refine jt_v c3 hm rfl rfl pj_X11_copyRow rfl rfl rfl ((ct_X11_copyRow_94_17 X (by omega) M4 hH4 ).le (by decide)) (fun M5 ⟨hH5, hR5⟩ => ?_)
 have hF5 := hF4.tr hR5 (by decide +kernel)
 refine jx_load c1 hm rfl rfl rfl rfl ?_
 refine jx_getr c1 hm rfl sh_89 rfl ?_
 refine jx_load c1 hm rfl rfl rfl rfl ?_
 refine jx_getr c1 hm rfl sh_12 rfl ?_
 refine jt_v c3 hm rfl rfl pj_X11_copyRow rfl rfl rfl ((ct_X11_copyRow_95_18 X (by omega) M5 hH5 ).le (by decide)) (fun M6 ⟨hH6, hR6⟩ => ?_)
 have hF6 := hF5.tr hR6 (by decide +kernel)
 refine jx_load c1 hm rfl rfl rfl rfl ?_
 refine jx_getr c1 hm rfl sh_89 rfl ?_
 refine jx_load c1 hm rfl rfl rfl rfl ?_
 refine jx_getr c1 hm rfl sh_12 rfl ?_
 refine jt_v c3 hm rfl rfl pj_X11_copyRow rfl rfl rfl ((ct_X11_copyRow_96_19 X (by omega) M6 hH6 ).le (by decide)) (fun M7 ⟨hH7, hR7⟩ => ?_)
 have hF7 := hF6.tr hR7 (by decide +kernel)
 refine jx_load c1 hm rfl rfl rfl rfl ?_
 refine jx_load c1 hm rfl rfl rfl rfl ?_
 obtain ⟨z8, k9, lz8, uz8⟩ := hH7.ld (c := 89) (i := 7) (A := (-2147483648)) (B := 2147483647) rfl
 refine jx_geti c1 hm rfl sh_89 rfl k9 ?_
 obtain ⟨M10, e10, hH10, hF10, k10, n10, _⟩ := mup hH7 hF7 (c := 12) (i := 7) (v := z8) (A := (-2147483648)) (B := 2147483647) rfl ⟨by omega, by omega⟩ (jin_of 0 rfl ⟨by omega, by omega⟩)
 refine jm_puti c1 hm rfl sh_12 rfl e10 ?_
 exact jx_retv c2 hm rfl rfl ⟨rfl, hH10, hF10⟩
def md_X11_copyRow_98_13 : List (Nat × (Nat × Nat)) := [(13, (0, 5))]
theorem ct_X11_copyRow_98_13 (X : Int) (hX : 0 ≤ X ∧ X ≤ 100000000) (M0 : JM) (hH0 : HI X M0)  : JOk shp PJ 1 29 [.inr (.inr (.inl 98)), .inr (.inr (.inl 13))] M0 (jRv (fun M' => HI X M' ∧ Fr md_X11_copyRow_98_13 M0 M' )) := by
 refine ⟨jr_X11_copyRow, pj_X11_copyRow, fun F c1 c2 c3 => ?_⟩
 have hm := pj_X11_copyRow
 change F 0 [some (.inr (.inr (.inl 98))), some (.inr (.inr (.inl 13)))] [] M0
 have hF0 : Fr md_X11_copyRow_98_13 M0 M0 := Fr.rf _ _
 refine jx_load c1 hm rfl rfl rfl rfl ?_
 refine jy_ic c1 hm rfl (by decide) ?_
 refine jx_load c1 hm rfl rfl rfl rfl ?_
 refine jy_ic c1 hm rfl (by decide) ?_
 refine jx_load c1 hm rfl rfl rfl rfl ?_
 refine jx_alen c1 hm (v := 6) rfl sh_98 rfl rfl ?_
 refine jx_load c1 hm rfl rfl rfl rfl ?_
 refine jx_alen c1 hm (v := 6) rfl sh_13 rfl rfl ?_
 refine jx_min c1 hm rfl rfl (fun z1 lz1 uz1 ez1 => ?_)
 obtain ⟨M2, e2, hH2, hF2, n2, _⟩ := mcp hH0 hF0 (c1 := 98) (c2 := 13) (n := z1) (fun _ _ => rfl) (fun j hj => jin_of 0 rfl ⟨by omega, by omega⟩)
 refine jm_acpi c1 hm rfl rfl sh_98 sh_13 ⟨by omega, by omega, by omega⟩ e2 ?_
 exact jx_retv c2 hm rfl rfl ⟨rfl, hH2, hF2⟩
def md_X11_copyRow_99_14 : List (Nat × (Nat × Nat)) := [(14, (0, 5))]
theorem ct_X11_copyRow_99_14 (X : Int) (hX : 0 ≤ X ∧ X ≤ 100000000) (M0 : JM) (hH0 : HI X M0)  : JOk shp PJ 1 29 [.inr (.inr (.inl 99)), .inr (.inr (.inl 14))] M0 (jRv (fun M' => HI X M' ∧ Fr md_X11_copyRow_99_14 M0 M' )) := by
 refine ⟨jr_X11_copyRow, pj_X11_copyRow, fun F c1 c2 c3 => ?_⟩
 have hm := pj_X11_copyRow
 change F 0 [some (.inr (.inr (.inl 99))), some (.inr (.inr (.inl 14)))] [] M0
 have hF0 : Fr md_X11_copyRow_99_14 M0 M0 := Fr.rf _ _
 refine jx_load c1 hm rfl rfl rfl rfl ?_
 refine jy_ic c1 hm rfl (by decide) ?_
 refine jx_load c1 hm rfl rfl rfl rfl ?_
 refine jy_ic c1 hm rfl (by decide) ?_
 refine jx_load c1 hm rfl rfl rfl rfl ?_
 refine jx_alen c1 hm (v := 6) rfl sh_99 rfl rfl ?_
 refine jx_load c1 hm rfl rfl rfl rfl ?_
 refine jx_alen c1 hm (v := 6) rfl sh_14 rfl rfl ?_
 refine jx_min c1 hm rfl rfl (fun z1 lz1 uz1 ez1 => ?_)
 obtain ⟨M2, e2, hH2, hF2, n2, _⟩ := mcp hH0 hF0 (c1 := 99) (c2 := 14) (n := z1) (fun _ _ => rfl) (fun j hj => jin_of 0 rfl ⟨by omega, by omega⟩)
 refine jm_acpi c1 hm rfl rfl sh_99 sh_14 ⟨by omega, by omega, by omega⟩ e2 ?_
 exact jx_retv c2 hm rfl rfl ⟨rfl, hH2, hF2⟩
def md_X11_copyRow_100_15 : List (Nat × (Nat × Nat)) := [(15, (0, 5))]
theorem ct_X11_copyRow_100_15 (X : Int) (hX : 0 ≤ X ∧ X ≤ 100000000) (M0 : JM) (hH0 : HI X M0)  : JOk shp PJ 1 29 [.inr (.inr (.inl 100)), .inr (.inr (.inl 15))] M0 (jRv (fun M' => HI X M' ∧ Fr md_X11_copyRow_100_15 M0 M' )) := by
 refine ⟨jr_X11_copyRow, pj_X11_copyRow, fun F c1 c2 c3 => ?_⟩
 have hm := pj_X11_copyRow
 change F 0 [some (.inr (.inr (.inl 100))), some (.inr (.inr (.inl 15)))] [] M0
 have hF0 : Fr md_X11_copyRow_100_15 M0 M0 := Fr.rf _ _
 refine jx_load c1 hm rfl rfl rfl rfl ?_
 refine jy_ic c1 hm rfl (by decide) ?_
 refine jx_load c1 hm rfl rfl rfl rfl ?_
 refine jy_ic c1 hm rfl (by decide) ?_
 refine jx_load c1 hm rfl rfl rfl rfl ?_
 refine jx_alen c1 hm (v := 6) rfl sh_100 rfl rfl ?_
 refine jx_load c1 hm rfl rfl rfl rfl ?_
 refine jx_alen c1 hm (v := 6) rfl sh_15 rfl rfl ?_
 refine jx_min c1 hm rfl rfl (fun z1 lz1 uz1 ez1 => ?_)
 obtain ⟨M2, e2, hH2, hF2, n2, _⟩ := mcp hH0 hF0 (c1 := 100) (c2 := 15) (n := z1) (fun _ _ => rfl) (fun j hj => jin_of 0 rfl ⟨by omega, by omega⟩)
 refine jm_acpi c1 hm rfl rfl sh_100 sh_15 ⟨by omega, by omega, by omega⟩ e2 ?_
 exact jx_retv c2 hm rfl rfl ⟨rfl, hH2, hF2⟩
def md_X11_copyRow_101_16 : List (Nat × (Nat × Nat)) := [(16, (0, 5))]
theorem ct_X11_copyRow_101_16 (X : Int) (hX : 0 ≤ X ∧ X ≤ 100000000) (M0 : JM) (hH0 : HI X M0)  : JOk shp PJ 1 29 [.inr (.inr (.inl 101)), .inr (.inr (.inl 16))] M0 (jRv (fun M' => HI X M' ∧ Fr md_X11_copyRow_101_16 M0 M' )) := by
 refine ⟨jr_X11_copyRow, pj_X11_copyRow, fun F c1 c2 c3 => ?_⟩
 have hm := pj_X11_copyRow
 change F 0 [some (.inr (.inr (.inl 101))), some (.inr (.inr (.inl 16)))] [] M0
 have hF0 : Fr md_X11_copyRow_101_16 M0 M0 := Fr.rf _ _
 refine jx_load c1 hm rfl rfl rfl rfl ?_
 refine jy_ic c1 hm rfl (by decide) ?_
 refine jx_load c1 hm rfl rfl rfl rfl ?_
 refine jy_ic c1 hm rfl (by decide) ?_
 refine jx_load c1 hm rfl rfl rfl rfl ?_
 refine jx_alen c1 hm (v := 6) rfl sh_101 rfl rfl ?_
 refine jx_load c1 hm rfl rfl rfl rfl ?_
 refine jx_alen c1 hm (v := 6) rfl sh_16 rfl rfl ?_
 refine jx_min c1 hm rfl rfl (fun z1 lz1 uz1 ez1 => ?_)
 obtain ⟨M2, e2, hH2, hF2, n2, _⟩ := mcp hH0 hF0 (c1 := 101) (c2 := 16) (n := z1) (fun _ _ => rfl) (fun j hj => jin_of 0 rfl ⟨by omega, by omega⟩)
 refine jm_acpi c1 hm rfl rfl sh_101 sh_16 ⟨by omega, by omega, by omega⟩ e2 ?_
 exact jx_retv c2 hm rfl rfl ⟨rfl, hH2, hF2⟩
def md_X11_copyRow_102_17 : List (Nat × (Nat × Nat)) := [(17, (0, 35))]
theorem ct_X11_copyRow_102_17 (X : Int) (hX : 0 ≤ X ∧ X ≤ 100000000) (M0 : JM) (hH0 : HI X M0)  : JOk shp PJ 1 29 [.inr (.inr (.inl 102)), .inr (.inr (.inl 17))] M0 (jRv (fun M' => HI X M' ∧ Fr md_X11_copyRow_102_17 M0 M' )) := by
 refine ⟨jr_X11_copyRow, pj_X11_copyRow, fun F c1 c2 c3 => ?_⟩
 have hm := pj_X11_copyRow
 change F 0 [some (.inr (.inr (.inl 102))), some (.inr (.inr (.inl 17)))] [] M0
 have hF0 : Fr md_X11_copyRow_102_17 M0 M0 := Fr.rf _ _
 refine jx_load c1 hm rfl rfl rfl rfl ?_
 refine jy_ic c1 hm rfl (by decide) ?_
 refine jx_load c1 hm rfl rfl rfl rfl ?_
 refine jy_ic c1 hm rfl (by decide) ?_
 refine jx_load c1 hm rfl rfl rfl rfl ?_
 refine jx_alen c1 hm (v := 36) rfl sh_102 rfl rfl ?_
 refine jx_load c1 hm rfl rfl rfl rfl ?_
 refine jx_alen c1 hm (v := 36) rfl sh_17 rfl rfl ?_
 refine jx_min c1 hm rfl rfl (fun z1 lz1 uz1 ez1 => ?_)
 obtain ⟨M2, e2, hH2, hF2, n2, _⟩ := mcp hH0 hF0 (c1 := 102) (c2 := 17) (n := z1) (fun _ _ => rfl) (fun j hj => jin_of 0 rfl ⟨by omega, by omega⟩)
 refine jm_acpi c1 hm rfl rfl sh_102 sh_17 ⟨by omega, by omega, by omega⟩ e2 ?_
 exact jx_retv c2 hm rfl rfl ⟨rfl, hH2, hF2⟩
def md_X11_copyRow_103_18 : List (Nat × (Nat × Nat)) := [(18, (0, 35))]
theorem ct_X11_copyRow_103_18 (X : Int) (hX : 0 ≤ X ∧ X ≤ 100000000) (M0 : JM) (hH0 : HI X M0)  : JOk shp PJ 1 29 [.inr (.inr (.inl 103)), .inr (.inr (.inl 18))] M0 (jRv (fun M' => HI X M' ∧ Fr md_X11_copyRow_103_18 M0 M' )) := by
 refine ⟨jr_X11_copyRow, pj_X11_copyRow, fun F c1 c2 c3 => ?_⟩
 have hm := pj_X11_copyRow
 change F 0 [some (.inr (.inr (.inl 103))), some (.inr (.inr (.inl 18)))] [] M0
 have hF0 : Fr md_X11_copyRow_103_18 M0 M0 := Fr.rf _ _
 refine jx_load c1 hm rfl rfl rfl rfl ?_
 refine jy_ic c1 hm rfl (by decide) ?_
 refine jx_load c1 hm rfl rfl rfl rfl ?_
 refine jy_ic c1 hm rfl (by decide) ?_
 refine jx_load c1 hm rfl rfl rfl rfl ?_
 refine jx_alen c1 hm (v := 36) rfl sh_103 rfl rfl ?_
 refine jx_load c1 hm rfl rfl rfl rfl ?_
 refine jx_alen c1 hm (v := 36) rfl sh_18 rfl rfl ?_
 refine jx_min c1 hm rfl rfl (fun z1 lz1 uz1 ez1 => ?_)
 obtain ⟨M2, e2, hH2, hF2, n2, _⟩ := mcp hH0 hF0 (c1 := 103) (c2 := 18) (n := z1) (fun _ _ => rfl) (fun j hj => jin_of 0 rfl ⟨by omega, by omega⟩)
 refine jm_acpi c1 hm rfl rfl sh_103 sh_18 ⟨by omega, by omega, by omega⟩ e2 ?_
 exact jx_retv c2 hm rfl rfl ⟨rfl, hH2, hF2⟩
def md_X11_copyRow_104_19 : List (Nat × (Nat × Nat)) := [(19, (0, 35))]
theorem ct_X11_copyRow_104_19 (X : Int) (hX : 0 ≤ X ∧ X ≤ 100000000) (M0 : JM) (hH0 : HI X M0)  : JOk shp PJ 1 29 [.inr (.inr (.inl 104)), .inr (.inr (.inl 19))] M0 (jRv (fun M' => HI X M' ∧ Fr md_X11_copyRow_104_19 M0 M' )) := by
 refine ⟨jr_X11_copyRow, pj_X11_copyRow, fun F c1 c2 c3 => ?_⟩
 have hm := pj_X11_copyRow
 change F 0 [some (.inr (.inr (.inl 104))), some (.inr (.inr (.inl 19)))] [] M0
 have hF0 : Fr md_X11_copyRow_104_19 M0 M0 := Fr.rf _ _
 refine jx_load c1 hm rfl rfl rfl rfl ?_
 refine jy_ic c1 hm rfl (by decide) ?_
 refine jx_load c1 hm rfl rfl rfl rfl ?_
 refine jy_ic c1 hm rfl (by decide) ?_
 refine jx_load c1 hm rfl rfl rfl rfl ?_
 refine jx_alen c1 hm (v := 36) rfl sh_104 rfl rfl ?_
 refine jx_load c1 hm rfl rfl rfl rfl ?_
 refine jx_alen c1 hm (v := 36) rfl sh_19 rfl rfl ?_
 refine jx_min c1 hm rfl rfl (fun z1 lz1 uz1 ez1 => ?_)
 obtain ⟨M2, e2, hH2, hF2, n2, _⟩ := mcp hH0 hF0 (c1 := 104) (c2 := 19) (n := z1) (fun _ _ => rfl) (fun j hj => jin_of 0 rfl ⟨by omega, by omega⟩)
 refine jm_acpi c1 hm rfl rfl sh_104 sh_19 ⟨by omega, by omega, by omega⟩ e2 ?_
 exact jx_retv c2 hm rfl rfl ⟨rfl, hH2, hF2⟩
def md_X8_takeAll_12_97 : List (Nat × (Nat × Nat)) := [(12, (7, 7)), (13, (0, 5)), (14, (0, 5)), (15, (0, 5)), (16, (0, 5)), (17, (0, 35)), (18, (0, 35)), (19, (0, 35))]
theorem ct_X8_takeAll_12_97 (X : Int) (hX : 0 ≤ X ∧ X ≤ 100000000) (M0 : JM) (hH0 : HI X M0)  : JOk shp PJ 2 264 [.inr (.inr (.inl 12)), .inr (.inr (.inl 97))] M0 (jRv (fun M' => HI X M' ∧ Fr md_X8_takeAll_12_97 M0 M' )) := by
 refine ⟨jr_X8_takeAll, pj_X8_takeAll, fun F c1 c2 c3 => ?_⟩
 have hm := pj_X8_takeAll
 change F 0 [some (.inr (.inr (.inl 12))), some (.inr (.inr (.inl 97)))] [] M0
 have hF0 : Fr md_X8_takeAll_12_97 M0 M0 := Fr.rf _ _
 refine jx_load c1 hm rfl rfl rfl rfl ?_
 refine jx_getr c1 hm rfl sh_97 rfl ?_
 refine jx_load c1 hm rfl rfl rfl rfl ?_
 refine jx_getr c1 hm rfl sh_12 rfl ?_
 refine jt_v c3 hm rfl rfl pj_X11_copyRow rfl rfl rfl ((ct_X11_copyRow_98_13 X (by omega) M0 hH0 ).le (by decide)) (fun M1 ⟨hH1, hR1⟩ => ?_)
 have hF1 := hF0.tr hR1 (by decide +kernel)
 refine jx_load c1 hm rfl rfl rfl rfl ?_
 refine jx_getr c1 hm rfl sh_97 rfl ?_
 refine jx_load c1 hm rfl rfl rfl rfl ?_
 refine jx_getr c1 hm rfl sh_12 rfl ?_
 refine jt_v c3 hm rfl rfl pj_X11_copyRow rfl rfl rfl ((ct_X11_copyRow_99_14 X (by omega) M1 hH1 ).le (by decide)) (fun M2 ⟨hH2, hR2⟩ => ?_)
 have hF2 := hF1.tr hR2 (by decide +kernel)
 refine jx_load c1 hm rfl rfl rfl rfl ?_
 refine jx_getr c1 hm rfl sh_97 rfl ?_
 refine jx_load c1 hm rfl rfl rfl rfl ?_
 refine jx_getr c1 hm rfl sh_12 rfl ?_
 refine jt_v c3 hm rfl rfl pj_X11_copyRow rfl rfl rfl ((ct_X11_copyRow_100_15 X (by omega) M2 hH2 ).le (by decide)) (fun M3 ⟨hH3, hR3⟩ => ?_)
 have hF3 := hF2.tr hR3 (by decide +kernel)
 refine jx_load c1 hm rfl rfl rfl rfl ?_
 refine jx_getr c1 hm rfl sh_97 rfl ?_
 refine jx_load c1 hm rfl rfl rfl rfl ?_
 refine jx_getr c1 hm rfl sh_12 rfl ?_
 refine jt_v c3 hm rfl rfl pj_X11_copyRow rfl rfl rfl ((ct_X11_copyRow_101_16 X (by omega) M3 hH3 ).le (by decide)) (fun M4 ⟨hH4, hR4⟩ => ?_)
 have hF4 := hF3.tr hR4 (by decide +kernel)
 refine jx_load c1 hm rfl rfl rfl rfl ?_
 refine jx_getr c1 hm rfl sh_97 rfl ?_
 refine jx_load c1 hm rfl rfl rfl rfl ?_
 refine jx_getr c1 hm rfl sh_12 rfl ?_
 refine jt_v c3 hm rfl rfl pj_X11_copyRow rfl rfl rfl ((ct_X11_copyRow_102_17 X (by omega) M4 hH4 ).le (by decide)) (fun M5 ⟨hH5, hR5⟩ => ?_)
 have hF5 := hF4.tr hR5 (by decide +kernel)
 refine jx_load c1 hm rfl rfl rfl rfl ?_
 refine jx_getr c1 hm rfl sh_97 rfl ?_
 refine jx_load c1 hm rfl rfl rfl rfl ?_
 refine jx_getr c1 hm rfl sh_12 rfl ?_
 refine jt_v c3 hm rfl rfl pj_X11_copyRow rfl rfl rfl ((ct_X11_copyRow_103_18 X (by omega) M5 hH5 ).le (by decide)) (fun M6 ⟨hH6, hR6⟩ => ?_)
 have hF6 := hF5.tr hR6 (by decide +kernel)
 refine jx_load c1 hm rfl rfl rfl rfl ?_
 refine jx_getr c1 hm rfl sh_97 rfl ?_
 refine jx_load c1 hm rfl rfl rfl rfl ?_
 refine jx_getr c1 hm rfl sh_12 rfl ?_
 refine jt_v c3 hm rfl rfl pj_X11_copyRow rfl rfl rfl ((ct_X11_copyRow_104_19 X (by omega) M6 hH6 ).le (by decide)) (fun M7 ⟨hH7, hR7⟩ => ?_)
 have hF7 := hF6.tr hR7 (by decide +kernel)
 refine jx_load c1 hm rfl rfl rfl rfl ?_
 refine jx_load c1 hm rfl rfl rfl rfl ?_
 obtain ⟨z8, k9, lz8, uz8⟩ := hH7.ld (c := 97) (i := 7) (A := (-2147483648)) (B := 2147483647) rfl
 refine jx_geti c1 hm rfl sh_97 rfl k9 ?_
 obtain ⟨M10, e10, hH10, hF10, k10, n10, _⟩ := mup hH7 hF7 (c := 12) (i := 7) (v := z8) (A := (-2147483648)) (B := 2147483647) rfl ⟨by omega, by omega⟩ (jin_of 0 rfl ⟨by omega, by omega⟩)
 refine jm_puti c1 hm rfl sh_12 rfl e10 ?_
 exact jx_retv c2 hm rfl rfl ⟨rfl, hH10, hF10⟩
