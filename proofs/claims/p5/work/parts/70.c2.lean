/-! Contracts of the class (by wip/q/wlk.py). -/
def md_X11_copyRow_106_13 : List (Nat × (Nat × Nat)) := [(13, (0, 5))]
theorem ct_X11_copyRow_106_13 (X : Int) (hX : 0 ≤ X ∧ X ≤ 100000000) (M0 : JM) (hH0 : HI X M0)  : JOk shp PJ 1 29 [.inr (.inr (.inl 106)), .inr (.inr (.inl 13))] M0 (jRv (fun M' => HI X M' ∧ Fr md_X11_copyRow_106_13 M0 M' )) := by
 refine ⟨jr_X11_copyRow, pj_X11_copyRow, fun F c1 c2 c3 => ?_⟩
 have hm := pj_X11_copyRow
 change F 0 [some (.inr (.inr (.inl 106))), some (.inr (.inr (.inl 13)))] [] M0
 have hF0 : Fr md_X11_copyRow_106_13 M0 M0 := Fr.rf _ _
 refine jx_load c1 hm rfl rfl rfl rfl ?_
 refine jy_ic c1 hm rfl (by decide) ?_
 refine jx_load c1 hm rfl rfl rfl rfl ?_
 refine jy_ic c1 hm rfl (by decide) ?_
 refine jx_load c1 hm rfl rfl rfl rfl ?_
 refine jx_alen c1 hm (v := 6) rfl sh_106 rfl rfl ?_
 refine jx_load c1 hm rfl rfl rfl rfl ?_
 refine jx_alen c1 hm (v := 6) rfl sh_13 rfl rfl ?_
 refine jx_min c1 hm rfl rfl (fun z1 lz1 uz1 ez1 => ?_)
 obtain ⟨M2, e2, hH2, hF2, n2, _⟩ := mcp hH0 hF0 (c1 := 106) (c2 := 13) (n := z1) (fun _ _ => rfl) (fun j hj => jin_of 0 rfl ⟨by omega, by omega⟩)
 refine jm_acpi c1 hm rfl rfl sh_106 sh_13 ⟨by omega, by omega, by omega⟩ e2 ?_
 exact jx_retv c2 hm rfl rfl ⟨rfl, hH2, hF2⟩
def md_X11_copyRow_107_14 : List (Nat × (Nat × Nat)) := [(14, (0, 5))]
theorem ct_X11_copyRow_107_14 (X : Int) (hX : 0 ≤ X ∧ X ≤ 100000000) (M0 : JM) (hH0 : HI X M0)  : JOk shp PJ 1 29 [.inr (.inr (.inl 107)), .inr (.inr (.inl 14))] M0 (jRv (fun M' => HI X M' ∧ Fr md_X11_copyRow_107_14 M0 M' )) := by
 refine ⟨jr_X11_copyRow, pj_X11_copyRow, fun F c1 c2 c3 => ?_⟩
 have hm := pj_X11_copyRow
 change F 0 [some (.inr (.inr (.inl 107))), some (.inr (.inr (.inl 14)))] [] M0
 have hF0 : Fr md_X11_copyRow_107_14 M0 M0 := Fr.rf _ _
 refine jx_load c1 hm rfl rfl rfl rfl ?_
 refine jy_ic c1 hm rfl (by decide) ?_
 refine jx_load c1 hm rfl rfl rfl rfl ?_
 refine jy_ic c1 hm rfl (by decide) ?_
 refine jx_load c1 hm rfl rfl rfl rfl ?_
 refine jx_alen c1 hm (v := 6) rfl sh_107 rfl rfl ?_
 refine jx_load c1 hm rfl rfl rfl rfl ?_
 refine jx_alen c1 hm (v := 6) rfl sh_14 rfl rfl ?_
 refine jx_min c1 hm rfl rfl (fun z1 lz1 uz1 ez1 => ?_)
 obtain ⟨M2, e2, hH2, hF2, n2, _⟩ := mcp hH0 hF0 (c1 := 107) (c2 := 14) (n := z1) (fun _ _ => rfl) (fun j hj => jin_of 0 rfl ⟨by omega, by omega⟩)
 refine jm_acpi c1 hm rfl rfl sh_107 sh_14 ⟨by omega, by omega, by omega⟩ e2 ?_
 exact jx_retv c2 hm rfl rfl ⟨rfl, hH2, hF2⟩
def md_X11_copyRow_108_15 : List (Nat × (Nat × Nat)) := [(15, (0, 5))]
theorem ct_X11_copyRow_108_15 (X : Int) (hX : 0 ≤ X ∧ X ≤ 100000000) (M0 : JM) (hH0 : HI X M0)  : JOk shp PJ 1 29 [.inr (.inr (.inl 108)), .inr (.inr (.inl 15))] M0 (jRv (fun M' => HI X M' ∧ Fr md_X11_copyRow_108_15 M0 M' )) := by
 refine ⟨jr_X11_copyRow, pj_X11_copyRow, fun F c1 c2 c3 => ?_⟩
 have hm := pj_X11_copyRow
 change F 0 [some (.inr (.inr (.inl 108))), some (.inr (.inr (.inl 15)))] [] M0
 have hF0 : Fr md_X11_copyRow_108_15 M0 M0 := Fr.rf _ _
 refine jx_load c1 hm rfl rfl rfl rfl ?_
 refine jy_ic c1 hm rfl (by decide) ?_
 refine jx_load c1 hm rfl rfl rfl rfl ?_
 refine jy_ic c1 hm rfl (by decide) ?_
 refine jx_load c1 hm rfl rfl rfl rfl ?_
 refine jx_alen c1 hm (v := 6) rfl sh_108 rfl rfl ?_
 refine jx_load c1 hm rfl rfl rfl rfl ?_
 refine jx_alen c1 hm (v := 6) rfl sh_15 rfl rfl ?_
 refine jx_min c1 hm rfl rfl (fun z1 lz1 uz1 ez1 => ?_)
 obtain ⟨M2, e2, hH2, hF2, n2, _⟩ := mcp hH0 hF0 (c1 := 108) (c2 := 15) (n := z1) (fun _ _ => rfl) (fun j hj => jin_of 0 rfl ⟨by omega, by omega⟩)
 refine jm_acpi c1 hm rfl rfl sh_108 sh_15 ⟨by omega, by omega, by omega⟩ e2 ?_
 exact jx_retv c2 hm rfl rfl ⟨rfl, hH2, hF2⟩
def md_X11_copyRow_109_16 : List (Nat × (Nat × Nat)) := [(16, (0, 5))]
theorem ct_X11_copyRow_109_16 (X : Int) (hX : 0 ≤ X ∧ X ≤ 100000000) (M0 : JM) (hH0 : HI X M0)  : JOk shp PJ 1 29 [.inr (.inr (.inl 109)), .inr (.inr (.inl 16))] M0 (jRv (fun M' => HI X M' ∧ Fr md_X11_copyRow_109_16 M0 M' )) := by
 refine ⟨jr_X11_copyRow, pj_X11_copyRow, fun F c1 c2 c3 => ?_⟩
 have hm := pj_X11_copyRow
 change F 0 [some (.inr (.inr (.inl 109))), some (.inr (.inr (.inl 16)))] [] M0
 have hF0 : Fr md_X11_copyRow_109_16 M0 M0 := Fr.rf _ _
 refine jx_load c1 hm rfl rfl rfl rfl ?_
 refine jy_ic c1 hm rfl (by decide) ?_
 refine jx_load c1 hm rfl rfl rfl rfl ?_
 refine jy_ic c1 hm rfl (by decide) ?_
 refine jx_load c1 hm rfl rfl rfl rfl ?_
 refine jx_alen c1 hm (v := 6) rfl sh_109 rfl rfl ?_
 refine jx_load c1 hm rfl rfl rfl rfl ?_
 refine jx_alen c1 hm (v := 6) rfl sh_16 rfl rfl ?_
 refine jx_min c1 hm rfl rfl (fun z1 lz1 uz1 ez1 => ?_)
 obtain ⟨M2, e2, hH2, hF2, n2, _⟩ := mcp hH0 hF0 (c1 := 109) (c2 := 16) (n := z1) (fun _ _ => rfl) (fun j hj => jin_of 0 rfl ⟨by omega, by omega⟩)
 refine jm_acpi c1 hm rfl rfl sh_109 sh_16 ⟨by omega, by omega, by omega⟩ e2 ?_
 exact jx_retv c2 hm rfl rfl ⟨rfl, hH2, hF2⟩
def md_X11_copyRow_110_17 : List (Nat × (Nat × Nat)) := [(17, (0, 35))]
theorem ct_X11_copyRow_110_17 (X : Int) (hX : 0 ≤ X ∧ X ≤ 100000000) (M0 : JM) (hH0 : HI X M0)  : JOk shp PJ 1 29 [.inr (.inr (.inl 110)), .inr (.inr (.inl 17))] M0 (jRv (fun M' => HI X M' ∧ Fr md_X11_copyRow_110_17 M0 M' )) := by
 refine ⟨jr_X11_copyRow, pj_X11_copyRow, fun F c1 c2 c3 => ?_⟩
 have hm := pj_X11_copyRow
 change F 0 [some (.inr (.inr (.inl 110))), some (.inr (.inr (.inl 17)))] [] M0
 have hF0 : Fr md_X11_copyRow_110_17 M0 M0 := Fr.rf _ _
 refine jx_load c1 hm rfl rfl rfl rfl ?_
 refine jy_ic c1 hm rfl (by decide) ?_
 refine jx_load c1 hm rfl rfl rfl rfl ?_
 refine jy_ic c1 hm rfl (by decide) ?_
 refine jx_load c1 hm rfl rfl rfl rfl ?_
 refine jx_alen c1 hm (v := 36) rfl sh_110 rfl rfl ?_
 refine jx_load c1 hm rfl rfl rfl rfl ?_
 refine jx_alen c1 hm (v := 36) rfl sh_17 rfl rfl ?_
 refine jx_min c1 hm rfl rfl (fun z1 lz1 uz1 ez1 => ?_)
 obtain ⟨M2, e2, hH2, hF2, n2, _⟩ := mcp hH0 hF0 (c1 := 110) (c2 := 17) (n := z1) (fun _ _ => rfl) (fun j hj => jin_of 0 rfl ⟨by omega, by omega⟩)
 refine jm_acpi c1 hm rfl rfl sh_110 sh_17 ⟨by omega, by omega, by omega⟩ e2 ?_
 exact jx_retv c2 hm rfl rfl ⟨rfl, hH2, hF2⟩
def md_X11_copyRow_111_18 : List (Nat × (Nat × Nat)) := [(18, (0, 35))]
theorem ct_X11_copyRow_111_18 (X : Int) (hX : 0 ≤ X ∧ X ≤ 100000000) (M0 : JM) (hH0 : HI X M0)  : JOk shp PJ 1 29 [.inr (.inr (.inl 111)), .inr (.inr (.inl 18))] M0 (jRv (fun M' => HI X M' ∧ Fr md_X11_copyRow_111_18 M0 M' )) := by
 refine ⟨jr_X11_copyRow, pj_X11_copyRow, fun F c1 c2 c3 => ?_⟩
 have hm := pj_X11_copyRow
 change F 0 [some (.inr (.inr (.inl 111))), some (.inr (.inr (.inl 18)))] [] M0
 have hF0 : Fr md_X11_copyRow_111_18 M0 M0 := Fr.rf _ _
 refine jx_load c1 hm rfl rfl rfl rfl ?_
 refine jy_ic c1 hm rfl (by decide) ?_
 refine jx_load c1 hm rfl rfl rfl rfl ?_
 refine jy_ic c1 hm rfl (by decide) ?_
 refine jx_load c1 hm rfl rfl rfl rfl ?_
 refine jx_alen c1 hm (v := 36) rfl sh_111 rfl rfl ?_
 refine jx_load c1 hm rfl rfl rfl rfl ?_
 refine jx_alen c1 hm (v := 36) rfl sh_18 rfl rfl ?_
 refine jx_min c1 hm rfl rfl (fun z1 lz1 uz1 ez1 => ?_)
 obtain ⟨M2, e2, hH2, hF2, n2, _⟩ := mcp hH0 hF0 (c1 := 111) (c2 := 18) (n := z1) (fun _ _ => rfl) (fun j hj => jin_of 0 rfl ⟨by omega, by omega⟩)
 refine jm_acpi c1 hm rfl rfl sh_111 sh_18 ⟨by omega, by omega, by omega⟩ e2 ?_
 exact jx_retv c2 hm rfl rfl ⟨rfl, hH2, hF2⟩
def md_X11_copyRow_112_19 : List (Nat × (Nat × Nat)) := [(19, (0, 35))]
theorem ct_X11_copyRow_112_19 (X : Int) (hX : 0 ≤ X ∧ X ≤ 100000000) (M0 : JM) (hH0 : HI X M0)  : JOk shp PJ 1 29 [.inr (.inr (.inl 112)), .inr (.inr (.inl 19))] M0 (jRv (fun M' => HI X M' ∧ Fr md_X11_copyRow_112_19 M0 M' )) := by
 refine ⟨jr_X11_copyRow, pj_X11_copyRow, fun F c1 c2 c3 => ?_⟩
 have hm := pj_X11_copyRow
 change F 0 [some (.inr (.inr (.inl 112))), some (.inr (.inr (.inl 19)))] [] M0
 have hF0 : Fr md_X11_copyRow_112_19 M0 M0 := Fr.rf _ _
 refine jx_load c1 hm rfl rfl rfl rfl ?_
 refine jy_ic c1 hm rfl (by decide) ?_
 refine jx_load c1 hm rfl rfl rfl rfl ?_
 refine jy_ic c1 hm rfl (by decide) ?_
 refine jx_load c1 hm rfl rfl rfl rfl ?_
 refine jx_alen c1 hm (v := 36) rfl sh_112 rfl rfl ?_
 refine jx_load c1 hm rfl rfl rfl rfl ?_
 refine jx_alen c1 hm (v := 36) rfl sh_19 rfl rfl ?_
 refine jx_min c1 hm rfl rfl (fun z1 lz1 uz1 ez1 => ?_)
 obtain ⟨M2, e2, hH2, hF2, n2, _⟩ := mcp hH0 hF0 (c1 := 112) (c2 := 19) (n := z1) (fun _ _ => rfl) (fun j hj => jin_of 0 rfl ⟨by omega, by omega⟩)
 refine jm_acpi c1 hm rfl rfl sh_112 sh_19 ⟨by omega, by omega, by omega⟩ e2 ?_
 exact jx_retv c2 hm rfl rfl ⟨rfl, hH2, hF2⟩
def md_X8_takeAll_12_105 : List (Nat × (Nat × Nat)) := [(12, (7, 7)), (13, (0, 5)), (14, (0, 5)), (15, (0, 5)), (16, (0, 5)), (17, (0, 35)), (18, (0, 35)), (19, (0, 35))]
theorem ct_X8_takeAll_12_105 (X : Int) (hX : 0 ≤ X ∧ X ≤ 100000000) (M0 : JM) (hH0 : HI X M0)  : JOk shp PJ 2 264 [.inr (.inr (.inl 12)), .inr (.inr (.inl 105))] M0 (jRv (fun M' => HI X M' ∧ Fr md_X8_takeAll_12_105 M0 M' )) := by
 refine ⟨jr_X8_takeAll, pj_X8_takeAll, fun F c1 c2 c3 => ?_⟩
 have hm := pj_X8_takeAll
 change F 0 [some (.inr (.inr (.inl 12))), some (.inr (.inr (.inl 105)))] [] M0
 have hF0 : Fr md_X8_takeAll_12_105 M0 M0 := Fr.rf _ _
 refine jx_load c1 hm rfl rfl rfl rfl ?_
 refine jx_getr c1 hm rfl sh_105 rfl ?_
 refine jx_load c1 hm rfl rfl rfl rfl ?_
 refine jx_getr c1 hm rfl sh_12 rfl ?_
 refine jt_v c3 hm rfl rfl pj_X11_copyRow rfl rfl rfl ((ct_X11_copyRow_106_13 X (by omega) M0 hH0 ).le (by decide)) (fun M1 ⟨hH1, hR1⟩ => ?_)
 have hF1 := hF0.tr hR1 (by decide +kernel)
 refine jx_load c1 hm rfl rfl rfl rfl ?_
 refine jx_getr c1 hm rfl sh_105 rfl ?_
 refine jx_load c1 hm rfl rfl rfl rfl ?_
 refine jx_getr c1 hm rfl sh_12 rfl ?_
 refine jt_v c3 hm rfl rfl pj_X11_copyRow rfl rfl rfl ((ct_X11_copyRow_107_14 X (by omega) M1 hH1 ).le (by decide)) (fun M2 ⟨hH2, hR2⟩ => ?_)
 have hF2 := hF1.tr hR2 (by decide +kernel)
 refine jx_load c1 hm rfl rfl rfl rfl ?_
 refine jx_getr c1 hm rfl sh_105 rfl ?_
 refine jx_load c1 hm rfl rfl rfl rfl ?_
 refine jx_getr c1 hm rfl sh_12 rfl ?_
 refine jt_v c3 hm rfl rfl pj_X11_copyRow rfl rfl rfl ((ct_X11_copyRow_108_15 X (by omega) M2 hH2 ).le (by decide)) (fun M3 ⟨hH3, hR3⟩ => ?_)
 have hF3 := hF2.tr hR3 (by decide +kernel)
 refine jx_load c1 hm rfl rfl rfl rfl ?_
 refine jx_getr c1 hm rfl sh_105 rfl ?_
 refine jx_load c1 hm rfl rfl rfl rfl ?_
 refine jx_getr c1 hm rfl sh_12 rfl ?_
 refine jt_v c3 hm rfl rfl pj_X11_copyRow rfl rfl rfl ((ct_X11_copyRow_109_16 X (by omega) M3 hH3 ).le (by decide)) (fun M4 ⟨hH4, hR4⟩ => ?_)
 have hF4 := hF3.tr hR4 (by decide +kernel)
 refine jx_load c1 hm rfl rfl rfl rfl ?_
 refine jx_getr c1 hm rfl sh_105 rfl ?_
 refine jx_load c1 hm rfl rfl rfl rfl ?_
 refine jx_getr c1 hm rfl sh_12 rfl ?_
 refine jt_v c3 hm rfl rfl pj_X11_copyRow rfl rfl rfl ((ct_X11_copyRow_110_17 X (by omega) M4 hH4 ).le (by decide)) (fun M5 ⟨hH5, hR5⟩ => ?_)
 have hF5 := hF4.tr hR5 (by decide +kernel)
 refine jx_load c1 hm rfl rfl rfl rfl ?_
 refine jx_getr c1 hm rfl sh_105 rfl ?_
 refine jx_load c1 hm rfl rfl rfl rfl ?_
 refine jx_getr c1 hm rfl sh_12 rfl ?_
 refine jt_v c3 hm rfl rfl pj_X11_copyRow rfl rfl rfl ((ct_X11_copyRow_111_18 X (by omega) M5 hH5 ).le (by decide)) (fun M6 ⟨hH6, hR6⟩ => ?_)
 have hF6 := hF5.tr hR6 (by decide +kernel)
 refine jx_load c1 hm rfl rfl rfl rfl ?_
 refine jx_getr c1 hm rfl sh_105 rfl ?_
 refine jx_load c1 hm rfl rfl rfl rfl ?_
 refine jx_getr c1 hm rfl sh_12 rfl ?_
 refine jt_v c3 hm rfl rfl pj_X11_copyRow rfl rfl rfl ((ct_X11_copyRow_112_19 X (by omega) M6 hH6 ).le (by decide)) (fun M7 ⟨hH7, hR7⟩ => ?_)
 have hF7 := hF6.tr hR7 (by decide +kernel)
 refine jx_load c1 hm rfl rfl rfl rfl ?_
 refine jx_load c1 hm rfl rfl rfl rfl ?_
 obtain ⟨z8, k9, lz8, uz8⟩ := hH7.ld (c := 105) (i := 7) (A := (-2147483648)) (B := 2147483647) rfl
 refine jx_geti c1 hm rfl sh_105 rfl k9 ?_
 obtain ⟨M10, e10, hH10, hF10, k10, n10, _⟩ := mup hH7 hF7 (c := 12) (i := 7) (v := z8) (A := (-2147483648)) (B := 2147483647) rfl ⟨by omega, by omega⟩ (jin_of 0 rfl ⟨by omega, by omega⟩)
 refine jm_puti c1 hm rfl sh_12 rfl e10 ?_
 exact jx_retv c2 hm rfl rfl ⟨rfl, hH10, hF10⟩
def md_X11_copyRow_114_13 : List (Nat × (Nat × Nat)) := [(13, (0, 5))]
theorem ct_X11_copyRow_114_13 (X : Int) (hX : 0 ≤ X ∧ X ≤ 100000000) (M0 : JM) (hH0 : HI X M0)  : JOk shp PJ 1 29 [.inr (.inr (.inl 114)), .inr (.inr (.inl 13))] M0 (jRv (fun M' => HI X M' ∧ Fr md_X11_copyRow_114_13 M0 M' )) := by
 refine ⟨jr_X11_copyRow, pj_X11_copyRow, fun F c1 c2 c3 => ?_⟩
 have hm := pj_X11_copyRow
 change F 0 [some (.inr (.inr (.inl 114))), some (.inr (.inr (.inl 13)))] [] M0
 have hF0 : Fr md_X11_copyRow_114_13 M0 M0 := Fr.rf _ _
 refine jx_load c1 hm rfl rfl rfl rfl ?_
 refine jy_ic c1 hm rfl (by decide) ?_
 refine jx_load c1 hm rfl rfl rfl rfl ?_
 refine jy_ic c1 hm rfl (by decide) ?_
 refine jx_load c1 hm rfl rfl rfl rfl ?_
 refine jx_alen c1 hm (v := 6) rfl sh_114 rfl rfl ?_
 refine jx_load c1 hm rfl rfl rfl rfl ?_
 refine jx_alen c1 hm (v := 6) rfl sh_13 rfl rfl ?_
 refine jx_min c1 hm rfl rfl (fun z1 lz1 uz1 ez1 => ?_)
 obtain ⟨M2, e2, hH2, hF2, n2, _⟩ := mcp hH0 hF0 (c1 := 114) (c2 := 13) (n := z1) (fun _ _ => rfl) (fun j hj => jin_of 0 rfl ⟨by omega, by omega⟩)
 refine jm_acpi c1 hm rfl rfl sh_114 sh_13 ⟨by omega, by omega, by omega⟩ e2 ?_
 exact jx_retv c2 hm rfl rfl ⟨rfl, hH2, hF2⟩
def md_X11_copyRow_115_14 : List (Nat × (Nat × Nat)) := [(14, (0, 5))]
theorem ct_X11_copyRow_115_14 (X : Int) (hX : 0 ≤ X ∧ X ≤ 100000000) (M0 : JM) (hH0 : HI X M0)  : JOk shp PJ 1 29 [.inr (.inr (.inl 115)), .inr (.inr (.inl 14))] M0 (jRv (fun M' => HI X M' ∧ Fr md_X11_copyRow_115_14 M0 M' )) := by
 refine ⟨jr_X11_copyRow, pj_X11_copyRow, fun F c1 c2 c3 => ?_⟩
 have hm := pj_X11_copyRow
 change F 0 [some (.inr (.inr (.inl 115))), some (.inr (.inr (.inl 14)))] [] M0
 have hF0 : Fr md_X11_copyRow_115_14 M0 M0 := Fr.rf _ _
 refine jx_load c1 hm rfl rfl rfl rfl ?_
 refine jy_ic c1 hm rfl (by decide) ?_
 refine jx_load c1 hm rfl rfl rfl rfl ?_
 refine jy_ic c1 hm rfl (by decide) ?_
 refine jx_load c1 hm rfl rfl rfl rfl ?_
 refine jx_alen c1 hm (v := 6) rfl sh_115 rfl rfl ?_
 refine jx_load c1 hm rfl rfl rfl rfl ?_
 refine jx_alen c1 hm (v := 6) rfl sh_14 rfl rfl ?_
 refine jx_min c1 hm rfl rfl (fun z1 lz1 uz1 ez1 => ?_)
 obtain ⟨M2, e2, hH2, hF2, n2, _⟩ := mcp hH0 hF0 (c1 := 115) (c2 := 14) (n := z1) (fun _ _ => rfl) (fun j hj => jin_of 0 rfl ⟨by omega, by omega⟩)
 refine jm_acpi c1 hm rfl rfl sh_115 sh_14 ⟨by omega, by omega, by omega⟩ e2 ?_
 exact jx_retv c2 hm rfl rfl ⟨rfl, hH2, hF2⟩
def md_X11_copyRow_116_15 : List (Nat × (Nat × Nat)) := [(15, (0, 5))]
theorem ct_X11_copyRow_116_15 (X : Int) (hX : 0 ≤ X ∧ X ≤ 100000000) (M0 : JM) (hH0 : HI X M0)  : JOk shp PJ 1 29 [.inr (.inr (.inl 116)), .inr (.inr (.inl 15))] M0 (jRv (fun M' => HI X M' ∧ Fr md_X11_copyRow_116_15 M0 M' )) := by
 refine ⟨jr_X11_copyRow, pj_X11_copyRow, fun F c1 c2 c3 => ?_⟩
 have hm := pj_X11_copyRow
 change F 0 [some (.inr (.inr (.inl 116))), some (.inr (.inr (.inl 15)))] [] M0
 have hF0 : Fr md_X11_copyRow_116_15 M0 M0 := Fr.rf _ _
 refine jx_load c1 hm rfl rfl rfl rfl ?_
 refine jy_ic c1 hm rfl (by decide) ?_
 refine jx_load c1 hm rfl rfl rfl rfl ?_
 refine jy_ic c1 hm rfl (by decide) ?_
 refine jx_load c1 hm rfl rfl rfl rfl ?_
 refine jx_alen c1 hm (v := 6) rfl sh_116 rfl rfl ?_
 refine jx_load c1 hm rfl rfl rfl rfl ?_
 refine jx_alen c1 hm (v := 6) rfl sh_15 rfl rfl ?_
 refine jx_min c1 hm rfl rfl (fun z1 lz1 uz1 ez1 => ?_)
 obtain ⟨M2, e2, hH2, hF2, n2, _⟩ := mcp hH0 hF0 (c1 := 116) (c2 := 15) (n := z1) (fun _ _ => rfl) (fun j hj => jin_of 0 rfl ⟨by omega, by omega⟩)
 refine jm_acpi c1 hm rfl rfl sh_116 sh_15 ⟨by omega, by omega, by omega⟩ e2 ?_
 exact jx_retv c2 hm rfl rfl ⟨rfl, hH2, hF2⟩
def md_X11_copyRow_117_16 : List (Nat × (Nat × Nat)) := [(16, (0, 5))]
theorem ct_X11_copyRow_117_16 (X : Int) (hX : 0 ≤ X ∧ X ≤ 100000000) (M0 : JM) (hH0 : HI X M0)  : JOk shp PJ 1 29 [.inr (.inr (.inl 117)), .inr (.inr (.inl 16))] M0 (jRv (fun M' => HI X M' ∧ Fr md_X11_copyRow_117_16 M0 M' )) := by
 refine ⟨jr_X11_copyRow, pj_X11_copyRow, fun F c1 c2 c3 => ?_⟩
 have hm := pj_X11_copyRow
 change F 0 [some (.inr (.inr (.inl 117))), some (.inr (.inr (.inl 16)))] [] M0
 have hF0 : Fr md_X11_copyRow_117_16 M0 M0 := Fr.rf _ _
 refine jx_load c1 hm rfl rfl rfl rfl ?_
 refine jy_ic c1 hm rfl (by decide) ?_
 refine jx_load c1 hm rfl rfl rfl rfl ?_
 refine jy_ic c1 hm rfl (by decide) ?_
 refine jx_load c1 hm rfl rfl rfl rfl ?_
 refine jx_alen c1 hm (v := 6) rfl sh_117 rfl rfl ?_
 refine jx_load c1 hm rfl rfl rfl rfl ?_
 refine jx_alen c1 hm (v := 6) rfl sh_16 rfl rfl ?_
 refine jx_min c1 hm rfl rfl (fun z1 lz1 uz1 ez1 => ?_)
 obtain ⟨M2, e2, hH2, hF2, n2, _⟩ := mcp hH0 hF0 (c1 := 117) (c2 := 16) (n := z1) (fun _ _ => rfl) (fun j hj => jin_of 0 rfl ⟨by omega, by omega⟩)
 refine jm_acpi c1 hm rfl rfl sh_117 sh_16 ⟨by omega, by omega, by omega⟩ e2 ?_
 exact jx_retv c2 hm rfl rfl ⟨rfl, hH2, hF2⟩
def md_X11_copyRow_118_17 : List (Nat × (Nat × Nat)) := [(17, (0, 35))]
theorem ct_X11_copyRow_118_17 (X : Int) (hX : 0 ≤ X ∧ X ≤ 100000000) (M0 : JM) (hH0 : HI X M0)  : JOk shp PJ 1 29 [.inr (.inr (.inl 118)), .inr (.inr (.inl 17))] M0 (jRv (fun M' => HI X M' ∧ Fr md_X11_copyRow_118_17 M0 M' )) := by
 refine ⟨jr_X11_copyRow, pj_X11_copyRow, fun F c1 c2 c3 => ?_⟩
 have hm := pj_X11_copyRow
 change F 0 [some (.inr (.inr (.inl 118))), some (.inr (.inr (.inl 17)))] [] M0
 have hF0 : Fr md_X11_copyRow_118_17 M0 M0 := Fr.rf _ _
 refine jx_load c1 hm rfl rfl rfl rfl ?_
 refine jy_ic c1 hm rfl (by decide) ?_
 refine jx_load c1 hm rfl rfl rfl rfl ?_
 refine jy_ic c1 hm rfl (by decide) ?_
 refine jx_load c1 hm rfl rfl rfl rfl ?_
 refine jx_alen c1 hm (v := 36) rfl sh_118 rfl rfl ?_
 refine jx_load c1 hm rfl rfl rfl rfl ?_
 refine jx_alen c1 hm (v := 36) rfl sh_17 rfl rfl ?_
 refine jx_min c1 hm rfl rfl (fun z1 lz1 uz1 ez1 => ?_)
 obtain ⟨M2, e2, hH2, hF2, n2, _⟩ := mcp hH0 hF0 (c1 := 118) (c2 := 17) (n := z1) (fun _ _ => rfl) (fun j hj => jin_of 0 rfl ⟨by omega, by omega⟩)
 refine jm_acpi c1 hm rfl rfl sh_118 sh_17 ⟨by omega, by omega, by omega⟩ e2 ?_
 exact jx_retv c2 hm rfl rfl ⟨rfl, hH2, hF2⟩
def md_X11_copyRow_119_18 : List (Nat × (Nat × Nat)) := [(18, (0, 35))]
theorem ct_X11_copyRow_119_18 (X : Int) (hX : 0 ≤ X ∧ X ≤ 100000000) (M0 : JM) (hH0 : HI X M0)  : JOk shp PJ 1 29 [.inr (.inr (.inl 119)), .inr (.inr (.inl 18))] M0 (jRv (fun M' => HI X M' ∧ Fr md_X11_copyRow_119_18 M0 M' )) := by
 refine ⟨jr_X11_copyRow, pj_X11_copyRow, fun F c1 c2 c3 => ?_⟩
 have hm := pj_X11_copyRow
 change F 0 [some (.inr (.inr (.inl 119))), some (.inr (.inr (.inl 18)))] [] M0
 have hF0 : Fr md_X11_copyRow_119_18 M0 M0 := Fr.rf _ _
 refine jx_load c1 hm rfl rfl rfl rfl ?_
 refine jy_ic c1 hm rfl (by decide) ?_
 refine jx_load c1 hm rfl rfl rfl rfl ?_
 refine jy_ic c1 hm rfl (by decide) ?_
 refine jx_load c1 hm rfl rfl rfl rfl ?_
 refine jx_alen c1 hm (v := 36) rfl sh_119 rfl rfl ?_
 refine jx_load c1 hm rfl rfl rfl rfl ?_
 refine jx_alen c1 hm (v := 36) rfl sh_18 rfl rfl ?_
 refine jx_min c1 hm rfl rfl (fun z1 lz1 uz1 ez1 => ?_)
 obtain ⟨M2, e2, hH2, hF2, n2, _⟩ := mcp hH0 hF0 (c1 := 119) (c2 := 18) (n := z1) (fun _ _ => rfl) (fun j hj => jin_of 0 rfl ⟨by omega, by omega⟩)
 refine jm_acpi c1 hm rfl rfl sh_119 sh_18 ⟨by omega, by omega, by omega⟩ e2 ?_
 exact jx_retv c2 hm rfl rfl ⟨rfl, hH2, hF2⟩
def md_X11_copyRow_120_19 : List (Nat × (Nat × Nat)) := [(19, (0, 35))]
theorem ct_X11_copyRow_120_19 (X : Int) (hX : 0 ≤ X ∧ X ≤ 100000000) (M0 : JM) (hH0 : HI X M0)  : JOk shp PJ 1 29 [.inr (.inr (.inl 120)), .inr (.inr (.inl 19))] M0 (jRv (fun M' => HI X M' ∧ Fr md_X11_copyRow_120_19 M0 M' )) := by
 refine ⟨jr_X11_copyRow, pj_X11_copyRow, fun F c1 c2 c3 => ?_⟩
 have hm := pj_X11_copyRow
 change F 0 [some (.inr (.inr (.inl 120))), some (.inr (.inr (.inl 19)))] [] M0
 have hF0 : Fr md_X11_copyRow_120_19 M0 M0 := Fr.rf _ _
 refine jx_load c1 hm rfl rfl rfl rfl ?_
 refine jy_ic c1 hm rfl (by decide) ?_
 refine jx_load c1 hm rfl rfl rfl rfl ?_
 refine jy_ic c1 hm rfl (by decide) ?_
 refine jx_load c1 hm rfl rfl rfl rfl ?_
 refine jx_alen c1 hm (v := 36) rfl sh_120 rfl rfl ?_
 refine jx_load c1 hm rfl rfl rfl rfl ?_
 refine jx_alen c1 hm (v := 36) rfl sh_19 rfl rfl ?_
 refine jx_min c1 hm rfl rfl (fun z1 lz1 uz1 ez1 => ?_)
 obtain ⟨M2, e2, hH2, hF2, n2, _⟩ := mcp hH0 hF0 (c1 := 120) (c2 := 19) (n := z1) (fun _ _ => rfl) (fun j hj => jin_of 0 rfl ⟨by omega, by omega⟩)
 refine jm_acpi c1 hm rfl rfl sh_120 sh_19 ⟨by omega, by omega, by omega⟩ e2 ?_
 exact jx_retv c2 hm rfl rfl ⟨rfl, hH2, hF2⟩
def md_X8_takeAll_12_113 : List (Nat × (Nat × Nat)) := [(12, (7, 7)), (13, (0, 5)), (14, (0, 5)), (15, (0, 5)), (16, (0, 5)), (17, (0, 35)), (18, (0, 35)), (19, (0, 35))]
theorem ct_X8_takeAll_12_113 (X : Int) (hX : 0 ≤ X ∧ X ≤ 100000000) (M0 : JM) (hH0 : HI X M0)  : JOk shp PJ 2 264 [.inr (.inr (.inl 12)), .inr (.inr (.inl 113))] M0 (jRv (fun M' => HI X M' ∧ Fr md_X8_takeAll_12_113 M0 M' )) := by
 refine ⟨jr_X8_takeAll, pj_X8_takeAll, fun F c1 c2 c3 => ?_⟩
 have hm := pj_X8_takeAll
 change F 0 [some (.inr (.inr (.inl 12))), some (.inr (.inr (.inl 113)))] [] M0
 have hF0 : Fr md_X8_takeAll_12_113 M0 M0 := Fr.rf _ _
 refine jx_load c1 hm rfl rfl rfl rfl ?_
 refine jx_getr c1 hm rfl sh_113 rfl ?_
 refine jx_load c1 hm rfl rfl rfl rfl ?_
 refine jx_getr c1 hm rfl sh_12 rfl ?_
 refine jt_v c3 hm rfl rfl pj_X11_copyRow rfl rfl rfl ((ct_X11_copyRow_114_13 X (by omega) M0 hH0 ).le (by decide)) (fun M1 ⟨hH1, hR1⟩ => ?_)
 have hF1 := hF0.tr hR1 (by decide +kernel)
 refine jx_load c1 hm rfl rfl rfl rfl ?_
 refine jx_getr c1 hm rfl sh_113 rfl ?_
 refine jx_load c1 hm rfl rfl rfl rfl ?_
 refine jx_getr c1 hm rfl sh_12 rfl ?_
 refine jt_v c3 hm rfl rfl pj_X11_copyRow rfl rfl rfl ((ct_X11_copyRow_115_14 X (by omega) M1 hH1 ).le (by decide)) (fun M2 ⟨hH2, hR2⟩ => ?_)
 have hF2 := hF1.tr hR2 (by decide +kernel)
 refine jx_load c1 hm rfl rfl rfl rfl ?_
 refine jx_getr c1 hm rfl sh_113 rfl ?_
 refine jx_load c1 hm rfl rfl rfl rfl ?_
 refine jx_getr c1 hm rfl sh_12 rfl ?_
 refine jt_v c3 hm rfl rfl pj_X11_copyRow rfl rfl rfl ((ct_X11_copyRow_116_15 X (by omega) M2 hH2 ).le (by decide)) (fun M3 ⟨hH3, hR3⟩ => ?_)
 have hF3 := hF2.tr hR3 (by decide +kernel)
 refine jx_load c1 hm rfl rfl rfl rfl ?_
 refine jx_getr c1 hm rfl sh_113 rfl ?_
 refine jx_load c1 hm rfl rfl rfl rfl ?_
 refine jx_getr c1 hm rfl sh_12 rfl ?_
 refine jt_v c3 hm rfl rfl pj_X11_copyRow rfl rfl rfl ((ct_X11_copyRow_117_16 X (by omega) M3 hH3 ).le (by decide)) (fun M4 ⟨hH4, hR4⟩ => ?_)
 have hF4 := hF3.tr hR4 (by decide +kernel)
 refine jx_load c1 hm rfl rfl rfl rfl ?_
 refine jx_getr c1 hm rfl sh_113 rfl ?_
 refine jx_load c1 hm rfl rfl rfl rfl ?_
 refine jx_getr c1 hm rfl sh_12 rfl ?_
 refine jt_v c3 hm rfl rfl pj_X11_copyRow rfl rfl rfl ((ct_X11_copyRow_118_17 X (by omega) M4 hH4 ).le (by decide)) (fun M5 ⟨hH5, hR5⟩ => ?_)
 have hF5 := hF4.tr hR5 (by decide +kernel)
 refine jx_load c1 hm rfl rfl rfl rfl ?_
 refine jx_getr c1 hm rfl sh_113 rfl ?_
 refine jx_load c1 hm rfl rfl rfl rfl ?_
 refine jx_getr c1 hm rfl sh_12 rfl ?_
 refine jt_v c3 hm rfl rfl pj_X11_copyRow rfl rfl rfl ((ct_X11_copyRow_119_18 X (by omega) M5 hH5 ).le (by decide)) (fun M6 ⟨hH6, hR6⟩ => ?_)
 have hF6 := hF5.tr hR6 (by decide +kernel)
 refine jx_load c1 hm rfl rfl rfl rfl ?_
 refine jx_getr c1 hm rfl sh_113 rfl ?_
 refine jx_load c1 hm rfl rfl rfl rfl ?_
 refine jx_getr c1 hm rfl sh_12 rfl ?_
 refine jt_v c3 hm rfl rfl pj_X11_copyRow rfl rfl rfl ((ct_X11_copyRow_120_19 X (by omega) M6 hH6 ).le (by decide)) (fun M7 ⟨hH7, hR7⟩ => ?_)
 have hF7 := hF6.tr hR7 (by decide +kernel)
 refine jx_load c1 hm rfl rfl rfl rfl ?_
 refine jx_load c1 hm rfl rfl rfl rfl ?_
 obtain ⟨z8, k9, lz8, uz8⟩ := hH7.ld (c := 113) (i := 7) (A := (-2147483648)) (B := 2147483647) rfl
 refine jx_geti c1 hm rfl sh_113 rfl k9 ?_
 obtain ⟨M10, e10, hH10, hF10, k10, n10, _⟩ := mup hH7 hF7 (c := 12) (i := 7) (v := z8) (A := (-2147483648)) (B := 2147483647) rfl ⟨by omega, by omega⟩ (jin_of 0 rfl ⟨by omega, by omega⟩)
 refine jm_puti c1 hm rfl sh_12 rfl e10 ?_
 exact jx_retv c2 hm rfl rfl ⟨rfl, hH10, hF10⟩
def md_X4_giveBack_55_12 : List (Nat × (Nat × Nat)) := [(12, (7, 7)), (13, (0, 5)), (14, (0, 5)), (15, (0, 5)), (16, (0, 5)), (17, (0, 35)), (18, (0, 35)), (19, (0, 35)), (55, (1, 1)), (55, (2, 2))]
theorem ct_X4_giveBack_55_12 (X : Int) (hX : 0 ≤ X ∧ X ≤ 100000000) (M0 : JM) (hH0 : HI X M0)  : JOk shp PJ 3 239 [.inr (.inr (.inl 55)), .inr (.inr (.inl 12))] M0 (jRi (fun v M' => HI X M' ∧ Fr md_X4_giveBack_55_12 M0 M' ∧ (-1) ≤ v ∧ v ≤ 7 )) := by
 refine ⟨jr_X4_giveBack, pj_X4_giveBack, fun F c1 c2 c3 => ?_⟩
 have hm := pj_X4_giveBack
 change F 0 [some (.inr (.inr (.inl 55))), some (.inr (.inr (.inl 12)))] [] M0
 have hF0 : Fr md_X4_giveBack_55_12 M0 M0 := Fr.rf _ _
 refine jx_load c1 hm rfl rfl rfl rfl ?_
 obtain ⟨z1, k2, lz1, uz1⟩ := hH0.ld (c := 55) (i := 2) (A := 0) (B := 8) (bs_24_2 _ _ (by omega) (by omega))
 refine jx_geti c1 hm rfl sh_55 rfl k2 ?_
 refine jz_ne c1 hm 9 rfl rfl (fun h3 => ?_) (fun h3 => ?_)
 ·
  refine jx_load c1 hm rfl rfl rfl rfl ?_
  refine jx_load c1 hm rfl rfl rfl rfl ?_
  obtain ⟨z4, k5, lz4, uz4⟩ := hH0.ld (c := 55) (i := 1) (A := 0) (B := 7) (bs_24_1 _ _ (by omega) (by omega))
  refine jx_geti c1 hm rfl sh_55 rfl k5 ?_
  refine jy_bp c1 hm rfl (by decide) ?_
  refine jy_add c1 hm (z4 + 8) rfl (by omega) ?_
  refine jy_ic c1 hm rfl (by decide) ?_
  refine jy_sub c1 hm (z4 + 7) rfl (by omega) ?_
  refine jy_bp c1 hm rfl (by decide) ?_
  refine jy_rem c1 hm rfl ⟨by omega, by omega, by omega, by omega⟩ (fun z6 ez6 lz6 uz6 => ?_)
  obtain ⟨M7, e7, hH7, hF7, k7, n7, _⟩ := mup hH0 hF0 (c := 55) (i := 1) (v := z6) (A := 0) (B := 7) (bs_24_1 _ _ (by omega) (by omega)) ⟨by omega, by omega⟩ (jin_of 8 rfl ⟨by omega, by omega⟩)
  refine jm_puti c1 hm rfl sh_55 rfl e7 ?_
  refine jx_load c1 hm rfl rfl rfl rfl ?_
  refine jx_load c1 hm rfl rfl rfl rfl ?_
  refine jx_getr c1 hm rfl sh_55 rfl ?_
  refine jx_load c1 hm rfl rfl rfl rfl ?_
  refine jx_geti c1 hm rfl sh_55 rfl k7 ?_
  have h8 : z6 = 0 ∨ z6 = 1 ∨ z6 = 2 ∨ z6 = 3 ∨ z6 = 4 ∨ z6 = 5 ∨ z6 = 6 ∨ z6 = 7 := by omega
  rcases h8 with h8 | h8 | h8 | h8 | h8 | h8 | h8 | h8
  ·
   refine jx_aald c1 hm rfl sh_56 (by omega) (by rw [h8]; rfl) ?_
   refine jv_v c3 hm rfl pj_X8_takeAll rfl rfl ⟨_, _, _, rfl, sh_12⟩ rfl ((ct_X8_takeAll_12_57 X (by omega) M7 hH7 ).le (by decide)) (fun M9 ⟨hH9, hR9⟩ => ?_)
   have hF9 := hF7.tr hR9 (by decide +kernel)
   refine jx_load c1 hm rfl rfl rfl rfl ?_
   refine jx_dup c1 hm rfl rfl ?_
   have k10 : M9.1 55 2 = z1 := (hR9 55 2 (by decide +kernel)).trans ((n7 55 2 (by decide)).trans k2)
   refine jx_geti c1 hm rfl sh_55 rfl k10 ?_
   refine jy_ic c1 hm rfl (by decide) ?_
   refine jy_sub c1 hm (z1 - 1) rfl (by omega) ?_
   obtain ⟨M11, e11, hH11, hF11, k11, n11, _⟩ := mup hH9 hF9 (c := 55) (i := 2) (v := (z1 - 1)) (A := 0) (B := 8) (bs_24_2 _ _ (by omega) (by omega)) ⟨by omega, by omega⟩ (jin_of 9 rfl ⟨by omega, by omega⟩)
   refine jm_puti c1 hm rfl sh_55 rfl e11 ?_
   refine jx_load c1 hm rfl rfl rfl rfl ?_
   refine jx_geti c1 hm rfl sh_55 rfl k11 ?_
   exact jx_reti c2 hm rfl rfl ⟨_, rfl, hH11, hF11, by omega, by omega⟩
  ·
   refine jx_aald c1 hm rfl sh_56 (by omega) (by rw [h8]; rfl) ?_
   refine jv_v c3 hm rfl pj_X8_takeAll rfl rfl ⟨_, _, _, rfl, sh_12⟩ rfl ((ct_X8_takeAll_12_65 X (by omega) M7 hH7 ).le (by decide)) (fun M12 ⟨hH12, hR12⟩ => ?_)
   have hF12 := hF7.tr hR12 (by decide +kernel)
   refine jx_load c1 hm rfl rfl rfl rfl ?_
   refine jx_dup c1 hm rfl rfl ?_
   have k13 : M12.1 55 2 = z1 := (hR12 55 2 (by decide +kernel)).trans ((n7 55 2 (by decide)).trans k2)
   refine jx_geti c1 hm rfl sh_55 rfl k13 ?_
   refine jy_ic c1 hm rfl (by decide) ?_
   refine jy_sub c1 hm (z1 - 1) rfl (by omega) ?_
   obtain ⟨M14, e14, hH14, hF14, k14, n14, _⟩ := mup hH12 hF12 (c := 55) (i := 2) (v := (z1 - 1)) (A := 0) (B := 8) (bs_24_2 _ _ (by omega) (by omega)) ⟨by omega, by omega⟩ (jin_of 9 rfl ⟨by omega, by omega⟩)
   refine jm_puti c1 hm rfl sh_55 rfl e14 ?_
   refine jx_load c1 hm rfl rfl rfl rfl ?_
   refine jx_geti c1 hm rfl sh_55 rfl k14 ?_
   exact jx_reti c2 hm rfl rfl ⟨_, rfl, hH14, hF14, by omega, by omega⟩
  ·
   refine jx_aald c1 hm rfl sh_56 (by omega) (by rw [h8]; rfl) ?_
   refine jv_v c3 hm rfl pj_X8_takeAll rfl rfl ⟨_, _, _, rfl, sh_12⟩ rfl ((ct_X8_takeAll_12_73 X (by omega) M7 hH7 ).le (by decide)) (fun M15 ⟨hH15, hR15⟩ => ?_)
   have hF15 := hF7.tr hR15 (by decide +kernel)
   refine jx_load c1 hm rfl rfl rfl rfl ?_
   refine jx_dup c1 hm rfl rfl ?_
   have k16 : M15.1 55 2 = z1 := (hR15 55 2 (by decide +kernel)).trans ((n7 55 2 (by decide)).trans k2)
   refine jx_geti c1 hm rfl sh_55 rfl k16 ?_
   refine jy_ic c1 hm rfl (by decide) ?_
   refine jy_sub c1 hm (z1 - 1) rfl (by omega) ?_
   obtain ⟨M17, e17, hH17, hF17, k17, n17, _⟩ := mup hH15 hF15 (c := 55) (i := 2) (v := (z1 - 1)) (A := 0) (B := 8) (bs_24_2 _ _ (by omega) (by omega)) ⟨by omega, by omega⟩ (jin_of 9 rfl ⟨by omega, by omega⟩)
   refine jm_puti c1 hm rfl sh_55 rfl e17 ?_
   refine jx_load c1 hm rfl rfl rfl rfl ?_
   refine jx_geti c1 hm rfl sh_55 rfl k17 ?_
   exact jx_reti c2 hm rfl rfl ⟨_, rfl, hH17, hF17, by omega, by omega⟩
  ·
   refine jx_aald c1 hm rfl sh_56 (by omega) (by rw [h8]; rfl) ?_
   refine jv_v c3 hm rfl pj_X8_takeAll rfl rfl ⟨_, _, _, rfl, sh_12⟩ rfl ((ct_X8_takeAll_12_81 X (by omega) M7 hH7 ).le (by decide)) (fun M18 ⟨hH18, hR18⟩ => ?_)
   have hF18 := hF7.tr hR18 (by decide +kernel)
   refine jx_load c1 hm rfl rfl rfl rfl ?_
   refine jx_dup c1 hm rfl rfl ?_
   have k19 : M18.1 55 2 = z1 := (hR18 55 2 (by decide +kernel)).trans ((n7 55 2 (by decide)).trans k2)
   refine jx_geti c1 hm rfl sh_55 rfl k19 ?_
   refine jy_ic c1 hm rfl (by decide) ?_
   refine jy_sub c1 hm (z1 - 1) rfl (by omega) ?_
   obtain ⟨M20, e20, hH20, hF20, k20, n20, _⟩ := mup hH18 hF18 (c := 55) (i := 2) (v := (z1 - 1)) (A := 0) (B := 8) (bs_24_2 _ _ (by omega) (by omega)) ⟨by omega, by omega⟩ (jin_of 9 rfl ⟨by omega, by omega⟩)
   refine jm_puti c1 hm rfl sh_55 rfl e20 ?_
   refine jx_load c1 hm rfl rfl rfl rfl ?_
   refine jx_geti c1 hm rfl sh_55 rfl k20 ?_
   exact jx_reti c2 hm rfl rfl ⟨_, rfl, hH20, hF20, by omega, by omega⟩
  ·
   refine jx_aald c1 hm rfl sh_56 (by omega) (by rw [h8]; rfl) ?_
   refine jv_v c3 hm rfl pj_X8_takeAll rfl rfl ⟨_, _, _, rfl, sh_12⟩ rfl ((ct_X8_takeAll_12_89 X (by omega) M7 hH7 ).le (by decide)) (fun M21 ⟨hH21, hR21⟩ => ?_)
   have hF21 := hF7.tr hR21 (by decide +kernel)
   refine jx_load c1 hm rfl rfl rfl rfl ?_
   refine jx_dup c1 hm rfl rfl ?_
   have k22 : M21.1 55 2 = z1 := (hR21 55 2 (by decide +kernel)).trans ((n7 55 2 (by decide)).trans k2)
   refine jx_geti c1 hm rfl sh_55 rfl k22 ?_
   refine jy_ic c1 hm rfl (by decide) ?_
   refine jy_sub c1 hm (z1 - 1) rfl (by omega) ?_
   obtain ⟨M23, e23, hH23, hF23, k23, n23, _⟩ := mup hH21 hF21 (c := 55) (i := 2) (v := (z1 - 1)) (A := 0) (B := 8) (bs_24_2 _ _ (by omega) (by omega)) ⟨by omega, by omega⟩ (jin_of 9 rfl ⟨by omega, by omega⟩)
   refine jm_puti c1 hm rfl sh_55 rfl e23 ?_
   refine jx_load c1 hm rfl rfl rfl rfl ?_
   refine jx_geti c1 hm rfl sh_55 rfl k23 ?_
   exact jx_reti c2 hm rfl rfl ⟨_, rfl, hH23, hF23, by omega, by omega⟩
  ·
   refine jx_aald c1 hm rfl sh_56 (by omega) (by rw [h8]; rfl) ?_
   refine jv_v c3 hm rfl pj_X8_takeAll rfl rfl ⟨_, _, _, rfl, sh_12⟩ rfl ((ct_X8_takeAll_12_97 X (by omega) M7 hH7 ).le (by decide)) (fun M24 ⟨hH24, hR24⟩ => ?_)
   have hF24 := hF7.tr hR24 (by decide +kernel)
   refine jx_load c1 hm rfl rfl rfl rfl ?_
   refine jx_dup c1 hm rfl rfl ?_
   have k25 : M24.1 55 2 = z1 := (hR24 55 2 (by decide +kernel)).trans ((n7 55 2 (by decide)).trans k2)
   refine jx_geti c1 hm rfl sh_55 rfl k25 ?_
   refine jy_ic c1 hm rfl (by decide) ?_
   refine jy_sub c1 hm (z1 - 1) rfl (by omega) ?_
   obtain ⟨M26, e26, hH26, hF26, k26, n26, _⟩ := mup hH24 hF24 (c := 55) (i := 2) (v := (z1 - 1)) (A := 0) (B := 8) (bs_24_2 _ _ (by omega) (by omega)) ⟨by omega, by omega⟩ (jin_of 9 rfl ⟨by omega, by omega⟩)
   refine jm_puti c1 hm rfl sh_55 rfl e26 ?_
   refine jx_load c1 hm rfl rfl rfl rfl ?_
   refine jx_geti c1 hm rfl sh_55 rfl k26 ?_
   exact jx_reti c2 hm rfl rfl ⟨_, rfl, hH26, hF26, by omega, by omega⟩
  ·
   refine jx_aald c1 hm rfl sh_56 (by omega) (by rw [h8]; rfl) ?_
   refine jv_v c3 hm rfl pj_X8_takeAll rfl rfl ⟨_, _, _, rfl, sh_12⟩ rfl ((ct_X8_takeAll_12_105 X (by omega) M7 hH7 ).le (by decide)) (fun M27 ⟨hH27, hR27⟩ => ?_)
   have hF27 := hF7.tr hR27 (by decide +kernel)
   refine jx_load c1 hm rfl rfl rfl rfl ?_
   refine jx_dup c1 hm rfl rfl ?_
   have k28 : M27.1 55 2 = z1 := (hR27 55 2 (by decide +kernel)).trans ((n7 55 2 (by decide)).trans k2)
   refine jx_geti c1 hm rfl sh_55 rfl k28 ?_
   refine jy_ic c1 hm rfl (by decide) ?_
   refine jy_sub c1 hm (z1 - 1) rfl (by omega) ?_
   obtain ⟨M29, e29, hH29, hF29, k29, n29, _⟩ := mup hH27 hF27 (c := 55) (i := 2) (v := (z1 - 1)) (A := 0) (B := 8) (bs_24_2 _ _ (by omega) (by omega)) ⟨by omega, by omega⟩ (jin_of 9 rfl ⟨by omega, by omega⟩)
   refine jm_puti c1 hm rfl sh_55 rfl e29 ?_
   refine jx_load c1 hm rfl rfl rfl rfl ?_
   refine jx_geti c1 hm rfl sh_55 rfl k29 ?_
   exact jx_reti c2 hm rfl rfl ⟨_, rfl, hH29, hF29, by omega, by omega⟩
  ·
   refine jx_aald c1 hm rfl sh_56 (by omega) (by rw [h8]; rfl) ?_
   refine jv_v c3 hm rfl pj_X8_takeAll rfl rfl ⟨_, _, _, rfl, sh_12⟩ rfl ((ct_X8_takeAll_12_113 X (by omega) M7 hH7 ).le (by decide)) (fun M30 ⟨hH30, hR30⟩ => ?_)
   have hF30 := hF7.tr hR30 (by decide +kernel)
   refine jx_load c1 hm rfl rfl rfl rfl ?_
   refine jx_dup c1 hm rfl rfl ?_
   have k31 : M30.1 55 2 = z1 := (hR30 55 2 (by decide +kernel)).trans ((n7 55 2 (by decide)).trans k2)
   refine jx_geti c1 hm rfl sh_55 rfl k31 ?_
   refine jy_ic c1 hm rfl (by decide) ?_
   refine jy_sub c1 hm (z1 - 1) rfl (by omega) ?_
   obtain ⟨M32, e32, hH32, hF32, k32, n32, _⟩ := mup hH30 hF30 (c := 55) (i := 2) (v := (z1 - 1)) (A := 0) (B := 8) (bs_24_2 _ _ (by omega) (by omega)) ⟨by omega, by omega⟩ (jin_of 9 rfl ⟨by omega, by omega⟩)
   refine jm_puti c1 hm rfl sh_55 rfl e32 ?_
   refine jx_load c1 hm rfl rfl rfl rfl ?_
   refine jx_geti c1 hm rfl sh_55 rfl k32 ?_
   exact jx_reti c2 hm rfl rfl ⟨_, rfl, hH32, hF32, by omega, by omega⟩
 refine jy_ic c1 hm rfl (by decide) ?_
 exact jx_reti c2 hm rfl rfl ⟨_, rfl, hH0, hF0, by omega, by omega⟩
def md_X11_undo_0 : List (Nat × (Nat × Nat)) := [(12, (7, 7)), (13, (0, 5)), (14, (0, 5)), (15, (0, 5)), (16, (0, 5)), (17, (0, 35)), (18, (0, 35)), (19, (0, 35)), (55, (1, 1)), (55, (2, 2))]
theorem ct_X11_undo_0 (X : Int) (hX : 0 ≤ X ∧ X ≤ 100000000) (M0 : JM) (hH0 : HI X M0)  : JOk shp PJ 4 76 [.inr (.inr (.inl 0))] M0 (jRi (fun v M' => HI X M' ∧ Fr md_X11_undo_0 M0 M' ∧ (-1) ≤ v ∧ v ≤ 7 )) := by
 refine ⟨jr_X11_undo, pj_X11_undo, fun F c1 c2 c3 => ?_⟩
 have hm := pj_X11_undo
 change F 0 [some (.inr (.inr (.inl 0)))] [] M0
 have hF0 : Fr md_X11_undo_0 M0 M0 := Fr.rf _ _
 refine jx_load c1 hm rfl rfl rfl rfl ?_
 refine jx_getr c1 hm rfl sh_0 rfl ?_
 refine jx_load c1 hm rfl rfl rfl rfl ?_
 refine jx_getr c1 hm rfl sh_0 rfl ?_
 refine jx_getr c1 hm rfl sh_5 rfl ?_
 refine jv_i c3 hm rfl pj_X4_giveBack rfl rfl ⟨_, _, _, rfl, sh_55⟩ rfl ((ct_X4_giveBack_55_12 X (by omega) M0 hH0 ).le (by decide)) (fun z1 M2 ⟨hH2, hR2, lz1, uz1⟩ => ?_)
 have hF2 := hF0.tr hR2 (by decide +kernel)
 exact jx_reti c2 hm rfl rfl ⟨_, rfl, hH2, hF2, by omega, by omega⟩
def md_X11_copyRow_24_122 : List (Nat × (Nat × Nat)) := [(122, (0, 5))]
theorem ct_X11_copyRow_24_122 (X : Int) (hX : 0 ≤ X ∧ X ≤ 100000000) (M0 : JM) (hH0 : HI X M0)  : JOk shp PJ 1 29 [.inr (.inr (.inl 24)), .inr (.inr (.inl 122))] M0 (jRv (fun M' => HI X M' ∧ Fr md_X11_copyRow_24_122 M0 M' )) := by
 refine ⟨jr_X11_copyRow, pj_X11_copyRow, fun F c1 c2 c3 => ?_⟩
 have hm := pj_X11_copyRow
 change F 0 [some (.inr (.inr (.inl 24))), some (.inr (.inr (.inl 122)))] [] M0
 have hF0 : Fr md_X11_copyRow_24_122 M0 M0 := Fr.rf _ _
 refine jx_load c1 hm rfl rfl rfl rfl ?_
 refine jy_ic c1 hm rfl (by decide) ?_
 refine jx_load c1 hm rfl rfl rfl rfl ?_
 refine jy_ic c1 hm rfl (by decide) ?_
 refine jx_load c1 hm rfl rfl rfl rfl ?_
 refine jx_alen c1 hm (v := 6) rfl sh_24 rfl rfl ?_
 refine jx_load c1 hm rfl rfl rfl rfl ?_
 refine jx_alen c1 hm (v := 6) rfl sh_122 rfl rfl ?_
 refine jx_min c1 hm rfl rfl (fun z1 lz1 uz1 ez1 => ?_)
 obtain ⟨M2, e2, hH2, hF2, n2, _⟩ := mcp hH0 hF0 (c1 := 24) (c2 := 122) (n := z1) (fun _ _ => rfl) (fun j hj => jin_of 0 rfl ⟨by omega, by omega⟩)
 refine jm_acpi c1 hm rfl rfl sh_24 sh_122 ⟨by omega, by omega, by omega⟩ e2 ?_
 exact jx_retv c2 hm rfl rfl ⟨rfl, hH2, hF2⟩
def md_X6_takeAll_121_23 : List (Nat × (Nat × Nat)) := [(121, (1, 1)), (122, (0, 5))]
theorem ct_X6_takeAll_121_23 (X : Int) (hX : 0 ≤ X ∧ X ≤ 100000000) (M0 : JM) (hH0 : HI X M0)  : JOk shp PJ 2 249 [.inr (.inr (.inl 121)), .inr (.inr (.inl 23))] M0 (jRv (fun M' => HI X M' ∧ Fr md_X6_takeAll_121_23 M0 M' )) := by
 refine ⟨jr_X6_takeAll, pj_X6_takeAll, fun F c1 c2 c3 => ?_⟩
 have hm := pj_X6_takeAll
 change F 0 [some (.inr (.inr (.inl 121))), some (.inr (.inr (.inl 23)))] [] M0
 have hF0 : Fr md_X6_takeAll_121_23 M0 M0 := Fr.rf _ _
 refine jx_load c1 hm rfl rfl rfl rfl ?_
 refine jx_getr c1 hm rfl sh_23 rfl ?_
 refine jx_load c1 hm rfl rfl rfl rfl ?_
 refine jx_getr c1 hm rfl sh_121 rfl ?_
 refine jt_v c3 hm rfl rfl pj_X11_copyRow rfl rfl rfl ((ct_X11_copyRow_24_122 X (by omega) M0 hH0 ).le (by decide)) (fun M1 ⟨hH1, hR1⟩ => ?_)
 have hF1 := hF0.tr hR1 (by decide +kernel)
 refine jx_load c1 hm rfl rfl rfl rfl ?_
 refine jx_load c1 hm rfl rfl rfl rfl ?_
 obtain ⟨z2, k3, lz2, uz2⟩ := hH1.ld (c := 23) (i := 1) (A := 0) (B := 6) (bs_22_1 _ _ (by omega) (by omega))
 refine jx_geti c1 hm rfl sh_23 rfl k3 ?_
 obtain ⟨M4, e4, hH4, hF4, k4, n4, _⟩ := mup hH1 hF1 (c := 121) (i := 1) (v := z2) (A := 0) (B := 6) (bs_22_1 _ _ (by omega) (by omega)) ⟨by omega, by omega⟩ (jin_of 0 rfl ⟨by omega, by omega⟩)
 refine jm_puti c1 hm rfl sh_121 rfl e4 ?_
 exact jx_retv c2 hm rfl rfl ⟨rfl, hH4, hF4⟩
def md_X11_ring_0 : List (Nat × (Nat × Nat)) := [(23, (1, 1)), (24, (0, 5)), (121, (1, 1)), (122, (0, 5))]
theorem ct_X11_ring_0 (X : Int) (hX : 0 ≤ X ∧ X ≤ 100000000) (M0 : JM) (hH0 : HI X M0)  : JOk shp PJ 10 61 [.inr (.inr (.inl 0))] M0 (jRi (fun v M' => HI X M' ∧ Fr md_X11_ring_0 M0 M' ∧ (-1) ≤ v ∧ v ≤ 6 )) := by
 refine ⟨jr_X11_ring, pj_X11_ring, fun F c1 c2 c3 => ?_⟩
 have hm := pj_X11_ring
 change F 0 [some (.inr (.inr (.inl 0)))] [] M0
 have hF0 : Fr md_X11_ring_0 M0 M0 := Fr.rf _ _
 refine jx_load c1 hm rfl rfl rfl rfl ?_
 refine jx_getr c1 hm rfl sh_0 rfl ?_
 refine jx_getr c1 hm rfl sh_4 rfl ?_
 refine jx_load c1 hm rfl rfl rfl rfl ?_
 refine jx_getr c1 hm rfl sh_0 rfl ?_
 refine jx_getr c1 hm rfl sh_5 rfl ?_
 refine jx_load c1 hm rfl rfl rfl rfl ?_
 refine jx_getr c1 hm rfl sh_0 rfl ?_
 refine jv_i c3 hm rfl pj_X2_men rfl rfl ⟨_, _, _, rfl, sh_5⟩ rfl ((ct_X2_men_5 X (by omega) M0 hH0 ).le (by decide)) (fun z1 _ ⟨rfl, lz1, uz1⟩ => ?_)
 refine jv_i c3 hm rfl pj_X6_find rfl rfl ⟨_, _, _, rfl, sh_23⟩ rfl ((ct_X6_find_23_12 X (by omega) M0 hH0 z1 ⟨by omega, by omega⟩).le (by decide)) (fun z2 M3 ⟨hH3, hR3, lz2, uz2⟩ => ?_)
 have hF3 := hF0.tr hR3 (by decide +kernel)
 refine jz_ne c1 hm 29 rfl rfl (fun h4 => ?_) (fun h4 => ?_)
 ·
  refine jx_load c1 hm rfl rfl rfl rfl ?_
  refine jx_getr c1 hm rfl sh_0 rfl ?_
  refine jx_load c1 hm rfl rfl rfl rfl ?_
  refine jx_getr c1 hm rfl sh_0 rfl ?_
  refine jx_getr c1 hm rfl sh_4 rfl ?_
  refine jv_v c3 hm rfl pj_X6_takeAll rfl rfl ⟨_, _, _, rfl, sh_121⟩ rfl ((ct_X6_takeAll_121_23 X (by omega) M3 hH3 ).le (by decide)) (fun M5 ⟨hH5, hR5⟩ => ?_)
  have hF5 := hF3.tr hR5 (by decide +kernel)
  refine jx_load c1 hm rfl rfl rfl rfl ?_
  refine jx_getr c1 hm rfl sh_0 rfl ?_
  obtain ⟨z6, k7, lz6, uz6⟩ := hH5.ld (c := 121) (i := 1) (A := 0) (B := 6) (bs_22_1 _ _ (by omega) (by omega))
  refine jx_geti c1 hm rfl sh_121 rfl k7 ?_
  exact jx_reti c2 hm rfl rfl ⟨_, rfl, hH5, hF5, by omega, by omega⟩
 refine jy_ic c1 hm rfl (by decide) ?_
 exact jx_reti c2 hm rfl rfl ⟨_, rfl, hH3, hF3, by omega, by omega⟩
theorem ct_X11_ringAt_0 (X : Int) (hX : 0 ≤ X ∧ X ≤ 100000000) (M0 : JM) (hH0 : HI X M0) (a0 : Int) (ha0 : (-2147483648) ≤ a0 ∧ a0 ≤ 2147483647) : JOk shp PJ 1 62 [.inr (.inr (.inl 0)), .inl a0] M0 (jRi (fun v M' => M0 = M' ∧ (-1) ≤ v ∧ v ≤ 5 )) := by
 refine ⟨jr_X11_ringAt, pj_X11_ringAt, fun F c1 c2 c3 => ?_⟩
 have hm := pj_X11_ringAt
 change F 0 [some (.inr (.inr (.inl 0))), some (.inl a0)] [] M0
 refine jx_load c1 hm rfl rfl rfl rfl ?_
 refine jz_lt c1 hm 27 rfl rfl (fun h1 => ?_) (fun h1 => ?_)
 ·
  refine jy_ic c1 hm rfl (by decide) ?_
  exact jx_reti c2 hm rfl rfl ⟨_, rfl, rfl, by omega, by omega⟩
 refine jx_load c1 hm rfl rfl rfl rfl ?_
 refine jx_load c1 hm rfl rfl rfl rfl ?_
 refine jx_getr c1 hm rfl sh_0 rfl ?_
 obtain ⟨z2, k3, lz2, uz2⟩ := hH0.ld (c := 121) (i := 1) (A := 0) (B := 6) (bs_22_1 _ _ (by omega) (by omega))
 refine jx_geti c1 hm rfl sh_121 rfl k3 ?_
 refine jc_ge c1 hm 27 rfl rfl (fun h4 => ?_) (fun h4 => ?_)
 ·
  refine jy_ic c1 hm rfl (by decide) ?_
  exact jx_reti c2 hm rfl rfl ⟨_, rfl, rfl, by omega, by omega⟩
 refine jx_load c1 hm rfl rfl rfl rfl ?_
 refine jx_getr c1 hm rfl sh_0 rfl ?_
 refine jx_getr c1 hm rfl sh_121 rfl ?_
 refine jx_load c1 hm rfl rfl rfl rfl ?_
 obtain ⟨z5, k6, lz5, uz5⟩ := hH0.ld (c := 122) (i := (a0).toNat) (A := 0) (B := 5) rfl
 refine jx_iald c1 hm rfl sh_122 ⟨by omega, by omega⟩ k6 ?_
 refine jx_goto c1 hm 28 rfl rfl ?_
 exact jx_reti c2 hm rfl rfl ⟨_, rfl, rfl, by omega, by omega⟩
theorem ct_X2_forfeits_5 (X : Int) (hX : 0 ≤ X ∧ X ≤ 100000000) (M0 : JM) (hH0 : HI X M0)  : JOk shp PJ 1 217 [.inr (.inr (.inl 5))] M0 (jRi (fun v M' => M0 = M' ∧ 0 ≤ v ∧ v ≤ 6 )) := by
 refine ⟨jr_X2_forfeits, pj_X2_forfeits, fun F c1 c2 c3 => ?_⟩
 have hm := pj_X2_forfeits
 change F 0 [some (.inr (.inr (.inl 5)))] [] M0
 refine jx_load c1 hm rfl rfl rfl rfl ?_
 refine jx_getr c1 hm rfl sh_5 rfl ?_
 refine jy_ic c1 hm rfl (by decide) ?_
 obtain ⟨z1, k2, lz1, uz1⟩ := hH0.ld (c := 6) (i := 1) (A := 0) (B := 6) rfl
 refine jx_iald c1 hm rfl sh_6 ⟨by omega, by omega⟩ k2 ?_
 exact jx_reti c2 hm rfl rfl ⟨_, rfl, rfl, by omega, by omega⟩
def md_X5_fillPays_123_5 : List (Nat × (Nat × Nat)) := [(125, (0, 125))]
theorem ct_X5_fillPays_123_5 (X : Int) (hX : 0 ≤ X ∧ X ≤ 100000000) (M0 : JM) (hH0 : HI X M0) (a0 : Int) (ha0 : 0 ≤ a0 ∧ a0 ≤ 5) (a1 : Int) (ha1 : 0 ≤ a1 ∧ a1 ≤ 6) : JOk shp PJ 2 243 [.inr (.inr (.inl 123)), .inr (.inr (.inl 5)), .inl a0, .inl a1] M0 (jRv (fun M' => HI X M' ∧ Fr md_X5_fillPays_123_5 M0 M' )) := by
 refine ⟨jr_X5_fillPays, pj_X5_fillPays, fun F c1 c2 c3 => ?_⟩
 have hm := pj_X5_fillPays
 change F 0 [some (.inr (.inr (.inl 123))), some (.inr (.inr (.inl 5))), some (.inl a0), some (.inl a1), none, none, none, none] [] M0
 have hF0 : Fr md_X5_fillPays_123_5 M0 M0 := Fr.rf _ _
 refine jy_ic c1 hm rfl (by decide) ?_
 refine jx_stor c1 hm (L' := [some (.inr (.inr (.inl 123))), some (.inr (.inr (.inl 5))), some (.inl a0), some (.inl a1), some (.inl 0), none, none, none]) rfl rfl rfl rfl rfl ?_
 have W6 : ∀ (n7 : Nat) (b1 : Int) (hb1 : 0 ≤ b1 ∧ b1 ≤ 6) (o2 : Option JV) (ho2 : o2 = none ∨ (∃ z, o2 = some (.inl z)) ∨ ∃ r, o2 = some (.inr (.inr r))) (o3 : Option JV) (ho3 : o3 = none ∨ (∃ z, o3 = some (.inl z)) ∨ ∃ r, o3 = some (.inr (.inr r))) (o4 : Option JV) (ho4 : o4 = none ∨ (∃ z, o4 = some (.inl z)) ∨ ∃ r, o4 = some (.inr (.inr r))) (M5 : JM) (hH5 : HI (X) M5) (hF5 : Fr md_X5_fillPays_123_5 M0 M5), (-b1 + 6) < (n7 : Int) → F 3 [some (.inr (.inr (.inl 123))), some (.inr (.inr (.inl 5))), some (.inl a0), some (.inl a1), some (.inl b1), o2, o3, o4] [] M5 := by
  intro n7
  induction n7 with
  | zero => intros; omega
  | succ n7 ihW6 =>
   intro b1 hb1 o2 ho2 o3 ho3 o4 ho4 M5 hH5 hF5 hrW6
   refine jx_load c1 hm rfl rfl rfl rfl ?_
   refine jx_load c1 hm rfl rfl rfl rfl ?_
   refine jc_ge c1 hm 83 rfl rfl (fun h8 => ?_) (fun h8 => ?_)
   ·
    exact jx_retv c2 hm rfl rfl ⟨rfl, hH5, hF5⟩
   refine jx_load c1 hm rfl rfl rfl rfl ?_
   refine jx_getr c1 hm rfl sh_5 rfl ?_
   refine jx_getr c1 hm rfl sh_12 rfl ?_
   refine jx_load c1 hm rfl rfl rfl rfl ?_
   refine jy_bp c1 hm rfl (by decide) ?_
   refine jy_mul c1 hm (6 * a0) rfl (by omega) ?_
   refine jx_load c1 hm rfl rfl rfl rfl ?_
   refine jy_add c1 hm (6 * a0 + b1) rfl (by omega) ?_
   obtain ⟨z9, k10, lz9, uz9⟩ := hH5.ld (c := 18) (i := ((6 * a0 + b1)).toNat) (A := 0) (B := 1 * X) rfl
   refine jx_iald c1 hm rfl sh_18 ⟨by omega, by omega⟩ k10 ?_
   refine jx_stor c1 hm (L' := [some (.inr (.inr (.inl 123))), some (.inr (.inr (.inl 5))), some (.inl a0), some (.inl a1), some (.inl b1), some (.inl z9), o3, o4]) rfl rfl rfl rfl rfl ?_
   refine jy_ic c1 hm rfl (by decide) ?_
   refine jx_stor c1 hm (L' := [some (.inr (.inr (.inl 123))), some (.inr (.inr (.inl 5))), some (.inl a0), some (.inl a1), some (.inl b1), some (.inl z9), some (.inl 0), o4]) rfl rfl rfl rfl rfl ?_
   refine jy_ic c1 hm rfl (by decide) ?_
   refine jx_stor c1 hm (L' := [some (.inr (.inr (.inl 123))), some (.inr (.inr (.inl 5))), some (.inl a0), some (.inl a1), some (.inl b1), some (.inl z9), some (.inl 0), some (.inl 0)]) rfl rfl rfl rfl rfl ?_
   have W15 : ∀ (n16 : Nat) (b11 : Int) (hb11 : 0 ≤ b11 ∧ b11 ≤ 476) (b12 : Int) (hb12 : 0 ≤ b12 ∧ b12 ≤ 21) (M13 : JM) (hH13 : HI (X) M13) (hF13 : Fr md_X5_fillPays_123_5 M0 M13) (h14 : 0 ≤ b11 ∧ b11 ≤ 20 * b12), (-b12 + 21) < (n16 : Int) → F 32 [some (.inr (.inr (.inl 123))), some (.inr (.inr (.inl 5))), some (.inl a0), some (.inl a1), some (.inl b1), some (.inl z9), some (.inl b11), some (.inl b12)] [] M13 := by
    intro n16
    induction n16 with
    | zero => intros; omega
    | succ n16 ihW15 =>
     intro b11 hb11 b12 hb12 M13 hH13 hF13 h14 hrW15
     refine jx_load c1 hm rfl rfl rfl rfl ?_
     refine jy_bp c1 hm rfl (by decide) ?_
     refine jc_ge c1 hm 77 rfl rfl (fun h17 => ?_) (fun h17 => ?_)
     ·
      refine jx_iinc c1 hm (v := (b1 + 1)) (L' := [some (.inr (.inr (.inl 123))), some (.inr (.inr (.inl 5))), some (.inl a0), some (.inl a1), some (.inl (b1 + 1)), some (.inl z9), some (.inl b11), some (.inl b12)]) rfl rfl (by omega) (by omega) rfl ?_
      refine jx_goto c1 hm 3 rfl rfl ?_
      exact ihW6 (b1 + 1) (by omega) (some (.inl z9)) (Or.inr (Or.inl ⟨_, rfl⟩)) (some (.inl b11)) (Or.inr (Or.inl ⟨_, rfl⟩)) (some (.inl b12)) (Or.inr (Or.inl ⟨_, rfl⟩)) M13 hH13 hF13 (by omega)
     refine jx_load c1 hm rfl rfl rfl rfl ?_
     refine jx_getr c1 hm rfl sh_123 rfl ?_
     refine jx_load c1 hm rfl rfl rfl rfl ?_
     refine jy_bp c1 hm rfl (by decide) ?_
     refine jy_mul c1 hm (21 * b1) rfl (by omega) ?_
     refine jx_load c1 hm rfl rfl rfl rfl ?_
     refine jy_add c1 hm (21 * b1 + b12) rfl (by omega) ?_
     refine jx_load c1 hm rfl rfl rfl rfl ?_
     obtain ⟨M18, e18, hH18, hF18, k18, n18, _⟩ := mup hH13 hF13 (c := 125) (i := ((21 * b1 + b12)).toNat) (v := b11) (A := 0) (B := 420) rfl ⟨by omega, by omega⟩ (jin_of 0 rfl ⟨by omega, by omega⟩)
     refine jm_iast c1 hm rfl sh_125 ⟨by omega, by omega⟩ e18 ?_
     refine jx_load c1 hm rfl rfl rfl rfl ?_
     refine jx_load c1 hm rfl rfl rfl rfl ?_
     refine jx_load c1 hm rfl rfl rfl rfl ?_
     refine jx_load c1 hm rfl rfl rfl rfl ?_
     refine jx_load c1 hm rfl rfl rfl rfl ?_
     refine jx_load c1 hm rfl rfl rfl rfl ?_
     refine jy_add c1 hm (b12 + z9) rfl (by omega) ?_
     refine jv_i c3 hm rfl pj_X2_costAfter rfl rfl ⟨_, _, _, rfl, sh_5⟩ rfl ((ct_X2_costAfter_5 X (by omega) M18 hH18 a0 ⟨by omega, by omega⟩ b1 ⟨by omega, by omega⟩ (b12 + z9) ⟨by omega, by omega⟩).le (by decide)) (fun z19 _ ⟨rfl, lz19, uz19, p20⟩ => ?_)
     refine jy_add c1 hm (b11 + z19) rfl (by omega) ?_
     refine jx_stor c1 hm (L' := [some (.inr (.inr (.inl 123))), some (.inr (.inr (.inl 5))), some (.inl a0), some (.inl a1), some (.inl b1), some (.inl z9), some (.inl (b11 + z19)), some (.inl b12)]) rfl rfl rfl rfl rfl ?_
     refine jx_iinc c1 hm (v := (b12 + 1)) (L' := [some (.inr (.inr (.inl 123))), some (.inr (.inr (.inl 5))), some (.inl a0), some (.inl a1), some (.inl b1), some (.inl z9), some (.inl (b11 + z19)), some (.inl (b12 + 1))]) rfl rfl (by omega) (by omega) rfl ?_
     refine jx_goto c1 hm 32 rfl rfl ?_
     exact ihW15 (b11 + z19) (by omega) (b12 + 1) (by omega) M18 hH18 hF18 (by omega) (by omega)
   exact W15 (21 + 1 : Int).toNat 0 (by omega) 0 (by omega) M5 hH5 hF5 (by omega) (by omega)
 exact W6 (6 + 1 : Int).toNat 0 (by omega) none (Or.inl rfl) none (Or.inl rfl) none (Or.inl rfl) M0 hH0 hF0 (by omega)
theorem ct_X5_fewestFor_123 (X : Int) (hX : 0 ≤ X ∧ X ≤ 100000000) (M0 : JM) (hH0 : HI X M0) (a0 : Int) (ha0 : 0 ≤ a0 ∧ a0 ≤ 5) (a1 : Int) (ha1 : 0 ≤ a1 ∧ a1 ≤ 99) : JOk shp PJ 1 242 [.inr (.inr (.inl 123)), .inl a0, .inl a1] M0 (jRi (fun v M' => M0 = M' ∧ (-2147483648) ≤ v ∧ v ≤ 1000 )) := by
 refine ⟨jr_X5_fewestFor, pj_X5_fewestFor, fun F c1 c2 c3 => ?_⟩
 have hm := pj_X5_fewestFor
 change F 0 [some (.inr (.inr (.inl 123))), some (.inl a0), some (.inl a1), none, none, none] [] M0
 refine jy_sp c1 hm rfl (by decide) ?_
 refine jx_stor c1 hm (L' := [some (.inr (.inr (.inl 123))), some (.inl a0), some (.inl a1), some (.inl 1000), none, none]) rfl rfl rfl rfl rfl ?_
 refine jy_ic c1 hm rfl (by decide) ?_
 refine jx_stor c1 hm (L' := [some (.inr (.inr (.inl 123))), some (.inl a0), some (.inl a1), some (.inl 1000), some (.inl 0), none]) rfl rfl rfl rfl rfl ?_
 have W4 : ∀ (n5 : Nat) (b1 : Int) (hb1 : (-2147483648) ≤ b1 ∧ b1 ≤ 1000) (b2 : Int) (hb2 : 0 ≤ b2 ∧ b2 ≤ 21) (o3 : Option JV) (ho3 : o3 = none ∨ (∃ z, o3 = some (.inl z)) ∨ ∃ r, o3 = some (.inr (.inr r))), (-b2 + 21) < (n5 : Int) → F 7 [some (.inr (.inr (.inl 123))), some (.inl a0), some (.inl a1), some (.inl b1), some (.inl b2), o3] [] M0 := by
  intro n5
  induction n5 with
  | zero => intros; omega
  | succ n5 ihW4 =>
   intro b1 hb1 b2 hb2 o3 ho3 hrW4
   refine jx_load c1 hm rfl rfl rfl rfl ?_
   refine jy_bp c1 hm rfl (by decide) ?_
   refine jc_ge c1 hm 67 rfl rfl (fun h6 => ?_) (fun h6 => ?_)
   ·
    refine jx_load c1 hm rfl rfl rfl rfl ?_
    exact jx_reti c2 hm rfl rfl ⟨_, rfl, rfl, by omega, by omega⟩
   refine jx_load c1 hm rfl rfl rfl rfl ?_
   refine jx_getr c1 hm rfl sh_123 rfl ?_
   refine jx_load c1 hm rfl rfl rfl rfl ?_
   refine jy_bp c1 hm rfl (by decide) ?_
   refine jy_mul c1 hm (21 * a0) rfl (by omega) ?_
   refine jx_load c1 hm rfl rfl rfl rfl ?_
   refine jy_add c1 hm (21 * a0 + b2) rfl (by omega) ?_
   obtain ⟨z7, k8, lz7, uz7⟩ := hH0.ld (c := 125) (i := ((21 * a0 + b2)).toNat) (A := 0) (B := 420) rfl
   refine jx_iald c1 hm rfl sh_125 ⟨by omega, by omega⟩ k8 ?_
   refine jx_stor c1 hm (L' := [some (.inr (.inr (.inl 123))), some (.inl a0), some (.inl a1), some (.inl b1), some (.inl b2), some (.inl z7)]) rfl rfl rfl rfl rfl ?_
   refine jx_load c1 hm rfl rfl rfl rfl ?_
   refine jx_load c1 hm rfl rfl rfl rfl ?_
   refine jc_le c1 hm 37 rfl rfl (fun h9 => ?_) (fun h9 => ?_)
   ·
    refine jx_load c1 hm rfl rfl rfl rfl ?_
    refine jx_load c1 hm rfl rfl rfl rfl ?_
    refine jx_load c1 hm rfl rfl rfl rfl ?_
    refine jx_getr c1 hm rfl sh_123 rfl ?_
    refine jx_load c1 hm rfl rfl rfl rfl ?_
    refine jy_ic c1 hm rfl (by decide) ?_
    refine jy_add c1 hm (a0 + 1) rfl (by omega) ?_
    refine jy_bp c1 hm rfl (by decide) ?_
    refine jy_mul c1 hm (100 * a0 + 100) rfl (by omega) ?_
    refine jx_load c1 hm rfl rfl rfl rfl ?_
    refine jy_add c1 hm (100 * a0 + a1 + 100) rfl (by omega) ?_
    refine jx_load c1 hm rfl rfl rfl rfl ?_
    refine jy_sub c1 hm (100 * a0 + a1 - z7 + 100) rfl (by omega) ?_
    obtain ⟨z10, k11, lz10, uz10⟩ := hH0.ld (c := 124) (i := ((100 * a0 + a1 - z7 + 100)).toNat) (A := (-2147483648)) (B := 2147483647) rfl
    refine jx_iald c1 hm rfl sh_124 ⟨by omega, by omega⟩ k11 ?_
    refine jx_iopw c1 hm rfl rfl (fun z12 lz12 uz12 => ?_)
    refine jx_min c1 hm rfl rfl (fun z13 lz13 uz13 ez13 => ?_)
    refine jx_stor c1 hm (L' := [some (.inr (.inr (.inl 123))), some (.inl a0), some (.inl a1), some (.inl z13), some (.inl b2), some (.inl z7)]) rfl rfl rfl rfl rfl ?_
    refine jx_iinc c1 hm (v := (b2 + 1)) (L' := [some (.inr (.inr (.inl 123))), some (.inl a0), some (.inl a1), some (.inl z13), some (.inl (b2 + 1)), some (.inl z7)]) rfl rfl (by omega) (by omega) rfl ?_
    refine jx_goto c1 hm 7 rfl rfl ?_
    exact ihW4 z13 (by omega) (b2 + 1) (by omega) (some (.inl z7)) (Or.inr (Or.inl ⟨_, rfl⟩)) (by omega)
   refine jx_goto c1 hm 67 rfl rfl ?_
   refine jx_load c1 hm rfl rfl rfl rfl ?_
   exact jx_reti c2 hm rfl rfl ⟨_, rfl, rfl, by omega, by omega⟩
 exact W4 (21 + 1 : Int).toNat 1000 (by omega) 0 (by omega) none (Or.inl rfl) (by omega)
def md_X5_choose_123 : List (Nat × (Nat × Nat)) := [(123, (3, 3)), (126, (0, 5))]
theorem ct_X5_choose_123 (X : Int) (hX : 0 ≤ X ∧ X ≤ 100000000) (M0 : JM) (hH0 : HI X M0) (a0 : Int) (ha0 : 0 ≤ a0 ∧ a0 ≤ 6) (a1 : Int) (ha1 : 0 ≤ a1 ∧ a1 ≤ 99) : JOk shp PJ 1 241 [.inr (.inr (.inl 123)), .inl a0, .inl a1] M0 (jRv (fun M' => HI X M' ∧ Fr md_X5_choose_123 M0 M' )) := by
 refine ⟨jr_X5_choose, pj_X5_choose, fun F c1 c2 c3 => ?_⟩
 have hm := pj_X5_choose
 change F 0 [some (.inr (.inr (.inl 123))), some (.inl a0), some (.inl a1), none, none, none, none] [] M0
 have hF0 : Fr md_X5_choose_123 M0 M0 := Fr.rf _ _
 refine jx_load c1 hm rfl rfl rfl rfl ?_
 refine jx_stor c1 hm (L' := [some (.inr (.inr (.inl 123))), some (.inl a0), some (.inl a1), some (.inl a1), none, none, none]) rfl rfl rfl rfl rfl ?_
 refine jy_ic c1 hm rfl (by decide) ?_
 refine jx_stor c1 hm (L' := [some (.inr (.inr (.inl 123))), some (.inl a0), some (.inl a1), some (.inl a1), some (.inl 0), none, none]) rfl rfl rfl rfl rfl ?_
 have W6 : ∀ (n7 : Nat) (b1 : Int) (hb1 : (-2000000000) ≤ b1 ∧ b1 ≤ 99) (b2 : Int) (hb2 : 0 ≤ b2 ∧ b2 ≤ 6) (o3 : Option JV) (ho3 : o3 = none ∨ (∃ z, o3 = some (.inl z)) ∨ ∃ r, o3 = some (.inr (.inr r))) (o4 : Option JV) (ho4 : o4 = none ∨ (∃ z, o4 = some (.inl z)) ∨ ∃ r, o4 = some (.inr (.inr r))) (M5 : JM) (hH5 : HI (X) M5) (hF5 : Fr md_X5_choose_123 M0 M5), (-b2 + 6) < (n7 : Int) → F 5 [some (.inr (.inr (.inl 123))), some (.inl a0), some (.inl a1), some (.inl b1), some (.inl b2), o3, o4] [] M5 := by
  intro n7
  induction n7 with
  | zero => intros; omega
  | succ n7 ihW6 =>
   intro b1 hb1 b2 hb2 o3 ho3 o4 ho4 M5 hH5 hF5 hrW6
   refine jx_load c1 hm rfl rfl rfl rfl ?_
   refine jx_load c1 hm rfl rfl rfl rfl ?_
   refine jc_ge c1 hm 103 rfl rfl (fun h8 => ?_) (fun h8 => ?_)
   ·
    refine jx_load c1 hm rfl rfl rfl rfl ?_
    refine jx_load c1 hm rfl rfl rfl rfl ?_
    obtain ⟨M28, e28, hH28, hF28, k28, n28, _⟩ := mup hH5 hF5 (c := 123) (i := 3) (v := a0) (A := 0) (B := 6) (bs_25_1 _ _ (by omega) (by omega)) ⟨by omega, by omega⟩ (jin_of 0 rfl ⟨by omega, by omega⟩)
    refine jm_puti c1 hm rfl sh_123 rfl e28 ?_
    exact jx_retv c2 hm rfl rfl ⟨rfl, hH28, hF28⟩
   refine jy_ic c1 hm rfl (by decide) ?_
   refine jx_stor c1 hm (L' := [some (.inr (.inr (.inl 123))), some (.inl a0), some (.inl a1), some (.inl b1), some (.inl b2), some (.inl 0), o4]) rfl rfl rfl rfl rfl ?_
   have W11 : ∀ (n12 : Nat) (b9 : Int) (hb9 : 0 ≤ b9 ∧ b9 ≤ 21) (o10 : Option JV) (ho10 : o10 = none ∨ (∃ z, o10 = some (.inl z)) ∨ ∃ r, o10 = some (.inr (.inr r))), (-b9 + 21) < (n12 : Int) → F 14 [some (.inr (.inr (.inl 123))), some (.inl a0), some (.inl a1), some (.inl b1), some (.inl b2), some (.inl b9), o10] [] M5 := by
    intro n12
    induction n12 with
    | zero => intros; omega
    | succ n12 ihW11 =>
     intro b9 hb9 o10 ho10 hrW11
     refine jx_load c1 hm rfl rfl rfl rfl ?_
     refine jy_bp c1 hm rfl (by decide) ?_
     have J27 : ∀ (b24 : Int) (hb24 : (-2000000000) ≤ b24 ∧ b24 ≤ 99) (o25 : Option JV) (ho25 : o25 = none ∨ (∃ z, o25 = some (.inl z)) ∨ ∃ r, o25 = some (.inr (.inr r))) (M26 : JM) (hH26 : HI (X) M26) (hF26 : Fr md_X5_choose_123 M0 M26), F 97 [some (.inr (.inr (.inl 123))), some (.inl a0), some (.inl a1), some (.inl b24), some (.inl b2), some (.inl b9), o25] [] M26 := by
      intro b24 hb24 o25 ho25 M26 hH26 hF26
      refine jx_iinc c1 hm (v := (b2 + 1)) (L' := [some (.inr (.inr (.inl 123))), some (.inl a0), some (.inl a1), some (.inl b24), some (.inl (b2 + 1)), some (.inl b9), o25]) rfl rfl (by omega) (by omega) rfl ?_
      refine jx_goto c1 hm 5 rfl rfl ?_
      exact ihW6 b24 (by omega) (b2 + 1) (by omega) (some (.inl b9)) (Or.inr (Or.inl ⟨_, rfl⟩)) o25 ho25 M26 hH26 hF26 (by omega)
     refine jc_ge c1 hm 97 rfl rfl (fun h13 => ?_) (fun h13 => ?_)
     ·
      exact J27 b1 (by omega) o10 ho10 M5 hH5 hF5
     refine jx_load c1 hm rfl rfl rfl rfl ?_
     refine jx_load c1 hm rfl rfl rfl rfl ?_
     refine jx_getr c1 hm rfl sh_123 rfl ?_
     refine jx_load c1 hm rfl rfl rfl rfl ?_
     refine jy_bp c1 hm rfl (by decide) ?_
     refine jy_mul c1 hm (21 * b2) rfl (by omega) ?_
     refine jx_load c1 hm rfl rfl rfl rfl ?_
     refine jy_add c1 hm (21 * b2 + b9) rfl (by omega) ?_
     obtain ⟨z14, k15, lz14, uz14⟩ := hH5.ld (c := 125) (i := ((21 * b2 + b9)).toNat) (A := 0) (B := 420) rfl
     refine jx_iald c1 hm rfl sh_125 ⟨by omega, by omega⟩ k15 ?_
     refine jy_sub c1 hm (b1 - z14) rfl (by omega) ?_
     refine jx_stor c1 hm (L' := [some (.inr (.inr (.inl 123))), some (.inl a0), some (.inl a1), some (.inl b1), some (.inl b2), some (.inl b9), some (.inl (b1 - z14))]) rfl rfl rfl rfl rfl ?_
     refine jx_load c1 hm rfl rfl rfl rfl ?_
     refine jz_lt c1 hm 91 rfl rfl (fun h16 => ?_) (fun h16 => ?_)
     ·
      refine jx_iinc c1 hm (v := (b9 + 1)) (L' := [some (.inr (.inr (.inl 123))), some (.inl a0), some (.inl a1), some (.inl b1), some (.inl b2), some (.inl (b9 + 1)), some (.inl (b1 - z14))]) rfl rfl (by omega) (by omega) rfl ?_
      refine jx_goto c1 hm 14 rfl rfl ?_
      exact ihW11 (b9 + 1) (by omega) (some (.inl (b1 - z14))) (Or.inr (Or.inl ⟨_, rfl⟩)) (by omega)
     refine jx_load c1 hm rfl rfl rfl rfl ?_
     refine jx_load c1 hm rfl rfl rfl rfl ?_
     refine jx_getr c1 hm rfl sh_123 rfl ?_
     refine jx_load c1 hm rfl rfl rfl rfl ?_
     refine jy_ic c1 hm rfl (by decide) ?_
     refine jy_add c1 hm (b2 + 1) rfl (by omega) ?_
     refine jy_bp c1 hm rfl (by decide) ?_
     refine jy_mul c1 hm (100 * b2 + 100) rfl (by omega) ?_
     refine jx_load c1 hm rfl rfl rfl rfl ?_
     refine jy_add c1 hm (b1 + 100 * b2 - z14 + 100) rfl (by omega) ?_
     obtain ⟨z17, k18, lz17, uz17⟩ := hH5.ld (c := 124) (i := ((b1 + 100 * b2 - z14 + 100)).toNat) (A := (-2147483648)) (B := 2147483647) rfl
     refine jx_iald c1 hm rfl sh_124 ⟨by omega, by omega⟩ k18 ?_
     refine jx_iopw c1 hm rfl rfl (fun z19 lz19 uz19 => ?_)
     refine jx_load c1 hm rfl rfl rfl rfl ?_
     refine jx_getr c1 hm rfl sh_123 rfl ?_
     refine jx_load c1 hm rfl rfl rfl rfl ?_
     refine jy_bp c1 hm rfl (by decide) ?_
     refine jy_mul c1 hm (100 * b2) rfl (by omega) ?_
     refine jx_load c1 hm rfl rfl rfl rfl ?_
     refine jy_add c1 hm (b1 + 100 * b2) rfl (by omega) ?_
     obtain ⟨z20, k21, lz20, uz20⟩ := hH5.ld (c := 124) (i := ((b1 + 100 * b2)).toNat) (A := (-2147483648)) (B := 2147483647) rfl
     refine jx_iald c1 hm rfl sh_124 ⟨by omega, by omega⟩ k21 ?_
     refine jc_ne c1 hm 91 rfl rfl (fun h22 => ?_) (fun h22 => ?_)
     ·
      refine jx_iinc c1 hm (v := (b9 + 1)) (L' := [some (.inr (.inr (.inl 123))), some (.inl a0), some (.inl a1), some (.inl b1), some (.inl b2), some (.inl (b9 + 1)), some (.inl (b1 - z14))]) rfl rfl (by omega) (by omega) rfl ?_
      refine jx_goto c1 hm 14 rfl rfl ?_
      exact ihW11 (b9 + 1) (by omega) (some (.inl (b1 - z14))) (Or.inr (Or.inl ⟨_, rfl⟩)) (by omega)
     refine jx_load c1 hm rfl rfl rfl rfl ?_
     refine jx_getr c1 hm rfl sh_123 rfl ?_
     refine jx_load c1 hm rfl rfl rfl rfl ?_
     refine jx_load c1 hm rfl rfl rfl rfl ?_
     obtain ⟨M23, e23, hH23, hF23, k23, n23, _⟩ := mup hH5 hF5 (c := 126) (i := (b2).toNat) (v := b9) (A := (-2147483648)) (B := 2147483647) rfl ⟨by omega, by omega⟩ (jin_of 1 rfl ⟨by omega, by omega⟩)
     refine jm_iast c1 hm rfl sh_126 ⟨by omega, by omega⟩ e23 ?_
     refine jx_load c1 hm rfl rfl rfl rfl ?_
     refine jx_stor c1 hm (L' := [some (.inr (.inr (.inl 123))), some (.inl a0), some (.inl a1), some (.inl (b1 - z14)), some (.inl b2), some (.inl b9), some (.inl (b1 - z14))]) rfl rfl rfl rfl rfl ?_
     refine jx_goto c1 hm 97 rfl rfl ?_
     exact J27 (b1 - z14) (by omega) (some (.inl (b1 - z14))) (Or.inr (Or.inl ⟨_, rfl⟩)) M23 hH23 hF23
   exact W11 (21 + 1 : Int).toNat 0 (by omega) o4 ho4 (by omega)
 exact W6 (6 + 1 : Int).toNat a1 (by omega) 0 (by omega) none (Or.inl rfl) none (Or.inl rfl) M0 hH0 hF0 (by omega)
def md_X5_find_123_5 : List (Nat × (Nat × Nat)) := [(123, (3, 3)), (124, (0, 699)), (125, (0, 125)), (126, (0, 5))]
theorem ct_X5_find_123_5 (X : Int) (hX : 0 ≤ X ∧ X ≤ 100000000) (M0 : JM) (hH0 : HI X M0) (a0 : Int) (ha0 : 0 ≤ a0 ∧ a0 ≤ 5) (a1 : Int) (ha1 : 0 ≤ a1 ∧ a1 ≤ 200) : JOk shp PJ 3 244 [.inr (.inr (.inl 123)), .inr (.inr (.inl 5)), .inl a0, .inl a1] M0 (jRi (fun v M' => HI X M' ∧ Fr md_X5_find_123_5 M0 M' ∧ (-1) ≤ v ∧ v ≤ 99 )) := by
 refine ⟨jr_X5_find, pj_X5_find, fun F c1 c2 c3 => ?_⟩
 have hm := pj_X5_find
 change F 0 [some (.inr (.inr (.inl 123))), some (.inr (.inr (.inl 5))), some (.inl a0), some (.inl a1), none, none, none, none] [] M0
 have hF0 : Fr md_X5_find_123_5 M0 M0 := Fr.rf _ _
 refine jx_load c1 hm rfl rfl rfl rfl ?_
 refine jx_getr c1 hm rfl sh_5 rfl ?_
 refine jx_getr c1 hm rfl sh_12 rfl ?_
 refine jx_load c1 hm rfl rfl rfl rfl ?_
 obtain ⟨z1, k2, lz1, uz1⟩ := hH0.ld (c := 13) (i := (a0).toNat) (A := (-2147483648)) (B := 2147483647) rfl
 refine jx_iald c1 hm rfl sh_13 ⟨by omega, by omega⟩ k2 ?_
 refine jy_bp c1 hm rfl (by decide) ?_
 refine jx_min c1 hm rfl rfl (fun z3 lz3 uz3 ez3 => ?_)
 refine jx_stor c1 hm (L' := [some (.inr (.inr (.inl 123))), some (.inr (.inr (.inl 5))), some (.inl a0), some (.inl a1), some (.inl z3), none, none, none]) rfl rfl rfl rfl rfl ?_
 refine jx_load c1 hm rfl rfl rfl rfl ?_
 refine jv_i c3 hm rfl pj_X2_forfeits rfl rfl ⟨_, _, _, rfl, sh_5⟩ rfl ((ct_X2_forfeits_5 X (by omega) M0 hH0 ).le (by decide)) (fun z4 _ ⟨rfl, lz4, uz4⟩ => ?_)
 refine jx_stor c1 hm (L' := [some (.inr (.inr (.inl 123))), some (.inr (.inr (.inl 5))), some (.inl a0), some (.inl a1), some (.inl z3), some (.inl z4), none, none]) rfl rfl rfl rfl rfl ?_
 refine jx_load c1 hm rfl rfl rfl rfl ?_
 refine jx_load c1 hm rfl rfl rfl rfl ?_
 refine jx_load c1 hm rfl rfl rfl rfl ?_
 refine jx_load c1 hm rfl rfl rfl rfl ?_
 refine jv_v c3 hm rfl pj_X5_fillPays rfl rfl ⟨_, _, _, rfl, sh_123⟩ rfl ((ct_X5_fillPays_123_5 X (by omega) M0 hH0 a0 ⟨by omega, by omega⟩ z4 ⟨by omega, by omega⟩).le (by decide)) (fun M5 ⟨hH5, hR5⟩ => ?_)
 have hF5 := hF0.tr hR5 (by decide +kernel)
 refine jy_ic c1 hm rfl (by decide) ?_
 refine jx_stor c1 hm (L' := [some (.inr (.inr (.inl 123))), some (.inr (.inr (.inl 5))), some (.inl a0), some (.inl a1), some (.inl z3), some (.inl z4), some (.inl 0), none]) rfl rfl rfl rfl rfl ?_
 have W8 : ∀ (n9 : Nat) (b6 : Int) (hb6 : 0 ≤ b6 ∧ b6 ≤ 100) (M7 : JM) (hH7 : HI (X) M7) (hF7 : Fr md_X5_find_123_5 M0 M7), (-b6 + 100) < (n9 : Int) → F 33 [some (.inr (.inr (.inl 123))), some (.inr (.inr (.inl 5))), some (.inl a0), some (.inl a1), some (.inl z3), some (.inl z4), some (.inl b6), none] [] M7 := by
  intro n9
  induction n9 with
  | zero => intros; omega
  | succ n9 ihW8 =>
   intro b6 hb6 M7 hH7 hF7 hrW8
   refine jx_load c1 hm rfl rfl rfl rfl ?_
   refine jx_load c1 hm rfl rfl rfl rfl ?_
   refine jc_gt c1 hm 71 rfl rfl (fun h10 => ?_) (fun h10 => ?_)
   ·
    refine jx_load c1 hm rfl rfl rfl rfl ?_
    refine jy_ic c1 hm rfl (by decide) ?_
    refine jy_sub c1 hm (z4 - 1) rfl (by omega) ?_
    refine jx_stor c1 hm (L' := [some (.inr (.inr (.inl 123))), some (.inr (.inr (.inl 5))), some (.inl a0), some (.inl a1), some (.inl z3), some (.inl z4), some (.inl (z4 - 1)), none]) rfl rfl rfl rfl rfl ?_
    have W18 : ∀ (n19 : Nat) (b15 : Int) (hb15 : (-1) ≤ b15 ∧ b15 ≤ 5) (o16 : Option JV) (ho16 : o16 = none ∨ (∃ z, o16 = some (.inl z)) ∨ ∃ r, o16 = some (.inr (.inr r))) (M17 : JM) (hH17 : HI (X) M17) (hF17 : Fr md_X5_find_123_5 M0 M17), (b15 + 1) < (n19 : Int) → F 77 [some (.inr (.inr (.inl 123))), some (.inr (.inr (.inl 5))), some (.inl a0), some (.inl a1), some (.inl z3), some (.inl z4), some (.inl b15), o16] [] M17 := by
     intro n19
     induction n19 with
     | zero => intros; omega
     | succ n19 ihW18 =>
      intro b15 hb15 o16 ho16 M17 hH17 hF17 hrW18
      refine jx_load c1 hm rfl rfl rfl rfl ?_
      refine jz_lt c1 hm 125 rfl rfl (fun h20 => ?_) (fun h20 => ?_)
      ·
       refine jx_load c1 hm rfl rfl rfl rfl ?_
       refine jx_stor c1 hm (L' := [some (.inr (.inr (.inl 123))), some (.inr (.inr (.inl 5))), some (.inl a0), some (.inl a1), some (.inl z3), some (.inl z4), some (.inl a1), o16]) rfl rfl rfl rfl rfl ?_
       have W29 : ∀ (n30 : Nat) (b28 : Int) (hb28 : 0 ≤ b28 ∧ b28 ≤ 200), (-b28 + 200) < (n30 : Int) → F 128 [some (.inr (.inr (.inl 123))), some (.inr (.inr (.inl 5))), some (.inl a0), some (.inl a1), some (.inl z3), some (.inl z4), some (.inl b28), o16] [] M17 := by
        intro n30
        induction n30 with
        | zero => intros; omega
        | succ n30 ihW29 =>
         intro b28 hb28 hrW29
         refine jx_load c1 hm rfl rfl rfl rfl ?_
         refine jx_load c1 hm rfl rfl rfl rfl ?_
         refine jc_gt c1 hm 165 rfl rfl (fun h31 => ?_) (fun h31 => ?_)
         ·
          refine jy_ic c1 hm rfl (by decide) ?_
          exact jx_reti c2 hm rfl rfl ⟨_, rfl, hH17, hF17, by omega, by omega⟩
         refine jx_load c1 hm rfl rfl rfl rfl ?_
         refine jx_getr c1 hm rfl sh_123 rfl ?_
         refine jx_load c1 hm rfl rfl rfl rfl ?_
         obtain ⟨z32, k33, lz32, uz32⟩ := hH17.ld (c := 124) (i := (b28).toNat) (A := (-2147483648)) (B := 2147483647) rfl
         refine jx_iald c1 hm rfl sh_124 ⟨by omega, by omega⟩ k33 ?_
         refine jy_sp c1 hm rfl (by decide) ?_
         refine jc_ge c1 hm 159 rfl rfl (fun h34 => ?_) (fun h34 => ?_)
         ·
          refine jx_iinc c1 hm (v := (b28 + 1)) (L' := [some (.inr (.inr (.inl 123))), some (.inr (.inr (.inl 5))), some (.inl a0), some (.inl a1), some (.inl z3), some (.inl z4), some (.inl (b28 + 1)), o16]) rfl rfl (by omega) (by omega) rfl ?_
          refine jx_goto c1 hm 128 rfl rfl ?_
          exact ihW29 (b28 + 1) (by omega) (by omega)
         refine jx_load c1 hm rfl rfl rfl rfl ?_
         refine jx_load c1 hm rfl rfl rfl rfl ?_
         refine jx_load c1 hm rfl rfl rfl rfl ?_
         refine jv_v c3 hm rfl pj_X5_choose rfl rfl ⟨_, _, _, rfl, sh_123⟩ rfl ((ct_X5_choose_123 X (by omega) M17 hH17 z4 ⟨by omega, by omega⟩ b28 ⟨by omega, by omega⟩).le (by decide)) (fun M35 ⟨hH35, hR35⟩ => ?_)
         have hF35 := hF17.tr hR35 (by decide +kernel)
         refine jx_load c1 hm rfl rfl rfl rfl ?_
         exact jx_reti c2 hm rfl rfl ⟨_, rfl, hH35, hF35, by omega, by omega⟩
       exact W29 ((-a1 + 200) + 1 : Int).toNat a1 (by omega) (by omega)
      refine jy_ic c1 hm rfl (by decide) ?_
      refine jx_stor c1 hm (L' := [some (.inr (.inr (.inl 123))), some (.inr (.inr (.inl 5))), some (.inl a0), some (.inl a1), some (.inl z3), some (.inl z4), some (.inl b15), some (.inl 0)]) rfl rfl rfl rfl rfl ?_
      have W23 : ∀ (n24 : Nat) (b21 : Int) (hb21 : 0 ≤ b21 ∧ b21 ≤ 100) (M22 : JM) (hH22 : HI (X) M22) (hF22 : Fr md_X5_find_123_5 M0 M22), (-b21 + 100) < (n24 : Int) → F 85 [some (.inr (.inr (.inl 123))), some (.inr (.inr (.inl 5))), some (.inl a0), some (.inl a1), some (.inl z3), some (.inl z4), some (.inl b15), some (.inl b21)] [] M22 := by
       intro n24
       induction n24 with
       | zero => intros; omega
       | succ n24 ihW23 =>
        intro b21 hb21 M22 hH22 hF22 hrW23
        refine jx_load c1 hm rfl rfl rfl rfl ?_
        refine jx_load c1 hm rfl rfl rfl rfl ?_
        refine jc_gt c1 hm 119 rfl rfl (fun h25 => ?_) (fun h25 => ?_)
        ·
         refine jx_iinc c1 hm (v := (b15 - 1)) (L' := [some (.inr (.inr (.inl 123))), some (.inr (.inr (.inl 5))), some (.inl a0), some (.inl a1), some (.inl z3), some (.inl z4), some (.inl (b15 - 1)), some (.inl b21)]) rfl rfl (by omega) (by omega) rfl ?_
         refine jx_goto c1 hm 77 rfl rfl ?_
         exact ihW18 (b15 - 1) (by omega) (some (.inl b21)) (Or.inr (Or.inl ⟨_, rfl⟩)) M22 hH22 hF22 (by omega)
        refine jx_load c1 hm rfl rfl rfl rfl ?_
        refine jx_getr c1 hm rfl sh_123 rfl ?_
        refine jx_load c1 hm rfl rfl rfl rfl ?_
        refine jy_bp c1 hm rfl (by decide) ?_
        refine jy_mul c1 hm (100 * b15) rfl (by omega) ?_
        refine jx_load c1 hm rfl rfl rfl rfl ?_
        refine jy_add c1 hm (100 * b15 + b21) rfl (by omega) ?_
        refine jx_load c1 hm rfl rfl rfl rfl ?_
        refine jx_load c1 hm rfl rfl rfl rfl ?_
        refine jx_load c1 hm rfl rfl rfl rfl ?_
        refine jv_i c3 hm rfl pj_X5_fewestFor rfl rfl ⟨_, _, _, rfl, sh_123⟩ rfl ((ct_X5_fewestFor_123 X (by omega) M22 hH22 b15 ⟨by omega, by omega⟩ b21 ⟨by omega, by omega⟩).le (by decide)) (fun z26 _ ⟨rfl, lz26, uz26⟩ => ?_)
        obtain ⟨M27, e27, hH27, hF27, k27, n27, _⟩ := mup hH22 hF22 (c := 124) (i := ((100 * b15 + b21)).toNat) (v := z26) (A := (-2147483648)) (B := 2147483647) rfl ⟨by omega, by omega⟩ (jin_of 1 rfl ⟨by omega, by omega⟩)
        refine jm_iast c1 hm rfl sh_124 ⟨by omega, by omega⟩ e27 ?_
        refine jx_iinc c1 hm (v := (b21 + 1)) (L' := [some (.inr (.inr (.inl 123))), some (.inr (.inr (.inl 5))), some (.inl a0), some (.inl a1), some (.inl z3), some (.inl z4), some (.inl b15), some (.inl (b21 + 1))]) rfl rfl (by omega) (by omega) rfl ?_
        refine jx_goto c1 hm 85 rfl rfl ?_
        exact ihW23 (b21 + 1) (by omega) M27 hH27 hF27 (by omega)
      exact W23 (100 + 1 : Int).toNat 0 (by omega) M17 hH17 hF17 (by omega)
    exact W18 (z4 + 1 : Int).toNat (z4 - 1) (by omega) none (Or.inl rfl) M7 hH7 hF7 (by omega)
   refine jx_load c1 hm rfl rfl rfl rfl ?_
   refine jx_getr c1 hm rfl sh_123 rfl ?_
   refine jx_load c1 hm rfl rfl rfl rfl ?_
   refine jy_bp c1 hm rfl (by decide) ?_
   refine jy_mul c1 hm (100 * z4) rfl (by omega) ?_
   refine jx_load c1 hm rfl rfl rfl rfl ?_
   refine jy_add c1 hm (b6 + 100 * z4) rfl (by omega) ?_
   refine jx_load c1 hm rfl rfl rfl rfl ?_
   have J13 : ∀ (b12 : Int) (hb12 : 0 ≤ b12 ∧ b12 ≤ 1000), F 64 [some (.inr (.inr (.inl 123))), some (.inr (.inr (.inl 5))), some (.inl a0), some (.inl a1), some (.inl z3), some (.inl z4), some (.inl b6), none] [.inl b12, .inl (b6 + 100 * z4), .inr (.inr (.inl 124))] M7 := by
    intro b12 hb12
    obtain ⟨M14, e14, hH14, hF14, k14, n14, _⟩ := mup hH7 hF7 (c := 124) (i := ((b6 + 100 * z4)).toNat) (v := b12) (A := (-2147483648)) (B := 2147483647) rfl ⟨by omega, by omega⟩ (jin_of 1 rfl ⟨by omega, by omega⟩)
    refine jm_iast c1 hm rfl sh_124 ⟨by omega, by omega⟩ e14 ?_
    refine jx_iinc c1 hm (v := (b6 + 1)) (L' := [some (.inr (.inr (.inl 123))), some (.inr (.inr (.inl 5))), some (.inl a0), some (.inl a1), some (.inl z3), some (.inl z4), some (.inl (b6 + 1)), none]) rfl rfl (by omega) (by omega) rfl ?_
    refine jx_goto c1 hm 33 rfl rfl ?_
    exact ihW8 (b6 + 1) (by omega) M14 hH14 hF14 (by omega)
   refine jz_ne c1 hm 61 rfl rfl (fun h11 => ?_) (fun h11 => ?_)
   ·
    refine jy_sp c1 hm rfl (by decide) ?_
    exact J13 1000 (by omega)
   refine jy_ic c1 hm rfl (by decide) ?_
   refine jx_goto c1 hm 64 rfl rfl ?_
   exact J13 0 (by omega)
 exact W8 (100 + 1 : Int).toNat 0 (by omega) M5 hH5 hF5 (by omega)
def md_X11_plan_0 : List (Nat × (Nat × Nat)) := [(123, (3, 3)), (124, (0, 699)), (125, (0, 125)), (126, (0, 5))]
theorem ct_X11_plan_0 (X : Int) (hX : 0 ≤ X ∧ X ≤ 100000000) (M0 : JM) (hH0 : HI X M0) (a0 : Int) (ha0 : (-2147483648) ≤ a0 ∧ a0 ≤ 2147483647) (a1 : Int) (ha1 : (-2147483648) ≤ a1 ∧ a1 ≤ 2147483647) : JOk shp PJ 4 55 [.inr (.inr (.inl 0)), .inl a0, .inl a1] M0 (jRi (fun v M' => HI X M' ∧ Fr md_X11_plan_0 M0 M' ∧ (-1) ≤ v ∧ v ≤ 99 )) := by
 refine ⟨jr_X11_plan, pj_X11_plan, fun F c1 c2 c3 => ?_⟩
 have hm := pj_X11_plan
 change F 0 [some (.inr (.inr (.inl 0))), some (.inl a0), some (.inl a1)] [] M0
 have hF0 : Fr md_X11_plan_0 M0 M0 := Fr.rf _ _
 refine jx_load c1 hm rfl rfl rfl rfl ?_
 refine jx_getr c1 hm rfl sh_0 rfl ?_
 refine jy_ic c1 hm rfl (by decide) ?_
 refine jx_load c1 hm rfl rfl rfl rfl ?_
 refine jv_i c3 hm rfl pj_X2_has rfl rfl ⟨_, _, _, rfl, sh_5⟩ rfl ((ct_X2_has_5 X (by omega) M0 hH0 0 ⟨by omega, by omega⟩ a0 ⟨by omega, by omega⟩).le (by decide)) (fun z1 _ ⟨rfl, lz1, uz1, p2⟩ => ?_)
 refine jz_eq c1 hm 23 rfl rfl (fun h3 => ?_) (fun h3 => ?_)
 ·
  refine jy_ic c1 hm rfl (by decide) ?_
  exact jx_reti c2 hm rfl rfl ⟨_, rfl, hH0, hF0, by omega, by omega⟩
 refine jx_load c1 hm rfl rfl rfl rfl ?_
 refine jz_lt c1 hm 23 rfl rfl (fun h4 => ?_) (fun h4 => ?_)
 ·
  refine jy_ic c1 hm rfl (by decide) ?_
  exact jx_reti c2 hm rfl rfl ⟨_, rfl, hH0, hF0, by omega, by omega⟩
 refine jx_load c1 hm rfl rfl rfl rfl ?_
 refine jy_sp c1 hm rfl (by decide) ?_
 refine jc_le c1 hm 25 rfl rfl (fun h5 => ?_) (fun h5 => ?_)
 ·
  refine jx_load c1 hm rfl rfl rfl rfl ?_
  refine jx_getr c1 hm rfl sh_0 rfl ?_
  refine jx_load c1 hm rfl rfl rfl rfl ?_
  refine jx_getr c1 hm rfl sh_0 rfl ?_
  refine jx_load c1 hm rfl rfl rfl rfl ?_
  refine jx_load c1 hm rfl rfl rfl rfl ?_
  refine jv_i c3 hm rfl pj_X5_find rfl rfl ⟨_, _, _, rfl, sh_123⟩ rfl ((ct_X5_find_123_5 X (by omega) M0 hH0 a0 ⟨by omega, by omega⟩ a1 ⟨by omega, by omega⟩).le (by decide)) (fun z6 M7 ⟨hH7, hR7, lz6, uz6⟩ => ?_)
  have hF7 := hF0.tr hR7 (by decide +kernel)
  exact jx_reti c2 hm rfl rfl ⟨_, rfl, hH7, hF7, by omega, by omega⟩
 refine jy_ic c1 hm rfl (by decide) ?_
 exact jx_reti c2 hm rfl rfl ⟨_, rfl, hH0, hF0, by omega, by omega⟩
theorem ct_X11_planned_0 (X : Int) (hX : 0 ≤ X ∧ X ≤ 100000000) (M0 : JM) (hH0 : HI X M0) (a0 : Int) (ha0 : (-2147483648) ≤ a0 ∧ a0 ≤ 2147483647) : JOk shp PJ 1 56 [.inr (.inr (.inl 0)), .inl a0] M0 (jRi (fun v M' => M0 = M' ∧ (-2147483648) ≤ v ∧ v ≤ 2147483647 )) := by
 refine ⟨jr_X11_planned, pj_X11_planned, fun F c1 c2 c3 => ?_⟩
 have hm := pj_X11_planned
 change F 0 [some (.inr (.inr (.inl 0))), some (.inl a0)] [] M0
 refine jx_load c1 hm rfl rfl rfl rfl ?_
 refine jz_lt c1 hm 27 rfl rfl (fun h1 => ?_) (fun h1 => ?_)
 ·
  refine jy_ic c1 hm rfl (by decide) ?_
  exact jx_reti c2 hm rfl rfl ⟨_, rfl, rfl, by omega, by omega⟩
 refine jx_load c1 hm rfl rfl rfl rfl ?_
 refine jx_load c1 hm rfl rfl rfl rfl ?_
 refine jx_getr c1 hm rfl sh_0 rfl ?_
 obtain ⟨z2, k3, lz2, uz2⟩ := hH0.ld (c := 123) (i := 3) (A := 0) (B := 6) (bs_25_1 _ _ (by omega) (by omega))
 refine jx_geti c1 hm rfl sh_123 rfl k3 ?_
 refine jc_ge c1 hm 27 rfl rfl (fun h4 => ?_) (fun h4 => ?_)
 ·
  refine jy_ic c1 hm rfl (by decide) ?_
  exact jx_reti c2 hm rfl rfl ⟨_, rfl, rfl, by omega, by omega⟩
 refine jx_load c1 hm rfl rfl rfl rfl ?_
 refine jx_getr c1 hm rfl sh_0 rfl ?_
 refine jx_getr c1 hm rfl sh_123 rfl ?_
 refine jx_load c1 hm rfl rfl rfl rfl ?_
 obtain ⟨z5, k6, lz5, uz5⟩ := hH0.ld (c := 126) (i := (a0).toNat) (A := (-2147483648)) (B := 2147483647) rfl
 refine jx_iald c1 hm rfl sh_126 ⟨by omega, by omega⟩ k6 ?_
 refine jx_goto c1 hm 28 rfl rfl ?_
 exact jx_reti c2 hm rfl rfl ⟨_, rfl, rfl, by omega, by omega⟩
theorem ct_X0_timesLeft_4 (X : Int) (hX : 0 ≤ X ∧ X ≤ 100000000) (M0 : JM) (hH0 : HI X M0) (a0 : Int) (ha0 : 0 ≤ a0 ∧ a0 ≤ 5) (a1 : Int) (ha1 : 0 ≤ a1 ∧ a1 ≤ 5) : JOk shp PJ 2 12 [.inr (.inr (.inl 4)), .inl a0, .inl a1] M0 (jRi (fun v M' => M0 = M' ∧ 0 ≤ v ∧ v ≤ 100 )) := by
 refine ⟨jr_X0_timesLeft, pj_X0_timesLeft, fun F c1 c2 c3 => ?_⟩
 have hm := pj_X0_timesLeft
 change F 0 [some (.inr (.inr (.inl 4))), some (.inl a0), some (.inl a1), none, none, none, none, none] [] M0
 refine jx_load c1 hm rfl rfl rfl rfl ?_
 refine jx_getr c1 hm rfl sh_4 rfl ?_
 refine jx_getr c1 hm rfl sh_5 rfl ?_
 refine jx_getr c1 hm rfl sh_12 rfl ?_
 refine jx_load c1 hm rfl rfl rfl rfl ?_
 obtain ⟨z1, k2, lz1, uz1⟩ := hH0.ld (c := 13) (i := (a0).toNat) (A := (-2147483648)) (B := 2147483647) rfl
 refine jx_iald c1 hm rfl sh_13 ⟨by omega, by omega⟩ k2 ?_
 refine jx_stor c1 hm (L' := [some (.inr (.inr (.inl 4))), some (.inl a0), some (.inl a1), some (.inl z1), none, none, none, none]) rfl rfl rfl rfl rfl ?_
 refine jx_load c1 hm rfl rfl rfl rfl ?_
 refine jx_getr c1 hm rfl sh_4 rfl ?_
 refine jx_getr c1 hm rfl sh_5 rfl ?_
 refine jx_getr c1 hm rfl sh_12 rfl ?_
 refine jx_load c1 hm rfl rfl rfl rfl ?_
 refine jy_bp c1 hm rfl (by decide) ?_
 refine jy_mul c1 hm (6 * a0) rfl (by omega) ?_
 refine jx_load c1 hm rfl rfl rfl rfl ?_
 refine jy_add c1 hm (6 * a0 + a1) rfl (by omega) ?_
 obtain ⟨z3, k4, lz3, uz3⟩ := hH0.ld (c := 18) (i := ((6 * a0 + a1)).toNat) (A := 0) (B := 1 * X) rfl
 refine jx_iald c1 hm rfl sh_18 ⟨by omega, by omega⟩ k4 ?_
 refine jx_stor c1 hm (L' := [some (.inr (.inr (.inl 4))), some (.inl a0), some (.inl a1), some (.inl z1), some (.inl z3), none, none, none]) rfl rfl rfl rfl rfl ?_
 refine jy_ic c1 hm rfl (by decide) ?_
 refine jx_stor c1 hm (L' := [some (.inr (.inr (.inl 4))), some (.inl a0), some (.inl a1), some (.inl z1), some (.inl z3), some (.inl 0), none, none]) rfl rfl rfl rfl rfl ?_
 refine jy_ic c1 hm rfl (by decide) ?_
 refine jx_stor c1 hm (L' := [some (.inr (.inr (.inl 4))), some (.inl a0), some (.inl a1), some (.inl z1), some (.inl z3), some (.inl 0), some (.inl 0), none]) rfl rfl rfl rfl rfl ?_
 have W10 : ∀ (n11 : Nat) (b5 : Int) (hb5 : (-2147483648) ≤ b5 ∧ b5 ≤ 2147483647) (b6 : Int) (hb6 : 0 ≤ b6 ∧ b6 ≤ 2147483647) (b7 : Int) (hb7 : 0 ≤ b7 ∧ b7 ≤ 100) (o8 : Option JV) (ho8 : o8 = none ∨ (∃ z, o8 = some (.inl z)) ∨ ∃ r, o8 = some (.inr (.inr r))) (h9 : b6 ≤ b7), (b5 + 2147483648) < (n11 : Int) → F 38 [some (.inr (.inr (.inl 4))), some (.inl a0), some (.inl a1), some (.inl b5), some (.inl z3), some (.inl b6), some (.inl b7), o8] [] M0 := by
  intro n11
  induction n11 with
  | zero => intros; omega
  | succ n11 ihW10 =>
   intro b5 hb5 b6 hb6 b7 hb7 o8 ho8 h9 hrW10
   refine jx_load c1 hm rfl rfl rfl rfl ?_
   refine jy_bp c1 hm rfl (by decide) ?_
   refine jc_gt c1 hm 89 rfl rfl (fun h12 => ?_) (fun h12 => ?_)
   ·
    refine jx_load c1 hm rfl rfl rfl rfl ?_
    exact jx_reti c2 hm rfl rfl ⟨_, rfl, rfl, by omega, by omega⟩
   refine jx_load c1 hm rfl rfl rfl rfl ?_
   refine jx_getr c1 hm rfl sh_4 rfl ?_
   refine jx_load c1 hm rfl rfl rfl rfl ?_
   refine jx_load c1 hm rfl rfl rfl rfl ?_
   refine jx_load c1 hm rfl rfl rfl rfl ?_
   refine jx_load c1 hm rfl rfl rfl rfl ?_
   refine jy_add c1 hm (b7 + z3) rfl (by omega) ?_
   refine jv_i c3 hm rfl pj_X2_costAfter rfl rfl ⟨_, _, _, rfl, sh_5⟩ rfl ((ct_X2_costAfter_5 X (by omega) M0 hH0 a0 ⟨by omega, by omega⟩ a1 ⟨by omega, by omega⟩ (b7 + z3) ⟨by omega, by omega⟩).le (by decide)) (fun z13 _ ⟨rfl, lz13, uz13, p14⟩ => ?_)
   refine jx_stor c1 hm (L' := [some (.inr (.inr (.inl 4))), some (.inl a0), some (.inl a1), some (.inl b5), some (.inl z3), some (.inl b6), some (.inl b7), some (.inl z13)]) rfl rfl rfl rfl rfl ?_
   refine jx_load c1 hm rfl rfl rfl rfl ?_
   refine jz_eq c1 hm 89 rfl rfl (fun h15 => ?_) (fun h15 => ?_)
   ·
    refine jx_load c1 hm rfl rfl rfl rfl ?_
    exact jx_reti c2 hm rfl rfl ⟨_, rfl, rfl, by omega, by omega⟩
   refine jx_load c1 hm rfl rfl rfl rfl ?_
   refine jx_load c1 hm rfl rfl rfl rfl ?_
   refine jc_le c1 hm 75 rfl rfl (fun h16 => ?_) (fun h16 => ?_)
   ·
    refine jx_load c1 hm rfl rfl rfl rfl ?_
    refine jx_load c1 hm rfl rfl rfl rfl ?_
    refine jy_sub c1 hm (b5 - z13) rfl (by omega) ?_
    refine jx_stor c1 hm (L' := [some (.inr (.inr (.inl 4))), some (.inl a0), some (.inl a1), some (.inl (b5 - z13)), some (.inl z3), some (.inl b6), some (.inl b7), some (.inl z13)]) rfl rfl rfl rfl rfl ?_
    refine jx_iinc c1 hm (v := (b6 + 1)) (L' := [some (.inr (.inr (.inl 4))), some (.inl a0), some (.inl a1), some (.inl (b5 - z13)), some (.inl z3), some (.inl (b6 + 1)), some (.inl b7), some (.inl z13)]) rfl rfl (by omega) (by omega) rfl ?_
    refine jx_iinc c1 hm (v := (b7 + 1)) (L' := [some (.inr (.inr (.inl 4))), some (.inl a0), some (.inl a1), some (.inl (b5 - z13)), some (.inl z3), some (.inl (b6 + 1)), some (.inl (b7 + 1)), some (.inl z13)]) rfl rfl (by omega) (by omega) rfl ?_
    refine jx_goto c1 hm 38 rfl rfl ?_
    exact ihW10 (b5 - z13) (by omega) (b6 + 1) (by omega) (b7 + 1) (by omega) (some (.inl z13)) (Or.inr (Or.inl ⟨_, rfl⟩)) (by omega) (by omega)
   refine jx_goto c1 hm 89 rfl rfl ?_
   refine jx_load c1 hm rfl rfl rfl rfl ?_
   exact jx_reti c2 hm rfl rfl ⟨_, rfl, rfl, by omega, by omega⟩
 exact W10 ((z1 + 2147483648) + 1 : Int).toNat z1 (by omega) 0 (by omega) 0 (by omega) none (Or.inl rfl) (by omega) (by omega)
theorem ct_X11_lasts_0 (X : Int) (hX : 0 ≤ X ∧ X ≤ 100000000) (M0 : JM) (hH0 : HI X M0) (a0 : Int) (ha0 : (-2147483648) ≤ a0 ∧ a0 ≤ 2147483647) (a1 : Int) (ha1 : (-2147483648) ≤ a1 ∧ a1 ≤ 2147483647) : JOk shp PJ 3 45 [.inr (.inr (.inl 0)), .inl a0, .inl a1] M0 (jRi (fun v M' => M0 = M' ∧ (-1) ≤ v ∧ v ≤ 100 )) := by
 refine ⟨jr_X11_lasts, pj_X11_lasts, fun F c1 c2 c3 => ?_⟩
 have hm := pj_X11_lasts
 change F 0 [some (.inr (.inr (.inl 0))), some (.inl a0), some (.inl a1)] [] M0
 refine jx_load c1 hm rfl rfl rfl rfl ?_
 refine jx_getr c1 hm rfl sh_0 rfl ?_
 refine jy_ic c1 hm rfl (by decide) ?_
 refine jx_load c1 hm rfl rfl rfl rfl ?_
 refine jv_i c3 hm rfl pj_X2_has rfl rfl ⟨_, _, _, rfl, sh_5⟩ rfl ((ct_X2_has_5 X (by omega) M0 hH0 0 ⟨by omega, by omega⟩ a0 ⟨by omega, by omega⟩).le (by decide)) (fun z1 _ ⟨rfl, lz1, uz1, p2⟩ => ?_)
 refine jz_eq c1 hm 36 rfl rfl (fun h3 => ?_) (fun h3 => ?_)
 ·
  refine jy_ic c1 hm rfl (by decide) ?_
  exact jx_reti c2 hm rfl rfl ⟨_, rfl, rfl, by omega, by omega⟩
 refine jx_load c1 hm rfl rfl rfl rfl ?_
 refine jx_getr c1 hm rfl sh_0 rfl ?_
 refine jy_ic c1 hm rfl (by decide) ?_
 refine jx_load c1 hm rfl rfl rfl rfl ?_
 refine jv_i c3 hm rfl pj_X2_has rfl rfl ⟨_, _, _, rfl, sh_5⟩ rfl ((ct_X2_has_5 X (by omega) M0 hH0 1 ⟨by omega, by omega⟩ a1 ⟨by omega, by omega⟩).le (by decide)) (fun z4 _ ⟨rfl, lz4, uz4, p5⟩ => ?_)
 refine jz_eq c1 hm 36 rfl rfl (fun h6 => ?_) (fun h6 => ?_)
 ·
  refine jy_ic c1 hm rfl (by decide) ?_
  exact jx_reti c2 hm rfl rfl ⟨_, rfl, rfl, by omega, by omega⟩
 refine jx_load c1 hm rfl rfl rfl rfl ?_
 refine jx_getr c1 hm rfl sh_0 rfl ?_
 refine jx_load c1 hm rfl rfl rfl rfl ?_
 refine jx_load c1 hm rfl rfl rfl rfl ?_
 refine jv_i c3 hm rfl pj_X0_timesLeft rfl rfl ⟨_, _, _, rfl, sh_4⟩ rfl ((ct_X0_timesLeft_4 X (by omega) M0 hH0 a0 ⟨by omega, by omega⟩ a1 ⟨by omega, by omega⟩).le (by decide)) (fun z7 _ ⟨rfl, lz7, uz7⟩ => ?_)
 refine jx_goto c1 hm 37 rfl rfl ?_
 exact jx_reti c2 hm rfl rfl ⟨_, rfl, rfl, by omega, by omega⟩
theorem ct_X11_worth_0 (X : Int) (hX : 0 ≤ X ∧ X ≤ 100000000) (M0 : JM) (hH0 : HI X M0) (a0 : Int) (ha0 : (-2147483648) ≤ a0 ∧ a0 ≤ 2147483647) (a1 : Int) (ha1 : (-2147483648) ≤ a1 ∧ a1 ≤ 2147483647) : JOk shp PJ 3 79 [.inr (.inr (.inl 0)), .inl a0, .inl a1] M0 (jRi (fun v M' => M0 = M' ∧ (-2147483648) ≤ v ∧ v ≤ 2147483647 )) := by
 refine ⟨jr_X11_worth, pj_X11_worth, fun F c1 c2 c3 => ?_⟩
 have hm := pj_X11_worth
 change F 0 [some (.inr (.inr (.inl 0))), some (.inl a0), some (.inl a1), none, none, none, none] [] M0
 refine jx_load c1 hm rfl rfl rfl rfl ?_
 refine jx_getr c1 hm rfl sh_0 rfl ?_
 refine jy_ic c1 hm rfl (by decide) ?_
 refine jx_load c1 hm rfl rfl rfl rfl ?_
 refine jv_i c3 hm rfl pj_X2_has rfl rfl ⟨_, _, _, rfl, sh_5⟩ rfl ((ct_X2_has_5 X (by omega) M0 hH0 0 ⟨by omega, by omega⟩ a0 ⟨by omega, by omega⟩).le (by decide)) (fun z1 _ ⟨rfl, lz1, uz1, p2⟩ => ?_)
 refine jz_eq c1 hm 24 rfl rfl (fun h3 => ?_) (fun h3 => ?_)
 ·
  refine jy_ic c1 hm rfl (by decide) ?_
  exact jx_reti c2 hm rfl rfl ⟨_, rfl, rfl, by omega, by omega⟩
 refine jx_load c1 hm rfl rfl rfl rfl ?_
 refine jx_getr c1 hm rfl sh_0 rfl ?_
 refine jy_ic c1 hm rfl (by decide) ?_
 refine jx_load c1 hm rfl rfl rfl rfl ?_
 refine jv_i c3 hm rfl pj_X2_has rfl rfl ⟨_, _, _, rfl, sh_5⟩ rfl ((ct_X2_has_5 X (by omega) M0 hH0 1 ⟨by omega, by omega⟩ a1 ⟨by omega, by omega⟩).le (by decide)) (fun z4 _ ⟨rfl, lz4, uz4, p5⟩ => ?_)
 refine jz_ne c1 hm 26 rfl rfl (fun h6 => ?_) (fun h6 => ?_)
 ·
  refine jy_ic c1 hm rfl (by decide) ?_
  refine jx_stor c1 hm (L' := [some (.inr (.inr (.inl 0))), some (.inl a0), some (.inl a1), some (.inl 0), none, none, none]) rfl rfl rfl rfl rfl ?_
  refine jx_load c1 hm rfl rfl rfl rfl ?_
  refine jx_getr c1 hm rfl sh_0 rfl ?_
  refine jx_getr c1 hm rfl sh_5 rfl ?_
  refine jx_getr c1 hm rfl sh_12 rfl ?_
  refine jx_load c1 hm rfl rfl rfl rfl ?_
  refine jy_bp c1 hm rfl (by decide) ?_
  refine jy_mul c1 hm (6 * a0) rfl (by omega) ?_
  refine jx_load c1 hm rfl rfl rfl rfl ?_
  refine jy_add c1 hm (6 * a0 + a1) rfl (by omega) ?_
  obtain ⟨z7, k8, lz7, uz7⟩ := hH0.ld (c := 18) (i := ((6 * a0 + a1)).toNat) (A := 0) (B := 1 * X) rfl
  refine jx_iald c1 hm rfl sh_18 ⟨by omega, by omega⟩ k8 ?_
  refine jx_stor c1 hm (L' := [some (.inr (.inr (.inl 0))), some (.inl a0), some (.inl a1), some (.inl 0), some (.inl z7), none, none]) rfl rfl rfl rfl rfl ?_
  refine jy_ic c1 hm rfl (by decide) ?_
  refine jx_stor c1 hm (L' := [some (.inr (.inr (.inl 0))), some (.inl a0), some (.inl a1), some (.inl 0), some (.inl z7), some (.inl 0), none]) rfl rfl rfl rfl rfl ?_
  refine jx_load c1 hm rfl rfl rfl rfl ?_
  refine jx_getr c1 hm rfl sh_0 rfl ?_
  refine jx_load c1 hm rfl rfl rfl rfl ?_
  refine jx_load c1 hm rfl rfl rfl rfl ?_
  refine jv_i c3 hm rfl pj_X0_timesLeft rfl rfl ⟨_, _, _, rfl, sh_4⟩ rfl ((ct_X0_timesLeft_4 X (by omega) M0 hH0 a0 ⟨by omega, by omega⟩ a1 ⟨by omega, by omega⟩).le (by decide)) (fun z9 _ ⟨rfl, lz9, uz9⟩ => ?_)
  refine jx_stor c1 hm (L' := [some (.inr (.inr (.inl 0))), some (.inl a0), some (.inl a1), some (.inl 0), some (.inl z7), some (.inl 0), some (.inl z9)]) rfl rfl rfl rfl rfl ?_
  have W12 : ∀ (n13 : Nat) (b10 : Int) (hb10 : (-2147483648) ≤ b10 ∧ b10 ≤ 2147483647) (b11 : Int) (hb11 : 0 ≤ b11 ∧ b11 ≤ 100), (-b11 + 100) < (n13 : Int) → F 61 [some (.inr (.inr (.inl 0))), some (.inl a0), some (.inl a1), some (.inl b10), some (.inl z7), some (.inl b11), some (.inl z9)] [] M0 := by
   intro n13
   induction n13 with
   | zero => intros; omega
   | succ n13 ihW12 =>
    intro b10 hb10 b11 hb11 hrW12
    refine jx_load c1 hm rfl rfl rfl rfl ?_
    refine jx_load c1 hm rfl rfl rfl rfl ?_
    refine jc_ge c1 hm 91 rfl rfl (fun h14 => ?_) (fun h14 => ?_)
    ·
     refine jx_load c1 hm rfl rfl rfl rfl ?_
     exact jx_reti c2 hm rfl rfl ⟨_, rfl, rfl, by omega, by omega⟩
    refine jx_load c1 hm rfl rfl rfl rfl ?_
    refine jx_load c1 hm rfl rfl rfl rfl ?_
    refine jx_getr c1 hm rfl sh_0 rfl ?_
    refine jx_load c1 hm rfl rfl rfl rfl ?_
    refine jx_load c1 hm rfl rfl rfl rfl ?_
    refine jx_load c1 hm rfl rfl rfl rfl ?_
    refine jx_load c1 hm rfl rfl rfl rfl ?_
    refine jy_add c1 hm (b11 + z7) rfl (by omega) ?_
    refine jv_i c3 hm rfl pj_X2_costAfter rfl rfl ⟨_, _, _, rfl, sh_5⟩ rfl ((ct_X2_costAfter_5 X (by omega) M0 hH0 a0 ⟨by omega, by omega⟩ a1 ⟨by omega, by omega⟩ (b11 + z7) ⟨by omega, by omega⟩).le (by decide)) (fun z15 _ ⟨rfl, lz15, uz15, p16⟩ => ?_)
    refine jx_iopw c1 hm rfl rfl (fun z17 lz17 uz17 => ?_)
    refine jx_stor c1 hm (L' := [some (.inr (.inr (.inl 0))), some (.inl a0), some (.inl a1), some (.inl z17), some (.inl z7), some (.inl b11), some (.inl z9)]) rfl rfl rfl rfl rfl ?_
    refine jx_iinc c1 hm (v := (b11 + 1)) (L' := [some (.inr (.inr (.inl 0))), some (.inl a0), some (.inl a1), some (.inl z17), some (.inl z7), some (.inl (b11 + 1)), some (.inl z9)]) rfl rfl (by omega) (by omega) rfl ?_
    refine jx_goto c1 hm 61 rfl rfl ?_
    exact ihW12 z17 (by omega) (b11 + 1) (by omega) (by omega)
  exact W12 (100 + 1 : Int).toNat 0 (by omega) 0 (by omega) (by omega)
 refine jy_ic c1 hm rfl (by decide) ?_
 exact jx_reti c2 hm rfl rfl ⟨_, rfl, rfl, by omega, by omega⟩
theorem ct_X8_allOwedBy_12 (X : Int) (hX : 0 ≤ X ∧ X ≤ 100000000) (M0 : JM) (hH0 : HI X M0) (a0 : Int) (ha0 : 0 ≤ a0 ∧ a0 ≤ 5) : JOk shp PJ 2 262 [.inr (.inr (.inl 12)), .inl a0] M0 (jRi (fun v M' => M0 = M' ∧ (-2147483648) ≤ v ∧ v ≤ 2147483647 )) := by
 refine ⟨jr_X8_allOwedBy, pj_X8_allOwedBy, fun F c1 c2 c3 => ?_⟩
 have hm := pj_X8_allOwedBy
 change F 0 [some (.inr (.inr (.inl 12))), some (.inl a0)] [] M0
 refine jx_load c1 hm rfl rfl rfl rfl ?_
 refine jx_getr c1 hm rfl sh_12 rfl ?_
 refine jx_load c1 hm rfl rfl rfl rfl ?_
 refine jy_bp c1 hm rfl (by decide) ?_
 refine jy_mul c1 hm (6 * a0) rfl (by omega) ?_
 refine jy_ic c1 hm rfl (by decide) ?_
 refine jy_bp c1 hm rfl (by decide) ?_
 refine jt_i c3 hm rfl rfl pj_X11_sum rfl rfl rfl ((ct_X11_sum_17 X (by omega) M0 hH0 (6 * a0) ⟨by omega, by omega⟩ 1 ⟨by omega, by omega⟩ 6 ⟨by omega, by omega⟩).le (by decide)) (fun z1 _ ⟨rfl, lz1, uz1⟩ => ?_)
 exact jx_reti c2 hm rfl rfl ⟨_, rfl, rfl, by omega, by omega⟩
theorem ct_X0_balanceOf_4 (X : Int) (hX : 0 ≤ X ∧ X ≤ 100000000) (M0 : JM) (hH0 : HI X M0) (a0 : Int) (ha0 : 0 ≤ a0 ∧ a0 ≤ 5) : JOk shp PJ 3 2 [.inr (.inr (.inl 4)), .inl a0] M0 (jRi (fun v M' => M0 = M' ∧ (-2147483648) ≤ v ∧ v ≤ 2147483647 )) := by
 refine ⟨jr_X0_balanceOf, pj_X0_balanceOf, fun F c1 c2 c3 => ?_⟩
 have hm := pj_X0_balanceOf
 change F 0 [some (.inr (.inr (.inl 4))), some (.inl a0)] [] M0
 refine jx_load c1 hm rfl rfl rfl rfl ?_
 refine jx_getr c1 hm rfl sh_4 rfl ?_
 refine jx_getr c1 hm rfl sh_5 rfl ?_
 refine jx_getr c1 hm rfl sh_12 rfl ?_
 refine jx_load c1 hm rfl rfl rfl rfl ?_
 refine jy_bp c1 hm rfl (by decide) ?_
 refine jy_bp c1 hm rfl (by decide) ?_
 refine jt_i c3 hm rfl rfl pj_X11_sum rfl rfl rfl ((ct_X11_sum_17 X (by omega) M0 hH0 a0 ⟨by omega, by omega⟩ 6 ⟨by omega, by omega⟩ 6 ⟨by omega, by omega⟩).le (by decide)) (fun z1 _ ⟨rfl, lz1, uz1⟩ => ?_)
 refine jx_load c1 hm rfl rfl rfl rfl ?_
 refine jx_getr c1 hm rfl sh_4 rfl ?_
 refine jx_getr c1 hm rfl sh_5 rfl ?_
 refine jx_load c1 hm rfl rfl rfl rfl ?_
 refine jv_i c3 hm rfl pj_X8_allOwedBy rfl rfl ⟨_, _, _, rfl, sh_12⟩ rfl ((ct_X8_allOwedBy_12 X (by omega) M0 hH0 a0 ⟨by omega, by omega⟩).le (by decide)) (fun z2 _ ⟨rfl, lz2, uz2⟩ => ?_)
 refine jx_iopw c1 hm rfl rfl (fun z3 lz3 uz3 => ?_)
 exact jx_reti c2 hm rfl rfl ⟨_, rfl, rfl, by omega, by omega⟩
def md_X0_fewestPayments_4 : List (Nat × (Nat × Nat)) := [(25, (0, 63)), (26, (0, 63))]
theorem ct_X0_fewestPayments_4 (X : Int) (hX : 0 ≤ X ∧ X ≤ 100000000) (M0 : JM) (hH0 : HI X M0)  : JOk shp PJ 4 8 [.inr (.inr (.inl 4))] M0 (jRi (fun v M' => HI X M' ∧ Fr md_X0_fewestPayments_4 M0 M' ∧ (-2147483648) ≤ v ∧ v ≤ 2147483647 )) := by
 refine ⟨jr_X0_fewestPayments, pj_X0_fewestPayments, fun F c1 c2 c3 => ?_⟩
 have hm := pj_X0_fewestPayments
 change F 0 [some (.inr (.inr (.inl 4))), none, none, none, none, none, none] [] M0
 have hF0 : Fr md_X0_fewestPayments_4 M0 M0 := Fr.rf _ _
 refine jx_load c1 hm rfl rfl rfl rfl ?_
 refine jx_getr c1 hm rfl sh_4 rfl ?_
 refine jv_i c3 hm rfl pj_X2_men rfl rfl ⟨_, _, _, rfl, sh_5⟩ rfl ((ct_X2_men_5 X (by omega) M0 hH0 ).le (by decide)) (fun z1 _ ⟨rfl, lz1, uz1⟩ => ?_)
 refine jx_stor c1 hm (L' := [some (.inr (.inr (.inl 4))), some (.inl z1), none, none, none, none, none]) rfl rfl rfl rfl rfl ?_
 refine jy_ic c1 hm rfl (by decide) ?_
 refine jx_load c1 hm rfl rfl rfl rfl ?_
 refine jy_sh1 c1 hm rfl ⟨by omega, by omega⟩ (fun z2 lz2 uz2 => ?_)
 refine jx_stor c1 hm (L' := [some (.inr (.inr (.inl 4))), some (.inl z1), some (.inl z2), none, none, none, none]) rfl rfl rfl rfl rfl ?_
 refine jx_load c1 hm rfl rfl rfl rfl ?_
 refine jx_getr c1 hm rfl sh_4 rfl ?_
 refine jy_ic c1 hm rfl (by decide) ?_
 refine jy_ic c1 hm rfl (by decide) ?_
 obtain ⟨M3, e3, hH3, hF3, k3, n3, _⟩ := mup hH0 hF0 (c := 25) (i := 0) (v := 0) (A := (-2147483648)) (B := 2147483647) rfl ⟨by omega, by omega⟩ (jin_of 0 rfl ⟨by omega, by omega⟩)
 refine jm_iast c1 hm rfl sh_25 ⟨by omega, by omega⟩ e3 ?_
 refine jx_load c1 hm rfl rfl rfl rfl ?_
 refine jx_getr c1 hm rfl sh_4 rfl ?_
 refine jy_ic c1 hm rfl (by decide) ?_
 refine jy_ic c1 hm rfl (by decide) ?_
 obtain ⟨M4, e4, hH4, hF4, k4, n4, _⟩ := mup hH3 hF3 (c := 26) (i := 0) (v := 0) (A := (-2147483648)) (B := 2147483647) rfl ⟨by omega, by omega⟩ (jin_of 1 rfl ⟨by omega, by omega⟩)
 refine jm_iast c1 hm rfl sh_26 ⟨by omega, by omega⟩ e4 ?_
 refine jy_ic c1 hm rfl (by decide) ?_
 refine jx_stor c1 hm (L' := [some (.inr (.inr (.inl 4))), some (.inl z1), some (.inl z2), some (.inl 1), none, none, none]) rfl rfl rfl rfl rfl ?_
 have W10 : ∀ (n11 : Nat) (b5 : Int) (hb5 : 1 ≤ b5 ∧ b5 ≤ 64) (o6 : Option JV) (ho6 : o6 = none ∨ (∃ z, o6 = some (.inl z)) ∨ ∃ r, o6 = some (.inr (.inr r))) (o7 : Option JV) (ho7 : o7 = none ∨ (∃ z, o7 = some (.inl z)) ∨ ∃ r, o7 = some (.inr (.inr r))) (o8 : Option JV) (ho8 : o8 = none ∨ (∃ z, o8 = some (.inl z)) ∨ ∃ r, o8 = some (.inr (.inr r))) (M9 : JM) (hH9 : HI (X) M9) (hF9 : Fr md_X0_fewestPayments_4 M0 M9), (-b5 + 64) < (n11 : Int) → F 28 [some (.inr (.inr (.inl 4))), some (.inl z1), some (.inl z2), some (.inl b5), o6, o7, o8] [] M9 := by
  intro n11
  induction n11 with
  | zero => intros; omega
  | succ n11 ihW10 =>
   intro b5 hb5 o6 ho6 o7 ho7 o8 ho8 M9 hH9 hF9 hrW10
   refine jx_load c1 hm rfl rfl rfl rfl ?_
   refine jx_load c1 hm rfl rfl rfl rfl ?_
   refine jc_ge c1 hm 141 rfl rfl (fun h12 => ?_) (fun h12 => ?_)
   ·
    refine jx_load c1 hm rfl rfl rfl rfl ?_
    refine jx_load c1 hm rfl rfl rfl rfl ?_
    refine jx_getr c1 hm rfl sh_4 rfl ?_
    refine jx_load c1 hm rfl rfl rfl rfl ?_
    refine jy_ic c1 hm rfl (by decide) ?_
    refine jy_sub c1 hm (z2 - 1) rfl (by omega) ?_
    obtain ⟨z46, k47, lz46, uz46⟩ := hH9.ld (c := 25) (i := ((z2 - 1)).toNat) (A := (-2147483648)) (B := 2147483647) rfl
    refine jx_iald c1 hm rfl sh_25 ⟨by omega, by omega⟩ k47 ?_
    refine jx_iopw c1 hm rfl rfl (fun z48 lz48 uz48 => ?_)
    exact jx_reti c2 hm rfl rfl ⟨_, rfl, hH9, hF9, by omega, by omega⟩
   refine jx_load c1 hm rfl rfl rfl rfl ?_
   refine jy_bp c1 hm rfl (by decide) ?_
   refine jc_ge c1 hm 141 rfl rfl (fun h13 => ?_) (fun h13 => ?_)
   ·
    exfalso; omega
   refine jy_ic c1 hm rfl (by decide) ?_
   refine jx_stor c1 hm (L' := [some (.inr (.inr (.inl 4))), some (.inl z1), some (.inl z2), some (.inl b5), some (.inl 0), o7, o8]) rfl rfl rfl rfl rfl ?_
   refine jy_ic c1 hm rfl (by decide) ?_
   refine jx_stor c1 hm (L' := [some (.inr (.inr (.inl 4))), some (.inl z1), some (.inl z2), some (.inl b5), some (.inl 0), some (.inl 0), o8]) rfl rfl rfl rfl rfl ?_
   have W18 : ∀ (n19 : Nat) (b14 : Int) (hb14 : 0 ≤ b14 ∧ b14 ≤ 2147483647) (b15 : Int) (hb15 : 0 ≤ b15 ∧ b15 ≤ 6) (o16 : Option JV) (ho16 : o16 = none ∨ (∃ z, o16 = some (.inl z)) ∨ ∃ r, o16 = some (.inr (.inr r))) (M17 : JM) (hH17 : HI (X) M17) (hF17 : Fr md_X0_fewestPayments_4 M0 M17), (-b15 + 6) < (n19 : Int) → F 45 [some (.inr (.inr (.inl 4))), some (.inl z1), some (.inl z2), some (.inl b5), some (.inl b14), some (.inl b15), o16] [] M17 := by
    intro n19
    induction n19 with
    | zero => intros; omega
    | succ n19 ihW18 =>
     intro b14 hb14 b15 hb15 o16 ho16 M17 hH17 hF17 hrW18
     refine jx_load c1 hm rfl rfl rfl rfl ?_
     refine jx_load c1 hm rfl rfl rfl rfl ?_
     refine jc_ge c1 hm 111 rfl rfl (fun h20 => ?_) (fun h20 => ?_)
     ·
      refine jx_load c1 hm rfl rfl rfl rfl ?_
      refine jx_getr c1 hm rfl sh_4 rfl ?_
      refine jx_load c1 hm rfl rfl rfl rfl ?_
      refine jx_load c1 hm rfl rfl rfl rfl ?_
      refine jx_getr c1 hm rfl sh_4 rfl ?_
      refine jx_load c1 hm rfl rfl rfl rfl ?_
      obtain ⟨z39, k40, lz39, uz39⟩ := hH17.ld (c := 26) (i := (b5).toNat) (A := (-2147483648)) (B := 2147483647) rfl
      refine jx_iald c1 hm rfl sh_26 ⟨by omega, by omega⟩ k40 ?_
      have J44 : ∀ (b43 : Int) (hb43 : (-2147483648) ≤ b43 ∧ b43 ≤ 2147483647), F 134 [some (.inr (.inr (.inl 4))), some (.inl z1), some (.inl z2), some (.inl b5), some (.inl b14), some (.inl b15), o16] [.inl b43, .inl b5, .inr (.inr (.inl 25))] M17 := by
       intro b43 hb43
       obtain ⟨M45, e45, hH45, hF45, k45, n45, _⟩ := mup hH17 hF17 (c := 25) (i := (b5).toNat) (v := b43) (A := (-2147483648)) (B := 2147483647) rfl ⟨by omega, by omega⟩ (jin_of 0 rfl ⟨by omega, by omega⟩)
       refine jm_iast c1 hm rfl sh_25 ⟨by omega, by omega⟩ e45 ?_
       refine jx_iinc c1 hm (v := (b5 + 1)) (L' := [some (.inr (.inr (.inl 4))), some (.inl z1), some (.inl z2), some (.inl (b5 + 1)), some (.inl b14), some (.inl b15), o16]) rfl rfl (by omega) (by omega) rfl ?_
       refine jx_goto c1 hm 28 rfl rfl ?_
       exact ihW10 (b5 + 1) (by omega) (some (.inl b14)) (Or.inr (Or.inl ⟨_, rfl⟩)) (some (.inl b15)) (Or.inr (Or.inl ⟨_, rfl⟩)) o16 ho16 M45 hH45 hF45 (by omega)
      refine jz_ne c1 hm 132 rfl rfl (fun h41 => ?_) (fun h41 => ?_)
      ·
       refine jx_load c1 hm rfl rfl rfl rfl ?_
       exact J44 b14 (by omega)
      refine jx_load c1 hm rfl rfl rfl rfl ?_
      refine jy_ic c1 hm rfl (by decide) ?_
      refine jx_iopw c1 hm rfl rfl (fun z42 lz42 uz42 => ?_)
      refine jx_goto c1 hm 134 rfl rfl ?_
      exact J44 z42 (by omega)
     refine jx_load c1 hm rfl rfl rfl rfl ?_
     refine jx_load c1 hm rfl rfl rfl rfl ?_
     refine jx_iopw c1 hm rfl rfl (fun z21 lz21 uz21 => ?_)
     refine jy_ic c1 hm rfl (by decide) ?_
     refine jy_anr c1 hm rfl ⟨by omega, by omega⟩ (fun z22 lz22 uz22 => ?_)
     refine jy_ic c1 hm rfl (by decide) ?_
     have J38 : ∀ (b35 : Int) (hb35 : 0 ≤ b35 ∧ b35 ≤ 2147483647) (o36 : Option JV) (ho36 : o36 = none ∨ (∃ z, o36 = some (.inl z)) ∨ ∃ r, o36 = some (.inr (.inr r))) (M37 : JM) (hH37 : HI (X) M37) (hF37 : Fr md_X0_fewestPayments_4 M0 M37), F 105 [some (.inr (.inr (.inl 4))), some (.inl z1), some (.inl z2), some (.inl b5), some (.inl b35), some (.inl b15), o36] [] M37 := by
      intro b35 hb35 o36 ho36 M37 hH37 hF37
      refine jx_iinc c1 hm (v := (b15 + 1)) (L' := [some (.inr (.inr (.inl 4))), some (.inl z1), some (.inl z2), some (.inl b5), some (.inl b35), some (.inl (b15 + 1)), o36]) rfl rfl (by omega) (by omega) rfl ?_
      refine jx_goto c1 hm 45 rfl rfl ?_
      exact ihW18 b35 (by omega) (b15 + 1) (by omega) o36 ho36 M37 hH37 hF37 (by omega)
     refine jc_ne c1 hm 105 rfl rfl (fun h23 => ?_) (fun h23 => ?_)
     ·
      exact J38 b14 (by omega) o16 ho16 M17 hH17 hF17
     refine jx_load c1 hm rfl rfl rfl rfl ?_
     refine jy_ic c1 hm rfl (by decide) ?_
     refine jx_load c1 hm rfl rfl rfl rfl ?_
     refine jy_sh1 c1 hm rfl ⟨by omega, by omega⟩ (fun z24 lz24 uz24 => ?_)
     refine jy_ic c1 hm rfl (by decide) ?_
     refine jx_iopw c1 hm rfl rfl (fun z25 lz25 uz25 => ?_)
     refine jy_anl c1 hm rfl ⟨by omega, by omega⟩ (fun z26 lz26 uz26 => ?_)
     refine jx_stor c1 hm (L' := [some (.inr (.inr (.inl 4))), some (.inl z1), some (.inl z2), some (.inl b5), some (.inl b14), some (.inl b15), some (.inl z26)]) rfl rfl rfl rfl rfl ?_
     refine jx_load c1 hm rfl rfl rfl rfl ?_
     refine jx_load c1 hm rfl rfl rfl rfl ?_
     refine jx_getr c1 hm rfl sh_4 rfl ?_
     refine jx_load c1 hm rfl rfl rfl rfl ?_
     obtain ⟨z27, k28, lz27, uz27⟩ := hH17.ld (c := 25) (i := (z26).toNat) (A := (-2147483648)) (B := 2147483647) rfl
     refine jx_iald c1 hm rfl sh_25 ⟨by omega, by omega⟩ k28 ?_
     refine jx_max c1 hm rfl rfl (fun z29 lz29 uz29 ez29 => ?_)
     refine jx_stor c1 hm (L' := [some (.inr (.inr (.inl 4))), some (.inl z1), some (.inl z2), some (.inl b5), some (.inl z29), some (.inl b15), some (.inl z26)]) rfl rfl rfl rfl rfl ?_
     refine jx_load c1 hm rfl rfl rfl rfl ?_
     refine jx_getr c1 hm rfl sh_4 rfl ?_
     refine jx_load c1 hm rfl rfl rfl rfl ?_
     refine jx_load c1 hm rfl rfl rfl rfl ?_
     refine jx_getr c1 hm rfl sh_4 rfl ?_
     refine jx_load c1 hm rfl rfl rfl rfl ?_
     obtain ⟨z30, k31, lz30, uz30⟩ := hH17.ld (c := 26) (i := (z26).toNat) (A := (-2147483648)) (B := 2147483647) rfl
     refine jx_iald c1 hm rfl sh_26 ⟨by omega, by omega⟩ k31 ?_
     refine jx_load c1 hm rfl rfl rfl rfl ?_
     refine jx_load c1 hm rfl rfl rfl rfl ?_
     refine jv_i c3 hm rfl pj_X0_balanceOf rfl rfl ⟨_, _, _, rfl, sh_4⟩ rfl ((ct_X0_balanceOf_4 X (by omega) M17 hH17 b15 ⟨by omega, by omega⟩).le (by decide)) (fun z32 _ ⟨rfl, lz32, uz32⟩ => ?_)
     refine jx_iopw c1 hm rfl rfl (fun z33 lz33 uz33 => ?_)
     obtain ⟨M34, e34, hH34, hF34, k34, n34, _⟩ := mup hH17 hF17 (c := 26) (i := (b5).toNat) (v := z33) (A := (-2147483648)) (B := 2147483647) rfl ⟨by omega, by omega⟩ (jin_of 1 rfl ⟨by omega, by omega⟩)
     refine jm_iast c1 hm rfl sh_26 ⟨by omega, by omega⟩ e34 ?_
     exact J38 z29 (by omega) (some (.inl z26)) (Or.inr (Or.inl ⟨_, rfl⟩)) M34 hH34 hF34
   exact W18 (6 + 1 : Int).toNat 0 (by omega) 0 (by omega) o8 ho8 M9 hH9 hF9 (by omega)
 exact W10 (63 + 1 : Int).toNat 1 (by omega) none (Or.inl rfl) none (Or.inl rfl) none (Or.inl rfl) M4 hH4 hF4 (by omega)
def md_X11_even_0 : List (Nat × (Nat × Nat)) := [(25, (0, 63)), (26, (0, 63))]
theorem ct_X11_even_0 (X : Int) (hX : 0 ≤ X ∧ X ≤ 100000000) (M0 : JM) (hH0 : HI X M0)  : JOk shp PJ 5 36 [.inr (.inr (.inl 0))] M0 (jRi (fun v M' => HI X M' ∧ Fr md_X11_even_0 M0 M' ∧ (-2147483648) ≤ v ∧ v ≤ 2147483647 )) := by
 refine ⟨jr_X11_even, pj_X11_even, fun F c1 c2 c3 => ?_⟩
 have hm := pj_X11_even
 change F 0 [some (.inr (.inr (.inl 0)))] [] M0
 have hF0 : Fr md_X11_even_0 M0 M0 := Fr.rf _ _
 refine jx_load c1 hm rfl rfl rfl rfl ?_
 refine jx_getr c1 hm rfl sh_0 rfl ?_
 refine jv_i c3 hm rfl pj_X0_fewestPayments rfl rfl ⟨_, _, _, rfl, sh_4⟩ rfl ((ct_X0_fewestPayments_4 X (by omega) M0 hH0 ).le (by decide)) (fun z1 M2 ⟨hH2, hR2, lz1, uz1⟩ => ?_)
 have hF2 := hF0.tr hR2 (by decide +kernel)
 exact jx_reti c2 hm rfl rfl ⟨_, rfl, hH2, hF2, by omega, by omega⟩
def md_J7_fill_53178_132 : List (Nat × (Nat × Nat)) := [(132, (0, 5))]
theorem ct_J7_fill_53178_132 (X : Int) (hX : 0 ≤ X ∧ X ≤ 100000000) (M0 : JM) (hH0 : HI X M0) (a0 : Int) (ha0 : 0 ≤ a0 ∧ a0 ≤ 0) : JOk shp PJ 1 1 [.inr (.inr (.inl 132)), .inl a0] M0 (jRv (fun M' => HI X M' ∧ Fr md_J7_fill_53178_132 M0 M' )) := by
 refine ⟨jr_J7_fill_53178, pj_J7_fill_53178, fun F c1 c2 c3 => ?_⟩
 have hm := pj_J7_fill_53178
 change F 0 [some (.inr (.inr (.inl 132))), some (.inl a0), none, none] [] M0
 have hF0 : Fr md_J7_fill_53178_132 M0 M0 := Fr.rf _ _
 refine jy_ic c1 hm rfl (by decide) ?_
 refine jx_stor c1 hm (L' := [some (.inr (.inr (.inl 132))), some (.inl a0), some (.inl 0), none]) rfl rfl rfl rfl rfl ?_
 refine jx_load c1 hm rfl rfl rfl rfl ?_
 refine jx_alen c1 hm (v := 6) rfl sh_132 rfl rfl ?_
 refine jx_stor c1 hm (L' := [some (.inr (.inr (.inl 132))), some (.inl a0), some (.inl 0), some (.inl 6)]) rfl rfl rfl rfl rfl ?_
 have W3 : ∀ (n4 : Nat) (b1 : Int) (hb1 : 0 ≤ b1 ∧ b1 ≤ 6) (M2 : JM) (hH2 : HI (X) M2) (hF2 : Fr md_J7_fill_53178_132 M0 M2), (-b1 + 6) < (n4 : Int) → F 5 [some (.inr (.inr (.inl 132))), some (.inl a0), some (.inl b1), some (.inl 6)] [] M2 := by
  intro n4
  induction n4 with
  | zero => intros; omega
  | succ n4 ihW3 =>
   intro b1 hb1 M2 hH2 hF2 hrW3
   refine jx_load c1 hm rfl rfl rfl rfl ?_
   refine jx_load c1 hm rfl rfl rfl rfl ?_
   refine jc_ge c1 hm 20 rfl rfl (fun h5 => ?_) (fun h5 => ?_)
   ·
    exact jx_retv c2 hm rfl rfl ⟨rfl, hH2, hF2⟩
   refine jx_load c1 hm rfl rfl rfl rfl ?_
   refine jx_load c1 hm rfl rfl rfl rfl ?_
   refine jx_load c1 hm rfl rfl rfl rfl ?_
   obtain ⟨M6, e6, hH6, hF6, k6, n6, _⟩ := mup hH2 hF2 (c := 132) (i := (b1).toNat) (v := a0) (A := (-2147483648)) (B := 2147483647) rfl ⟨by omega, by omega⟩ (jin_of 0 rfl ⟨by omega, by omega⟩)
   refine jm_iast c1 hm rfl sh_132 ⟨by omega, by omega⟩ e6 ?_
   refine jx_iinc c1 hm (v := (b1 + 1)) (L' := [some (.inr (.inr (.inl 132))), some (.inl a0), some (.inl (b1 + 1)), some (.inl 6)]) rfl rfl (by omega) (by omega) rfl ?_
   refine jx_goto c1 hm 5 rfl rfl ?_
   exact ihW3 (b1 + 1) (by omega) M6 hH6 hF6 (by omega)
 exact W3 (6 + 1 : Int).toNat 0 (by omega) M0 hH0 hF0 (by omega)
def md_X3_mayHavePaid_131_5_2 : List (Nat × (Nat × Nat)) := [(132, (0, 5))]
theorem ct_X3_mayHavePaid_131_5_2 (X : Int) (hX : 0 ≤ X ∧ X ≤ 100000000) (M0 : JM) (hH0 : HI X M0) (a0 : Int) (ha0 : 0 ≤ a0 ∧ a0 ≤ 5) (a1 : Int) (ha1 : 2 ≤ a1 ∧ a1 ≤ 20) : JOk shp PJ 2 235 [.inr (.inr (.inl 131)), .inr (.inr (.inl 5)), .inl a0, .inr (.inr (.inl 2)), .inl a1] M0 (jRi (fun v M' => HI X M' ∧ Fr md_X3_mayHavePaid_131_5_2 M0 M' ∧ 0 ≤ v ∧ v ≤ 1 )) := by
 refine ⟨jr_X3_mayHavePaid, pj_X3_mayHavePaid, fun F c1 c2 c3 => ?_⟩
 have hm := pj_X3_mayHavePaid
 change F 0 [some (.inr (.inr (.inl 131))), some (.inr (.inr (.inl 5))), some (.inl a0), some (.inr (.inr (.inl 2))), some (.inl a1), none, none, none] [] M0
 have hF0 : Fr md_X3_mayHavePaid_131_5_2 M0 M0 := Fr.rf _ _
 refine jx_load c1 hm rfl rfl rfl rfl ?_
 refine jx_getr c1 hm rfl sh_131 rfl ?_
 refine jy_ic c1 hm rfl (by decide) ?_
 refine jt_v c3 hm rfl rfl pj_J7_fill_53178 rfl rfl rfl ((ct_J7_fill_53178_132 X (by omega) M0 hH0 0 ⟨by omega, by omega⟩).le (by decide)) (fun M1 ⟨hH1, hR1⟩ => ?_)
 have hF1 := hF0.tr hR1 (by decide +kernel)
 refine jy_ic c1 hm rfl (by decide) ?_
 refine jx_stor c1 hm (L' := [some (.inr (.inr (.inl 131))), some (.inr (.inr (.inl 5))), some (.inl a0), some (.inr (.inr (.inl 2))), some (.inl a1), some (.inl 0), none, none]) rfl rfl rfl rfl rfl ?_
 have W6 : ∀ (n7 : Nat) (b2 : Int) (hb2 : 0 ≤ b2 ∧ b2 ≤ 20) (o3 : Option JV) (ho3 : o3 = none ∨ (∃ z, o3 = some (.inl z)) ∨ ∃ r, o3 = some (.inr (.inr r))) (o4 : Option JV) (ho4 : o4 = none ∨ (∃ z, o4 = some (.inl z)) ∨ ∃ r, o4 = some (.inr (.inr r))) (M5 : JM) (hH5 : HI (X) M5) (hF5 : Fr md_X3_mayHavePaid_131_5_2 M0 M5), (-b2 + 20) < (n7 : Int) → F 11 [some (.inr (.inr (.inl 131))), some (.inr (.inr (.inl 5))), some (.inl a0), some (.inr (.inr (.inl 2))), some (.inl a1), some (.inl b2), o3, o4] [] M5 := by
  intro n7
  induction n7 with
  | zero => intros; omega
  | succ n7 ihW6 =>
   intro b2 hb2 o3 ho3 o4 ho4 M5 hH5 hF5 hrW6
   refine jx_load c1 hm rfl rfl rfl rfl ?_
   refine jy_ic c1 hm rfl (by decide) ?_
   refine jy_add c1 hm (b2 + 1) rfl (by omega) ?_
   refine jx_load c1 hm rfl rfl rfl rfl ?_
   refine jc_ge c1 hm 113 rfl rfl (fun h8 => ?_) (fun h8 => ?_)
   ·
    refine jy_ic c1 hm rfl (by decide) ?_
    exact jx_retz c2 hm rfl rfl ⟨by omega, by omega⟩ ⟨_, rfl, hH5, hF5, by omega, by omega⟩
   refine jx_load c1 hm rfl rfl rfl rfl ?_
   refine jx_load c1 hm rfl rfl rfl rfl ?_
   obtain ⟨z9, k10, lz9, uz9⟩ := hH5.ld (c := 2) (i := (b2).toNat) (A := (-128)) (B := 127) rfl
   refine jx_bald c1 hm rfl sh_2 rfl ⟨by omega, by omega⟩ k10 ?_
   refine jy_sp c1 hm rfl (by decide) ?_
   refine jy_anr c1 hm rfl ⟨by omega, by omega⟩ (fun z11 lz11 uz11 => ?_)
   refine jx_stor c1 hm (L' := [some (.inr (.inr (.inl 131))), some (.inr (.inr (.inl 5))), some (.inl a0), some (.inr (.inr (.inl 2))), some (.inl a1), some (.inl b2), some (.inl z11), o4]) rfl rfl rfl rfl rfl ?_
   refine jx_load c1 hm rfl rfl rfl rfl ?_
   refine jy_ic c1 hm rfl (by decide) ?_
   refine jx_load c1 hm rfl rfl rfl rfl ?_
   refine jv_i c3 hm rfl pj_X2_has rfl rfl ⟨_, _, _, rfl, sh_5⟩ rfl ((ct_X2_has_5 X (by omega) M5 hH5 1 ⟨by omega, by omega⟩ z11 ⟨by omega, by omega⟩).le (by decide)) (fun z12 _ ⟨rfl, lz12, uz12, p13⟩ => ?_)
   refine jz_ne c1 hm 42 rfl rfl (fun h14 => ?_) (fun h14 => ?_)
   ·
    refine jx_load c1 hm rfl rfl rfl rfl ?_
    refine jx_load c1 hm rfl rfl rfl rfl ?_
    refine jx_load c1 hm rfl rfl rfl rfl ?_
    refine jx_load c1 hm rfl rfl rfl rfl ?_
    refine jx_getr c1 hm rfl sh_5 rfl ?_
    refine jx_getr c1 hm rfl sh_12 rfl ?_
    refine jx_load c1 hm rfl rfl rfl rfl ?_
    refine jy_bp c1 hm rfl (by decide) ?_
    refine jy_mul c1 hm (6 * a0) rfl (by omega) ?_
    refine jx_load c1 hm rfl rfl rfl rfl ?_
    refine jy_add c1 hm (6 * a0 + z11) rfl (by omega) ?_
    obtain ⟨z15, k16, lz15, uz15⟩ := hH5.ld (c := 18) (i := ((6 * a0 + z11)).toNat) (A := 0) (B := 1 * X) rfl
    refine jx_iald c1 hm rfl sh_18 ⟨by omega, by omega⟩ k16 ?_
    refine jx_load c1 hm rfl rfl rfl rfl ?_
    refine jx_getr c1 hm rfl sh_131 rfl ?_
    refine jx_load c1 hm rfl rfl rfl rfl ?_
    obtain ⟨z17, k18, lz17, uz17⟩ := hH5.ld (c := 132) (i := (z11).toNat) (A := (-2147483648)) (B := 2147483647) rfl
    refine jx_iald c1 hm rfl sh_132 ⟨by omega, by omega⟩ k18 ?_
    refine jx_iopw c1 hm rfl rfl (fun z19 lz19 uz19 => ?_)
    refine jv_i c3 hm rfl pj_X2_costAfter rfl rfl ⟨_, _, _, rfl, sh_5⟩ rfl ((ct_X2_costAfter_5 X (by omega) M5 hH5 a0 ⟨by omega, by omega⟩ z11 ⟨by omega, by omega⟩ z19 ⟨by omega, by omega⟩).le (by decide)) (fun z20 _ ⟨rfl, lz20, uz20, p21⟩ => ?_)
    refine jx_stor c1 hm (L' := [some (.inr (.inr (.inl 131))), some (.inr (.inr (.inl 5))), some (.inl a0), some (.inr (.inr (.inl 2))), some (.inl a1), some (.inl b2), some (.inl z11), some (.inl z20)]) rfl rfl rfl rfl rfl ?_
    refine jx_load c1 hm rfl rfl rfl rfl ?_
    refine jz_eq c1 hm 94 rfl rfl (fun h22 => ?_) (fun h22 => ?_)
    ·
     refine jy_ic c1 hm rfl (by decide) ?_
     exact jx_retz c2 hm rfl rfl ⟨by omega, by omega⟩ ⟨_, rfl, hH5, hF5, by omega, by omega⟩
    refine jx_load c1 hm rfl rfl rfl rfl ?_
    refine jx_load c1 hm rfl rfl rfl rfl ?_
    refine jx_load c1 hm rfl rfl rfl rfl ?_
    refine jy_ic c1 hm rfl (by decide) ?_
    refine jy_add c1 hm (b2 + 1) rfl (by omega) ?_
    obtain ⟨z23, k24, lz23, uz23⟩ := hH5.ld (c := 2) (i := ((b2 + 1)).toNat) (A := (-128)) (B := 127) rfl
    refine jx_bald c1 hm rfl sh_2 rfl ⟨by omega, by omega⟩ k24 ?_
    refine jy_sp c1 hm rfl (by decide) ?_
    refine jy_anr c1 hm rfl ⟨by omega, by omega⟩ (fun z25 lz25 uz25 => ?_)
    refine jc_eq c1 hm 96 rfl rfl (fun h26 => ?_) (fun h26 => ?_)
    ·
     refine jx_load c1 hm rfl rfl rfl rfl ?_
     refine jx_getr c1 hm rfl sh_131 rfl ?_
     refine jx_load c1 hm rfl rfl rfl rfl ?_
     refine jx_dup2 c1 hm rfl rfl rfl ?_
     obtain ⟨z27, k28, lz27, uz27⟩ := hH5.ld (c := 132) (i := (z11).toNat) (A := (-2147483648)) (B := 2147483647) rfl
     refine jx_iald c1 hm rfl sh_132 ⟨by omega, by omega⟩ k28 ?_
     refine jy_ic c1 hm rfl (by decide) ?_
     refine jx_iopw c1 hm rfl rfl (fun z29 lz29 uz29 => ?_)
     obtain ⟨M30, e30, hH30, hF30, k30, n30, _⟩ := mup hH5 hF5 (c := 132) (i := (z11).toNat) (v := z29) (A := (-2147483648)) (B := 2147483647) rfl ⟨by omega, by omega⟩ (jin_of 0 rfl ⟨by omega, by omega⟩)
     refine jm_iast c1 hm rfl sh_132 ⟨by omega, by omega⟩ e30 ?_
     refine jx_iinc c1 hm (v := (b2 + 2)) (L' := [some (.inr (.inr (.inl 131))), some (.inr (.inr (.inl 5))), some (.inl a0), some (.inr (.inr (.inl 2))), some (.inl a1), some (.inl (b2 + 2)), some (.inl z11), some (.inl z20)]) rfl rfl (by omega) (by omega) rfl ?_
     refine jx_goto c1 hm 11 rfl rfl ?_
     exact ihW6 (b2 + 2) (by omega) (some (.inl z11)) (Or.inr (Or.inl ⟨_, rfl⟩)) (some (.inl z20)) (Or.inr (Or.inl ⟨_, rfl⟩)) M30 hH30 hF30 (by omega)
    refine jy_ic c1 hm rfl (by decide) ?_
    exact jx_retz c2 hm rfl rfl ⟨by omega, by omega⟩ ⟨_, rfl, hH5, hF5, by omega, by omega⟩
   refine jy_ic c1 hm rfl (by decide) ?_
   exact jx_retz c2 hm rfl rfl ⟨by omega, by omega⟩ ⟨_, rfl, hH5, hF5, by omega, by omega⟩
 exact W6 (20 + 1 : Int).toNat 0 (by omega) none (Or.inl rfl) none (Or.inl rfl) M1 hH1 hF1 (by omega)
def md_X3_countDone_131_5_2 : List (Nat × (Nat × Nat)) := [(132, (0, 5))]
theorem ct_X3_countDone_131_5_2 (X : Int) (hX : 0 ≤ X ∧ X ≤ 100000000) (M0 : JM) (hH0 : HI X M0) (a0 : Int) (ha0 : 2 ≤ a0 ∧ a0 ≤ 20) : JOk shp PJ 2 233 [.inr (.inr (.inl 131)), .inr (.inr (.inl 5)), .inr (.inr (.inl 2)), .inl a0] M0 (jRv (fun M' => HI X M' ∧ Fr md_X3_countDone_131_5_2 M0 M' )) := by
 refine ⟨jr_X3_countDone, pj_X3_countDone, fun F c1 c2 c3 => ?_⟩
 have hm := pj_X3_countDone
 change F 0 [some (.inr (.inr (.inl 131))), some (.inr (.inr (.inl 5))), some (.inr (.inr (.inl 2))), some (.inl a0), none, none] [] M0
 have hF0 : Fr md_X3_countDone_131_5_2 M0 M0 := Fr.rf _ _
 refine jx_load c1 hm rfl rfl rfl rfl ?_
 refine jx_getr c1 hm rfl sh_131 rfl ?_
 refine jy_ic c1 hm rfl (by decide) ?_
 refine jt_v c3 hm rfl rfl pj_J7_fill_53178 rfl rfl rfl ((ct_J7_fill_53178_132 X (by omega) M0 hH0 0 ⟨by omega, by omega⟩).le (by decide)) (fun M1 ⟨hH1, hR1⟩ => ?_)
 have hF1 := hF0.tr hR1 (by decide +kernel)
 refine jy_ic c1 hm rfl (by decide) ?_
 refine jx_stor c1 hm (L' := [some (.inr (.inr (.inl 131))), some (.inr (.inr (.inl 5))), some (.inr (.inr (.inl 2))), some (.inl a0), some (.inl 0), none]) rfl rfl rfl rfl rfl ?_
 have W5 : ∀ (n6 : Nat) (b2 : Int) (hb2 : 0 ≤ b2 ∧ b2 ≤ 21) (o3 : Option JV) (ho3 : o3 = none ∨ (∃ z, o3 = some (.inl z)) ∨ ∃ r, o3 = some (.inr (.inr r))) (M4 : JM) (hH4 : HI (X) M4) (hF4 : Fr md_X3_countDone_131_5_2 M0 M4), (-b2 + 21) < (n6 : Int) → F 11 [some (.inr (.inr (.inl 131))), some (.inr (.inr (.inl 5))), some (.inr (.inr (.inl 2))), some (.inl a0), some (.inl b2), o3] [] M4 := by
  intro n6
  induction n6 with
  | zero => intros; omega
  | succ n6 ihW5 =>
   intro b2 hb2 o3 ho3 M4 hH4 hF4 hrW5
   refine jx_load c1 hm rfl rfl rfl rfl ?_
   refine jx_load c1 hm rfl rfl rfl rfl ?_
   refine jc_ge c1 hm 54 rfl rfl (fun h7 => ?_) (fun h7 => ?_)
   ·
    exact jx_retv c2 hm rfl rfl ⟨rfl, hH4, hF4⟩
   refine jx_load c1 hm rfl rfl rfl rfl ?_
   refine jx_load c1 hm rfl rfl rfl rfl ?_
   obtain ⟨z8, k9, lz8, uz8⟩ := hH4.ld (c := 2) (i := (b2).toNat) (A := (-128)) (B := 127) rfl
   refine jx_bald c1 hm rfl sh_2 rfl ⟨by omega, by omega⟩ k9 ?_
   refine jy_sp c1 hm rfl (by decide) ?_
   refine jy_anr c1 hm rfl ⟨by omega, by omega⟩ (fun z10 lz10 uz10 => ?_)
   refine jx_stor c1 hm (L' := [some (.inr (.inr (.inl 131))), some (.inr (.inr (.inl 5))), some (.inr (.inr (.inl 2))), some (.inl a0), some (.inl b2), some (.inl z10)]) rfl rfl rfl rfl rfl ?_
   refine jx_load c1 hm rfl rfl rfl rfl ?_
   refine jy_ic c1 hm rfl (by decide) ?_
   refine jx_load c1 hm rfl rfl rfl rfl ?_
   refine jv_i c3 hm rfl pj_X2_has rfl rfl ⟨_, _, _, rfl, sh_5⟩ rfl ((ct_X2_has_5 X (by omega) M4 hH4 1 ⟨by omega, by omega⟩ z10 ⟨by omega, by omega⟩).le (by decide)) (fun z11 _ ⟨rfl, lz11, uz11, p12⟩ => ?_)
   have J19 : ∀ (M18 : JM) (hH18 : HI (X) M18) (hF18 : Fr md_X3_countDone_131_5_2 M0 M18), F 48 [some (.inr (.inr (.inl 131))), some (.inr (.inr (.inl 5))), some (.inr (.inr (.inl 2))), some (.inl a0), some (.inl b2), some (.inl z10)] [] M18 := by
    intro M18 hH18 hF18
    refine jx_iinc c1 hm (v := (b2 + 2)) (L' := [some (.inr (.inr (.inl 131))), some (.inr (.inr (.inl 5))), some (.inr (.inr (.inl 2))), some (.inl a0), some (.inl (b2 + 2)), some (.inl z10)]) rfl rfl (by omega) (by omega) rfl ?_
    refine jx_goto c1 hm 11 rfl rfl ?_
    exact ihW5 (b2 + 2) (by omega) (some (.inl z10)) (Or.inr (Or.inl ⟨_, rfl⟩)) M18 hH18 hF18 (by omega)
   refine jz_eq c1 hm 48 rfl rfl (fun h13 => ?_) (fun h13 => ?_)
   ·
    exact J19 M4 hH4 hF4
   refine jx_load c1 hm rfl rfl rfl rfl ?_
   refine jx_getr c1 hm rfl sh_131 rfl ?_
   refine jx_load c1 hm rfl rfl rfl rfl ?_
   refine jx_dup2 c1 hm rfl rfl rfl ?_
   obtain ⟨z14, k15, lz14, uz14⟩ := hH4.ld (c := 132) (i := (z10).toNat) (A := (-2147483648)) (B := 2147483647) rfl
   refine jx_iald c1 hm rfl sh_132 ⟨by omega, by omega⟩ k15 ?_
   refine jy_ic c1 hm rfl (by decide) ?_
   refine jx_iopw c1 hm rfl rfl (fun z16 lz16 uz16 => ?_)
   obtain ⟨M17, e17, hH17, hF17, k17, n17, _⟩ := mup hH4 hF4 (c := 132) (i := (z10).toNat) (v := z16) (A := (-2147483648)) (B := 2147483647) rfl ⟨by omega, by omega⟩ (jin_of 0 rfl ⟨by omega, by omega⟩)
   refine jm_iast c1 hm rfl sh_132 ⟨by omega, by omega⟩ e17 ?_
   exact J19 M17 hH17 hF17
 exact W5 (21 + 1 : Int).toNat 0 (by omega) none (Or.inl rfl) M1 hH1 hF1 (by omega)
theorem ct_X3_mostLeft_131_5 (X : Int) (hX : 0 ≤ X ∧ X ≤ 100000000) (M0 : JM) (hH0 : HI X M0) (a0 : Int) (ha0 : (-2147483648) ≤ a0 ∧ a0 ≤ 2147483647) (a1 : Int) (ha1 : 0 ≤ a1 ∧ a1 ≤ 5) : JOk shp PJ 2 236 [.inr (.inr (.inl 131)), .inr (.inr (.inl 5)), .inl a0, .inl a1] M0 (jRi (fun v M' => M0 = M' ∧ 0 ≤ v ∧ v ≤ 6 )) := by
 refine ⟨jr_X3_mostLeft, pj_X3_mostLeft, fun F c1 c2 c3 => ?_⟩
 have hm := pj_X3_mostLeft
 change F 0 [some (.inr (.inr (.inl 131))), some (.inr (.inr (.inl 5))), some (.inl a0), some (.inl a1), none, none, none, none, none] [] M0
 refine jy_ic c1 hm rfl (by decide) ?_
 refine jx_stor c1 hm (L' := [some (.inr (.inr (.inl 131))), some (.inr (.inr (.inl 5))), some (.inl a0), some (.inl a1), some (.inl 0), none, none, none, none]) rfl rfl rfl rfl rfl ?_
 refine jy_ic c1 hm rfl (by decide) ?_
 refine jx_stor c1 hm (L' := [some (.inr (.inr (.inl 131))), some (.inr (.inr (.inl 5))), some (.inl a0), some (.inl a1), some (.inl 0), some (.inl 0), none, none, none]) rfl rfl rfl rfl rfl ?_
 have W6 : ∀ (n7 : Nat) (b1 : Int) (hb1 : 0 ≤ b1 ∧ b1 ≤ 6) (b2 : Int) (hb2 : 0 ≤ b2 ∧ b2 ≤ 21) (o3 : Option JV) (ho3 : o3 = none ∨ (∃ z, o3 = some (.inl z)) ∨ ∃ r, o3 = some (.inr (.inr r))) (o4 : Option JV) (ho4 : o4 = none ∨ (∃ z, o4 = some (.inl z)) ∨ ∃ r, o4 = some (.inr (.inr r))) (o5 : Option JV) (ho5 : o5 = none ∨ (∃ z, o5 = some (.inl z)) ∨ ∃ r, o5 = some (.inr (.inr r))), (-b2 + 21) < (n7 : Int) → F 6 [some (.inr (.inr (.inl 131))), some (.inr (.inr (.inl 5))), some (.inl a0), some (.inl a1), some (.inl b1), some (.inl b2), o3, o4, o5] [] M0 := by
  intro n7
  induction n7 with
  | zero => intros; omega
  | succ n7 ihW6 =>
   intro b1 hb1 b2 hb2 o3 ho3 o4 ho4 o5 ho5 hrW6
   refine jx_load c1 hm rfl rfl rfl rfl ?_
   refine jy_bp c1 hm rfl (by decide) ?_
   refine jc_gt c1 hm 100 rfl rfl (fun h8 => ?_) (fun h8 => ?_)
   ·
    refine jx_load c1 hm rfl rfl rfl rfl ?_
    exact jx_reti c2 hm rfl rfl ⟨_, rfl, rfl, by omega, by omega⟩
   refine jy_ic c1 hm rfl (by decide) ?_
   refine jx_stor c1 hm (L' := [some (.inr (.inr (.inl 131))), some (.inr (.inr (.inl 5))), some (.inl a0), some (.inl a1), some (.inl b1), some (.inl b2), some (.inl 0), o4, o5]) rfl rfl rfl rfl rfl ?_
   refine jy_ic c1 hm rfl (by decide) ?_
   refine jx_stor c1 hm (L' := [some (.inr (.inr (.inl 131))), some (.inr (.inr (.inl 5))), some (.inl a0), some (.inl a1), some (.inl b1), some (.inl b2), some (.inl 0), some (.inl 0), o5]) rfl rfl rfl rfl rfl ?_
   have W13 : ∀ (n14 : Nat) (b9 : Int) (hb9 : 0 ≤ b9 ∧ b9 ≤ 6) (b10 : Int) (hb10 : 0 ≤ b10 ∧ b10 ≤ 6) (o11 : Option JV) (ho11 : o11 = none ∨ (∃ z, o11 = some (.inl z)) ∨ ∃ r, o11 = some (.inr (.inr r))) (h12 : b9 ≤ b10), (-b10 + 6) < (n14 : Int) → F 19 [some (.inr (.inr (.inl 131))), some (.inr (.inr (.inl 5))), some (.inl a0), some (.inl a1), some (.inl b1), some (.inl b2), some (.inl b9), some (.inl b10), o11] [] M0 := by
    intro n14
    induction n14 with
    | zero => intros; omega
    | succ n14 ihW13 =>
     intro b9 hb9 b10 hb10 o11 ho11 h12 hrW13
     refine jx_load c1 hm rfl rfl rfl rfl ?_
     refine jx_load c1 hm rfl rfl rfl rfl ?_
     refine jv_i c3 hm rfl pj_X2_men rfl rfl ⟨_, _, _, rfl, sh_5⟩ rfl ((ct_X2_men_5 X (by omega) M0 hH0 ).le (by decide)) (fun z15 _ ⟨rfl, lz15, uz15⟩ => ?_)
     refine jc_ge c1 hm 85 rfl rfl (fun h16 => ?_) (fun h16 => ?_)
     ·
      refine jx_load c1 hm rfl rfl rfl rfl ?_
      refine jx_load c1 hm rfl rfl rfl rfl ?_
      refine jx_max c1 hm rfl rfl (fun z31 lz31 uz31 ez31 => ?_)
      refine jx_stor c1 hm (L' := [some (.inr (.inr (.inl 131))), some (.inr (.inr (.inl 5))), some (.inl a0), some (.inl a1), some (.inl z31), some (.inl b2), some (.inl b9), some (.inl b10), o11]) rfl rfl rfl rfl rfl ?_
      refine jx_iinc c1 hm (v := (b2 + 1)) (L' := [some (.inr (.inr (.inl 131))), some (.inr (.inr (.inl 5))), some (.inl a0), some (.inl a1), some (.inl z31), some (.inl (b2 + 1)), some (.inl b9), some (.inl b10), o11]) rfl rfl (by omega) (by omega) rfl ?_
      refine jx_goto c1 hm 6 rfl rfl ?_
      exact ihW6 z31 (by omega) (b2 + 1) (by omega) (some (.inl b9)) (Or.inr (Or.inl ⟨_, rfl⟩)) (some (.inl b10)) (Or.inr (Or.inl ⟨_, rfl⟩)) o11 ho11 (by omega)
     refine jx_load c1 hm rfl rfl rfl rfl ?_
     refine jx_getr c1 hm rfl sh_5 rfl ?_
     refine jx_getr c1 hm rfl sh_12 rfl ?_
     refine jx_load c1 hm rfl rfl rfl rfl ?_
     refine jy_bp c1 hm rfl (by decide) ?_
     refine jy_mul c1 hm (6 * b10) rfl (by omega) ?_
     refine jx_load c1 hm rfl rfl rfl rfl ?_
     refine jy_add c1 hm (a1 + 6 * b10) rfl (by omega) ?_
     obtain ⟨z17, k18, lz17, uz17⟩ := hH0.ld (c := 18) (i := ((a1 + 6 * b10)).toNat) (A := 0) (B := 1 * X) rfl
     refine jx_iald c1 hm rfl sh_18 ⟨by omega, by omega⟩ k18 ?_
     refine jx_load c1 hm rfl rfl rfl rfl ?_
     refine jx_getr c1 hm rfl sh_131 rfl ?_
     refine jx_load c1 hm rfl rfl rfl rfl ?_
     obtain ⟨z19, k20, lz19, uz19⟩ := hH0.ld (c := 132) (i := (a1).toNat) (A := (-2147483648)) (B := 2147483647) rfl
     refine jx_iald c1 hm rfl sh_132 ⟨by omega, by omega⟩ k20 ?_
     refine jx_iopw c1 hm rfl rfl (fun z21 lz21 uz21 => ?_)
     refine jx_stor c1 hm (L' := [some (.inr (.inr (.inl 131))), some (.inr (.inr (.inl 5))), some (.inl a0), some (.inl a1), some (.inl b1), some (.inl b2), some (.inl b9), some (.inl b10), some (.inl z21)]) rfl rfl rfl rfl rfl ?_
     refine jx_load c1 hm rfl rfl rfl rfl ?_
     refine jx_load c1 hm rfl rfl rfl rfl ?_
     refine jx_iopw c1 hm rfl rfl (fun z22 lz22 uz22 => ?_)
     refine jy_ic c1 hm rfl (by decide) ?_
     refine jy_anr c1 hm rfl ⟨by omega, by omega⟩ (fun z23 lz23 uz23 => ?_)
     refine jy_ic c1 hm rfl (by decide) ?_
     have J30 : ∀ (b28 : Int) (hb28 : 0 ≤ b28 ∧ b28 ≤ 7) (h29 : b28 ≤ b10 + 1), F 79 [some (.inr (.inr (.inl 131))), some (.inr (.inr (.inl 5))), some (.inl a0), some (.inl a1), some (.inl b1), some (.inl b2), some (.inl b28), some (.inl b10), some (.inl z21)] [] M0 := by
      intro b28 hb28 h29
      refine jx_iinc c1 hm (v := (b10 + 1)) (L' := [some (.inr (.inr (.inl 131))), some (.inr (.inr (.inl 5))), some (.inl a0), some (.inl a1), some (.inl b1), some (.inl b2), some (.inl b28), some (.inl (b10 + 1)), some (.inl z21)]) rfl rfl (by omega) (by omega) rfl ?_
      refine jx_goto c1 hm 19 rfl rfl ?_
      exact ihW13 b28 (by omega) (b10 + 1) (by omega) (some (.inl z21)) (Or.inr (Or.inl ⟨_, rfl⟩)) (by omega) (by omega)
     refine jc_ne c1 hm 79 rfl rfl (fun h24 => ?_) (fun h24 => ?_)
     ·
      exact J30 b9 (by omega) (by omega)
     refine jx_load c1 hm rfl rfl rfl rfl ?_
     refine jx_load c1 hm rfl rfl rfl rfl ?_
     refine jx_load c1 hm rfl rfl rfl rfl ?_
     refine jx_load c1 hm rfl rfl rfl rfl ?_
     refine jv_i c3 hm rfl pj_X2_costAfter rfl rfl ⟨_, _, _, rfl, sh_5⟩ rfl ((ct_X2_costAfter_5 X (by omega) M0 hH0 b10 ⟨by omega, by omega⟩ a1 ⟨by omega, by omega⟩ z21 ⟨by omega, by omega⟩).le (by decide)) (fun z25 _ ⟨rfl, lz25, uz25, p26⟩ => ?_)
     refine jx_load c1 hm rfl rfl rfl rfl ?_
     refine jc_ne c1 hm 79 rfl rfl (fun h27 => ?_) (fun h27 => ?_)
     ·
      exact J30 b9 (by omega) (by omega)
     refine jx_iinc c1 hm (v := (b9 + 1)) (L' := [some (.inr (.inr (.inl 131))), some (.inr (.inr (.inl 5))), some (.inl a0), some (.inl a1), some (.inl b1), some (.inl b2), some (.inl (b9 + 1)), some (.inl b10), some (.inl z21)]) rfl rfl (by omega) (by omega) rfl ?_
     exact J30 (b9 + 1) (by omega) (by omega)
   exact W13 (6 + 1 : Int).toNat 0 (by omega) 0 (by omega) o5 ho5 (by omega) (by omega)
 exact W6 (21 + 1 : Int).toNat 0 (by omega) 0 (by omega) none (Or.inl rfl) none (Or.inl rfl) none (Or.inl rfl) (by omega)
theorem ct_X3_mostTelling_131_5 (X : Int) (hX : 0 ≤ X ∧ X ≤ 100000000) (M0 : JM) (hH0 : HI X M0) (a0 : Int) (ha0 : (-2147483648) ≤ a0 ∧ a0 ≤ 2147483647) : JOk shp PJ 3 237 [.inr (.inr (.inl 131)), .inr (.inr (.inl 5)), .inl a0] M0 (jRi (fun v M' => M0 = M' ∧ (-1) ≤ v ∧ v ≤ 5 )) := by
 refine ⟨jr_X3_mostTelling, pj_X3_mostTelling, fun F c1 c2 c3 => ?_⟩
 have hm := pj_X3_mostTelling
 change F 0 [some (.inr (.inr (.inl 131))), some (.inr (.inr (.inl 5))), some (.inl a0), none, none, none, none] [] M0
 refine jy_ic c1 hm rfl (by decide) ?_
 refine jx_stor c1 hm (L' := [some (.inr (.inr (.inl 131))), some (.inr (.inr (.inl 5))), some (.inl a0), some (.inl (-1)), none, none, none]) rfl rfl rfl rfl rfl ?_
 refine jy_ic c1 hm rfl (by decide) ?_
 refine jx_stor c1 hm (L' := [some (.inr (.inr (.inl 131))), some (.inr (.inr (.inl 5))), some (.inl a0), some (.inl (-1)), some (.inl 0), none, none]) rfl rfl rfl rfl rfl ?_
 refine jy_ic c1 hm rfl (by decide) ?_
 refine jx_stor c1 hm (L' := [some (.inr (.inr (.inl 131))), some (.inr (.inr (.inl 5))), some (.inl a0), some (.inl (-1)), some (.inl 0), some (.inl 0), none]) rfl rfl rfl rfl rfl ?_
 have W5 : ∀ (n6 : Nat) (b1 : Int) (hb1 : (-1) ≤ b1 ∧ b1 ≤ 5) (b2 : Int) (hb2 : 0 ≤ b2 ∧ b2 ≤ 6) (b3 : Int) (hb3 : 0 ≤ b3 ∧ b3 ≤ 6) (o4 : Option JV) (ho4 : o4 = none ∨ (∃ z, o4 = some (.inl z)) ∨ ∃ r, o4 = some (.inr (.inr r))), (-b3 + 6) < (n6 : Int) → F 8 [some (.inr (.inr (.inl 131))), some (.inr (.inr (.inl 5))), some (.inl a0), some (.inl b1), some (.inl b2), some (.inl b3), o4] [] M0 := by
  intro n6
  induction n6 with
  | zero => intros; omega
  | succ n6 ihW5 =>
   intro b1 hb1 b2 hb2 b3 hb3 o4 ho4 hrW5
   refine jx_load c1 hm rfl rfl rfl rfl ?_
   refine jx_load c1 hm rfl rfl rfl rfl ?_
   refine jv_i c3 hm rfl pj_X2_forfeits rfl rfl ⟨_, _, _, rfl, sh_5⟩ rfl ((ct_X2_forfeits_5 X (by omega) M0 hH0 ).le (by decide)) (fun z7 _ ⟨rfl, lz7, uz7⟩ => ?_)
   refine jc_ge c1 hm 52 rfl rfl (fun h8 => ?_) (fun h8 => ?_)
   ·
    refine jx_load c1 hm rfl rfl rfl rfl ?_
    exact jx_reti c2 hm rfl rfl ⟨_, rfl, rfl, by omega, by omega⟩
   refine jx_load c1 hm rfl rfl rfl rfl ?_
   refine jx_load c1 hm rfl rfl rfl rfl ?_
   refine jx_load c1 hm rfl rfl rfl rfl ?_
   refine jx_load c1 hm rfl rfl rfl rfl ?_
   refine jv_i c3 hm rfl pj_X3_mostLeft rfl rfl ⟨_, _, _, rfl, sh_131⟩ rfl ((ct_X3_mostLeft_131_5 X (by omega) M0 hH0 a0 ⟨by omega, by omega⟩ b3 ⟨by omega, by omega⟩).le (by decide)) (fun z9 _ ⟨rfl, lz9, uz9⟩ => ?_)
   refine jx_stor c1 hm (L' := [some (.inr (.inr (.inl 131))), some (.inr (.inr (.inl 5))), some (.inl a0), some (.inl b1), some (.inl b2), some (.inl b3), some (.inl z9)]) rfl rfl rfl rfl rfl ?_
   refine jx_load c1 hm rfl rfl rfl rfl ?_
   refine jy_ic c1 hm rfl (by decide) ?_
   have J14 : ∀ (b12 : Int) (hb12 : 0 ≤ b12 ∧ b12 ≤ 5) (b13 : Int) (hb13 : 0 ≤ b13 ∧ b13 ≤ 6), F 46 [some (.inr (.inr (.inl 131))), some (.inr (.inr (.inl 5))), some (.inl a0), some (.inl b12), some (.inl b13), some (.inl b3), some (.inl z9)] [] M0 := by
    intro b12 hb12 b13 hb13
    refine jx_iinc c1 hm (v := (b3 + 1)) (L' := [some (.inr (.inr (.inl 131))), some (.inr (.inr (.inl 5))), some (.inl a0), some (.inl b12), some (.inl b13), some (.inl (b3 + 1)), some (.inl z9)]) rfl rfl (by omega) (by omega) rfl ?_
    refine jx_goto c1 hm 8 rfl rfl ?_
    exact ihW5 b12 (by omega) b13 (by omega) (b3 + 1) (by omega) (some (.inl z9)) (Or.inr (Or.inl ⟨_, rfl⟩)) (by omega)
   refine jc_eq c1 hm 39 rfl rfl (fun h10 => ?_) (fun h10 => ?_)
   ·
    refine jx_load c1 hm rfl rfl rfl rfl ?_
    refine jx_stor c1 hm (L' := [some (.inr (.inr (.inl 131))), some (.inr (.inr (.inl 5))), some (.inl a0), some (.inl b3), some (.inl b2), some (.inl b3), some (.inl z9)]) rfl rfl rfl rfl rfl ?_
    refine jx_load c1 hm rfl rfl rfl rfl ?_
    refine jx_stor c1 hm (L' := [some (.inr (.inr (.inl 131))), some (.inr (.inr (.inl 5))), some (.inl a0), some (.inl b3), some (.inl z9), some (.inl b3), some (.inl z9)]) rfl rfl rfl rfl rfl ?_
    exact J14 b3 (by omega) z9 (by omega)
   refine jx_load c1 hm rfl rfl rfl rfl ?_
   refine jx_load c1 hm rfl rfl rfl rfl ?_
   refine jc_ge c1 hm 46 rfl rfl (fun h11 => ?_) (fun h11 => ?_)
   ·
    exact J14 b1 (by omega) b2 (by omega)
   refine jx_load c1 hm rfl rfl rfl rfl ?_
   refine jx_stor c1 hm (L' := [some (.inr (.inr (.inl 131))), some (.inr (.inr (.inl 5))), some (.inl a0), some (.inl b3), some (.inl b2), some (.inl b3), some (.inl z9)]) rfl rfl rfl rfl rfl ?_
   refine jx_load c1 hm rfl rfl rfl rfl ?_
   refine jx_stor c1 hm (L' := [some (.inr (.inr (.inl 131))), some (.inr (.inr (.inl 5))), some (.inl a0), some (.inl b3), some (.inl z9), some (.inl b3), some (.inl z9)]) rfl rfl rfl rfl rfl ?_
   exact J14 b3 (by omega) z9 (by omega)
 exact W5 (6 + 1 : Int).toNat (-1) (by omega) 0 (by omega) 0 (by omega) none (Or.inl rfl) (by omega)
def md_X3_find_131_5_2 : List (Nat × (Nat × Nat)) := [(131, (1, 1)), (132, (0, 5))]
theorem ct_X3_find_131_5_2 (X : Int) (hX : 0 ≤ X ∧ X ≤ 100000000) (M0 : JM) (hH0 : HI X M0) (a0 : Int) (ha0 : 0 ≤ a0 ∧ a0 ≤ 940) : JOk shp PJ 4 234 [.inr (.inr (.inl 131)), .inr (.inr (.inl 5)), .inr (.inr (.inl 2)), .inl a0] M0 (jRi (fun v M' => HI X M' ∧ Fr md_X3_find_131_5_2 M0 M' ∧ (-2147483648) ≤ v ∧ v ≤ 2147483647 )) := by
 refine ⟨jr_X3_find, pj_X3_find, fun F c1 c2 c3 => ?_⟩
 have hm := pj_X3_find
 change F 0 [some (.inr (.inr (.inl 131))), some (.inr (.inr (.inl 5))), some (.inr (.inr (.inl 2))), some (.inl a0), none, none] [] M0
 have hF0 : Fr md_X3_find_131_5_2 M0 M0 := Fr.rf _ _
 refine jx_load c1 hm rfl rfl rfl rfl ?_
 refine jy_ic c1 hm rfl (by decide) ?_
 refine jc_lt c1 hm 23 rfl rfl (fun h1 => ?_) (fun h1 => ?_)
 ·
  refine jy_ic c1 hm rfl (by decide) ?_
  exact jx_reti c2 hm rfl rfl ⟨_, rfl, hH0, hF0, by omega, by omega⟩
 refine jx_load c1 hm rfl rfl rfl rfl ?_
 refine jy_bp c1 hm rfl (by decide) ?_
 refine jc_gt c1 hm 23 rfl rfl (fun h2 => ?_) (fun h2 => ?_)
 ·
  refine jy_ic c1 hm rfl (by decide) ?_
  exact jx_reti c2 hm rfl rfl ⟨_, rfl, hH0, hF0, by omega, by omega⟩
 refine jx_load c1 hm rfl rfl rfl rfl ?_
 refine jy_ic c1 hm rfl (by decide) ?_
 refine jy_rem c1 hm rfl ⟨by omega, by omega, by omega, by omega⟩ (fun z3 ez3 lz3 uz3 => ?_)
 refine jz_ne c1 hm 23 rfl rfl (fun h4 => ?_) (fun h4 => ?_)
 ·
  refine jy_ic c1 hm rfl (by decide) ?_
  exact jx_reti c2 hm rfl rfl ⟨_, rfl, hH0, hF0, by omega, by omega⟩
 refine jx_load c1 hm rfl rfl rfl rfl ?_
 refine jx_load c1 hm rfl rfl rfl rfl ?_
 refine jx_alen c1 hm (v := 940) rfl sh_2 rfl rfl ?_
 refine jc_le c1 hm 25 rfl rfl (fun h5 => ?_) (fun h5 => ?_)
 ·
  refine jy_ic c1 hm rfl (by decide) ?_
  refine jx_stor c1 hm (L' := [some (.inr (.inr (.inl 131))), some (.inr (.inr (.inl 5))), some (.inr (.inr (.inl 2))), some (.inl a0), some (.inl 0), none]) rfl rfl rfl rfl rfl ?_
  have W7 : ∀ (n8 : Nat) (b6 : Int) (hb6 : 0 ≤ b6 ∧ b6 ≤ 21), (-b6 + 21) < (n8 : Int) → F 28 [some (.inr (.inr (.inl 131))), some (.inr (.inr (.inl 5))), some (.inr (.inr (.inl 2))), some (.inl a0), some (.inl b6), none] [] M0 := by
   intro n8
   induction n8 with
   | zero => intros; omega
   | succ n8 ihW7 =>
    intro b6 hb6 hrW7
    refine jx_load c1 hm rfl rfl rfl rfl ?_
    refine jx_load c1 hm rfl rfl rfl rfl ?_
    refine jc_ge c1 hm 58 rfl rfl (fun h9 => ?_) (fun h9 => ?_)
    ·
     refine jy_ic c1 hm rfl (by decide) ?_
     refine jx_stor c1 hm (L' := [some (.inr (.inr (.inl 131))), some (.inr (.inr (.inl 5))), some (.inr (.inr (.inl 2))), some (.inl a0), some (.inl 0), none]) rfl rfl rfl rfl rfl ?_
     refine jy_ic c1 hm rfl (by decide) ?_
     refine jx_stor c1 hm (L' := [some (.inr (.inr (.inl 131))), some (.inr (.inr (.inl 5))), some (.inr (.inr (.inl 2))), some (.inl a0), some (.inl 0), some (.inl 0)]) rfl rfl rfl rfl rfl ?_
     have W13 : ∀ (n14 : Nat) (b10 : Int) (hb10 : (-2147483648) ≤ b10 ∧ b10 ≤ 2147483647) (b11 : Int) (hb11 : 0 ≤ b11 ∧ b11 ≤ 6) (M12 : JM) (hH12 : HI (X) M12) (hF12 : Fr md_X3_find_131_5_2 M0 M12), (-b11 + 6) < (n14 : Int) → F 64 [some (.inr (.inr (.inl 131))), some (.inr (.inr (.inl 5))), some (.inr (.inr (.inl 2))), some (.inl a0), some (.inl b10), some (.inl b11)] [] M12 := by
      intro n14
      induction n14 with
      | zero => intros; omega
      | succ n14 ihW13 =>
       intro b10 hb10 b11 hb11 M12 hH12 hF12 hrW13
       refine jx_load c1 hm rfl rfl rfl rfl ?_
       refine jx_load c1 hm rfl rfl rfl rfl ?_
       refine jv_i c3 hm rfl pj_X2_men rfl rfl ⟨_, _, _, rfl, sh_5⟩ rfl ((ct_X2_men_5 X (by omega) M12 hH12 ).le (by decide)) (fun z15 _ ⟨rfl, lz15, uz15⟩ => ?_)
       refine jc_ge c1 hm 100 rfl rfl (fun h16 => ?_) (fun h16 => ?_)
       ·
        refine jx_load c1 hm rfl rfl rfl rfl ?_
        refine jz_eq c1 hm 123 rfl rfl (fun h24 => ?_) (fun h24 => ?_)
        ·
         refine jx_load c1 hm rfl rfl rfl rfl ?_
         exact jx_reti c2 hm rfl rfl ⟨_, rfl, hH12, hF12, by omega, by omega⟩
        refine jx_load c1 hm rfl rfl rfl rfl ?_
        refine jx_load c1 hm rfl rfl rfl rfl ?_
        refine jx_load c1 hm rfl rfl rfl rfl ?_
        refine jx_load c1 hm rfl rfl rfl rfl ?_
        refine jv_v c3 hm rfl pj_X3_countDone rfl rfl ⟨_, _, _, rfl, sh_131⟩ rfl ((ct_X3_countDone_131_5_2 X (by omega) M12 hH12 a0 ⟨by omega, by omega⟩).le (by decide)) (fun M25 ⟨hH25, hR25⟩ => ?_)
        have hF25 := hF12.tr hR25 (by decide +kernel)
        refine jx_load c1 hm rfl rfl rfl rfl ?_
        refine jx_load c1 hm rfl rfl rfl rfl ?_
        refine jx_load c1 hm rfl rfl rfl rfl ?_
        refine jx_load c1 hm rfl rfl rfl rfl ?_
        refine jv_i c3 hm rfl pj_X3_mostTelling rfl rfl ⟨_, _, _, rfl, sh_131⟩ rfl ((ct_X3_mostTelling_131_5 X (by omega) M25 hH25 b10 ⟨by omega, by omega⟩).le (by decide)) (fun z26 _ ⟨rfl, lz26, uz26⟩ => ?_)
        obtain ⟨M27, e27, hH27, hF27, k27, n27, _⟩ := mup hH25 hF25 (c := 131) (i := 1) (v := z26) (A := (-2147483648)) (B := 2147483647) rfl ⟨by omega, by omega⟩ (jin_of 0 rfl ⟨by omega, by omega⟩)
        refine jm_puti c1 hm rfl sh_131 rfl e27 ?_
        refine jx_load c1 hm rfl rfl rfl rfl ?_
        exact jx_reti c2 hm rfl rfl ⟨_, rfl, hH27, hF27, by omega, by omega⟩
       refine jx_load c1 hm rfl rfl rfl rfl ?_
       refine jx_load c1 hm rfl rfl rfl rfl ?_
       refine jx_load c1 hm rfl rfl rfl rfl ?_
       refine jx_load c1 hm rfl rfl rfl rfl ?_
       refine jx_load c1 hm rfl rfl rfl rfl ?_
       refine jv_i c3 hm rfl pj_X3_mayHavePaid rfl rfl ⟨_, _, _, rfl, sh_131⟩ rfl ((ct_X3_mayHavePaid_131_5_2 X (by omega) M12 hH12 b11 ⟨by omega, by omega⟩ a0 ⟨by omega, by omega⟩).le (by decide)) (fun z17 M18 ⟨hH18, hR18, lz17, uz17⟩ => ?_)
       have hF18 := hF12.tr hR18 (by decide +kernel)
       have J23 : ∀ (b22 : Int) (hb22 : (-2147483648) ≤ b22 ∧ b22 ≤ 2147483647), F 94 [some (.inr (.inr (.inl 131))), some (.inr (.inr (.inl 5))), some (.inr (.inr (.inl 2))), some (.inl a0), some (.inl b22), some (.inl b11)] [] M18 := by
        intro b22 hb22
        refine jx_iinc c1 hm (v := (b11 + 1)) (L' := [some (.inr (.inr (.inl 131))), some (.inr (.inr (.inl 5))), some (.inr (.inr (.inl 2))), some (.inl a0), some (.inl b22), some (.inl (b11 + 1))]) rfl rfl (by omega) (by omega) rfl ?_
        refine jx_goto c1 hm 64 rfl rfl ?_
        exact ihW13 b22 (by omega) (b11 + 1) (by omega) M18 hH18 hF18 (by omega)
       refine jz_eq c1 hm 94 rfl rfl (fun h19 => ?_) (fun h19 => ?_)
       ·
        exact J23 b10 (by omega)
       refine jx_load c1 hm rfl rfl rfl rfl ?_
       refine jy_ic c1 hm rfl (by decide) ?_
       refine jx_load c1 hm rfl rfl rfl rfl ?_
       refine jy_sh1 c1 hm rfl ⟨by omega, by omega⟩ (fun z20 lz20 uz20 => ?_)
       refine jx_iopw c1 hm rfl rfl (fun z21 lz21 uz21 => ?_)
       refine jx_stor c1 hm (L' := [some (.inr (.inr (.inl 131))), some (.inr (.inr (.inl 5))), some (.inr (.inr (.inl 2))), some (.inl a0), some (.inl z21), some (.inl b11)]) rfl rfl rfl rfl rfl ?_
       exact J23 z21 (by omega)
     exact W13 (6 + 1 : Int).toNat 0 (by omega) 0 (by omega) M0 hH0 hF0 (by omega)
    refine jx_load c1 hm rfl rfl rfl rfl ?_
    refine jy_ic c1 hm rfl (by decide) ?_
    refine jx_load c1 hm rfl rfl rfl rfl ?_
    refine jx_load c1 hm rfl rfl rfl rfl ?_
    obtain ⟨z28, k29, lz28, uz28⟩ := hH0.ld (c := 2) (i := (b6).toNat) (A := (-128)) (B := 127) rfl
    refine jx_bald c1 hm rfl sh_2 rfl ⟨by omega, by omega⟩ k29 ?_
    refine jy_sp c1 hm rfl (by decide) ?_
    refine jy_anr c1 hm rfl ⟨by omega, by omega⟩ (fun z30 lz30 uz30 => ?_)
    refine jv_i c3 hm rfl pj_X2_has rfl rfl ⟨_, _, _, rfl, sh_5⟩ rfl ((ct_X2_has_5 X (by omega) M0 hH0 1 ⟨by omega, by omega⟩ z30 ⟨by omega, by omega⟩).le (by decide)) (fun z31 _ ⟨rfl, lz31, uz31, p32⟩ => ?_)
    refine jz_ne c1 hm 52 rfl rfl (fun h33 => ?_) (fun h33 => ?_)
    ·
     refine jx_iinc c1 hm (v := (b6 + 2)) (L' := [some (.inr (.inr (.inl 131))), some (.inr (.inr (.inl 5))), some (.inr (.inr (.inl 2))), some (.inl a0), some (.inl (b6 + 2)), none]) rfl rfl (by omega) (by omega) rfl ?_
     refine jx_goto c1 hm 28 rfl rfl ?_
     exact ihW7 (b6 + 2) (by omega) (by omega)
    refine jy_ic c1 hm rfl (by decide) ?_
    exact jx_reti c2 hm rfl rfl ⟨_, rfl, hH0, hF0, by omega, by omega⟩
  exact W7 (21 + 1 : Int).toNat 0 (by omega) (by omega)
 exfalso; omega
def md_X11_fits_0 : List (Nat × (Nat × Nat)) := [(0, (2, 2)), (131, (1, 1)), (132, (0, 5))]
theorem ct_X11_fits_0 (X : Int) (hX : 0 ≤ X ∧ X ≤ 100000000) (M0 : JM) (hH0 : HI X M0)  : JOk shp PJ 5 40 [.inr (.inr (.inl 0))] M0 (jRi (fun v M' => HI X M' ∧ Fr md_X11_fits_0 M0 M' ∧ (-2147483648) ≤ v ∧ v ≤ 2147483647 )) := by
 refine ⟨jr_X11_fits, pj_X11_fits, fun F c1 c2 c3 => ?_⟩
 have hm := pj_X11_fits
 change F 0 [some (.inr (.inr (.inl 0))), none] [] M0
 have hF0 : Fr md_X11_fits_0 M0 M0 := Fr.rf _ _
 refine jx_load c1 hm rfl rfl rfl rfl ?_
 obtain ⟨z1, k2, lz1, uz1⟩ := hH0.ld (c := 0) (i := 2) (A := 0) (B := 940) (bs_18_1 _ _ (by omega) (by omega))
 refine jx_geti c1 hm rfl sh_0 rfl k2 ?_
 refine jx_stor c1 hm (L' := [some (.inr (.inr (.inl 0))), some (.inl z1)]) rfl rfl rfl rfl rfl ?_
 refine jx_load c1 hm rfl rfl rfl rfl ?_
 refine jy_ic c1 hm rfl (by decide) ?_
 obtain ⟨M3, e3, hH3, hF3, k3, n3, _⟩ := mup hH0 hF0 (c := 0) (i := 2) (v := 0) (A := 0) (B := 940) (bs_18_1 _ _ (by omega) (by omega)) ⟨by omega, by omega⟩ (jin_of 0 rfl ⟨by omega, by omega⟩)
 refine jm_puti c1 hm rfl sh_0 rfl e3 ?_
 refine jx_load c1 hm rfl rfl rfl rfl ?_
 refine jx_getr c1 hm rfl sh_0 rfl ?_
 refine jx_load c1 hm rfl rfl rfl rfl ?_
 refine jx_getr c1 hm rfl sh_0 rfl ?_
 refine jx_load c1 hm rfl rfl rfl rfl ?_
 refine jx_getr c1 hm rfl sh_0 rfl ?_
 refine jx_load c1 hm rfl rfl rfl rfl ?_
 refine jv_i c3 hm rfl pj_X3_find rfl rfl ⟨_, _, _, rfl, sh_131⟩ rfl ((ct_X3_find_131_5_2 X (by omega) M3 hH3 z1 ⟨by omega, by omega⟩).le (by decide)) (fun z4 M5 ⟨hH5, hR5, lz4, uz4⟩ => ?_)
 have hF5 := hF3.tr hR5 (by decide +kernel)
 exact jx_reti c2 hm rfl rfl ⟨_, rfl, hH5, hF5, by omega, by omega⟩
theorem ct_X11_tells_0 (X : Int) (hX : 0 ≤ X ∧ X ≤ 100000000) (M0 : JM) (hH0 : HI X M0)  : JOk shp PJ 1 71 [.inr (.inr (.inl 0))] M0 (jRi (fun v M' => M0 = M' ∧ (-2147483648) ≤ v ∧ v ≤ 2147483647 )) := by
 refine ⟨jr_X11_tells, pj_X11_tells, fun F c1 c2 c3 => ?_⟩
 have hm := pj_X11_tells
 change F 0 [some (.inr (.inr (.inl 0)))] [] M0
 refine jx_load c1 hm rfl rfl rfl rfl ?_
 refine jx_getr c1 hm rfl sh_0 rfl ?_
 obtain ⟨z1, k2, lz1, uz1⟩ := hH0.ld (c := 131) (i := 1) (A := (-2147483648)) (B := 2147483647) rfl
 refine jx_geti c1 hm rfl sh_131 rfl k2 ?_
 exact jx_reti c2 hm rfl rfl ⟨_, rfl, rfl, by omega, by omega⟩
theorem ct_X11_prideWithin_0 (X : Int) (hX : 0 ≤ X ∧ X ≤ 100000000) (M0 : JM) (hH0 : HI X M0) (a0 : Int) (ha0 : (-2147483648) ≤ a0 ∧ a0 ≤ 2147483647) (a1 : Int) (ha1 : 0 ≤ a1 ∧ a1 ≤ 5) : JOk shp PJ 1 57 [.inr (.inr (.inl 0)), .inl a0, .inl a1] M0 (jRi (fun v M' => M0 = M' ∧ (-2147483648) ≤ v ∧ v ≤ 2147483647 )) := by
 refine ⟨jr_X11_prideWithin, pj_X11_prideWithin, fun F c1 c2 c3 => ?_⟩
 have hm := pj_X11_prideWithin
 change F 0 [some (.inr (.inr (.inl 0))), some (.inl a0), some (.inl a1)] [] M0
 refine jx_load c1 hm rfl rfl rfl rfl ?_
 refine jx_load c1 hm rfl rfl rfl rfl ?_
 refine jx_iopw c1 hm rfl rfl (fun z1 lz1 uz1 => ?_)
 refine jy_ic c1 hm rfl (by decide) ?_
 refine jy_anr c1 hm rfl ⟨by omega, by omega⟩ (fun z2 lz2 uz2 => ?_)
 refine jy_ic c1 hm rfl (by decide) ?_
 refine jc_ne c1 hm 24 rfl rfl (fun h3 => ?_) (fun h3 => ?_)
 ·
  refine jy_ic c1 hm rfl (by decide) ?_
  exact jx_reti c2 hm rfl rfl ⟨_, rfl, rfl, by omega, by omega⟩
 refine jx_load c1 hm rfl rfl rfl rfl ?_
 refine jx_getr c1 hm rfl sh_0 rfl ?_
 refine jx_getr c1 hm rfl sh_5 rfl ?_
 refine jx_getr c1 hm rfl sh_12 rfl ?_
 refine jx_load c1 hm rfl rfl rfl rfl ?_
 obtain ⟨z4, k5, lz4, uz4⟩ := hH0.ld (c := 13) (i := (a1).toNat) (A := (-2147483648)) (B := 2147483647) rfl
 refine jx_iald c1 hm rfl sh_13 ⟨by omega, by omega⟩ k5 ?_
 refine jx_goto c1 hm 25 rfl rfl ?_
 exact jx_reti c2 hm rfl rfl ⟨_, rfl, rfl, by omega, by omega⟩
theorem ct_X11_share_0 (X : Int) (hX : 0 ≤ X ∧ X ≤ 100000000) (M0 : JM) (hH0 : HI X M0) (a0 : Int) (ha0 : (-2147483648) ≤ a0 ∧ a0 ≤ 2147483647) (a1 : Int) (ha1 : (-2147483648) ≤ a1 ∧ a1 ≤ 2147483647) (a2 : Int) (ha2 : (-2147483648) ≤ a2 ∧ a2 ≤ 2147483647) : JOk shp PJ 2 65 [.inr (.inr (.inl 0)), .inl a0, .inl a1, .inl a2] M0 (jRi (fun v M' => M0 = M' ∧ (-2147483648) ≤ v ∧ v ≤ 2147483647 )) := by
 refine ⟨jr_X11_share, pj_X11_share, fun F c1 c2 c3 => ?_⟩
 have hm := pj_X11_share
 change F 0 [some (.inr (.inr (.inl 0))), some (.inl a0), some (.inl a1), some (.inl a2), none, none, none, none, none, none] [] M0
 refine jx_load c1 hm rfl rfl rfl rfl ?_
 refine jz_lt c1 hm 43 rfl rfl (fun h1 => ?_) (fun h1 => ?_)
 ·
  refine jy_ic c1 hm rfl (by decide) ?_
  exact jx_reti c2 hm rfl rfl ⟨_, rfl, rfl, by omega, by omega⟩
 refine jx_load c1 hm rfl rfl rfl rfl ?_
 refine jy_sp c1 hm rfl (by decide) ?_
 refine jc_gt c1 hm 43 rfl rfl (fun h2 => ?_) (fun h2 => ?_)
 ·
  refine jy_ic c1 hm rfl (by decide) ?_
  exact jx_reti c2 hm rfl rfl ⟨_, rfl, rfl, by omega, by omega⟩
 refine jx_load c1 hm rfl rfl rfl rfl ?_
 refine jx_getr c1 hm rfl sh_0 rfl ?_
 refine jy_ic c1 hm rfl (by decide) ?_
 refine jx_load c1 hm rfl rfl rfl rfl ?_
 refine jv_i c3 hm rfl pj_X2_has rfl rfl ⟨_, _, _, rfl, sh_5⟩ rfl ((ct_X2_has_5 X (by omega) M0 hH0 0 ⟨by omega, by omega⟩ a2 ⟨by omega, by omega⟩).le (by decide)) (fun z3 _ ⟨rfl, lz3, uz3, p4⟩ => ?_)
 refine jz_eq c1 hm 43 rfl rfl (fun h5 => ?_) (fun h5 => ?_)
 ·
  refine jy_ic c1 hm rfl (by decide) ?_
  exact jx_reti c2 hm rfl rfl ⟨_, rfl, rfl, by omega, by omega⟩
 refine jx_load c1 hm rfl rfl rfl rfl ?_
 refine jx_load c1 hm rfl rfl rfl rfl ?_
 refine jx_getr c1 hm rfl sh_0 rfl ?_
 refine jv_i c3 hm rfl pj_X2_men rfl rfl ⟨_, _, _, rfl, sh_5⟩ rfl ((ct_X2_men_5 X (by omega) M0 hH0 ).le (by decide)) (fun z6 _ ⟨rfl, lz6, uz6⟩ => ?_)
 refine jx_iopw c1 hm rfl rfl (fun z7 lz7 uz7 => ?_)
 refine jz_ne c1 hm 43 rfl rfl (fun h8 => ?_) (fun h8 => ?_)
 ·
  refine jy_ic c1 hm rfl (by decide) ?_
  exact jx_reti c2 hm rfl rfl ⟨_, rfl, rfl, by omega, by omega⟩
 refine jx_load c1 hm rfl rfl rfl rfl ?_
 refine jx_load c1 hm rfl rfl rfl rfl ?_
 refine jx_iopw c1 hm rfl rfl (fun z9 lz9 uz9 => ?_)
 refine jy_ic c1 hm rfl (by decide) ?_
 refine jy_anr c1 hm rfl ⟨by omega, by omega⟩ (fun z10 lz10 uz10 => ?_)
 refine jz_ne c1 hm 45 rfl rfl (fun h11 => ?_) (fun h11 => ?_)
 ·
  refine jy_ic c1 hm rfl (by decide) ?_
  refine jx_stor c1 hm (L' := [some (.inr (.inr (.inl 0))), some (.inl a0), some (.inl a1), some (.inl a2), some (.inl 0), none, none, none, none, none]) rfl rfl rfl rfl rfl ?_
  refine jy_ic c1 hm rfl (by decide) ?_
  refine jx_stor c1 hm (L' := [some (.inr (.inr (.inl 0))), some (.inl a0), some (.inl a1), some (.inl a2), some (.inl 0), some (.inl 0), none, none, none, none]) rfl rfl rfl rfl rfl ?_
  have W14 : ∀ (n15 : Nat) (b12 : Int) (hb12 : (-2147483648) ≤ b12 ∧ b12 ≤ 2147483647) (b13 : Int) (hb13 : 0 ≤ b13 ∧ b13 ≤ 6), (-b13 + 6) < (n15 : Int) → F 51 [some (.inr (.inr (.inl 0))), some (.inl a0), some (.inl a1), some (.inl a2), some (.inl b12), some (.inl b13), none, none, none, none] [] M0 := by
   intro n15
   induction n15 with
   | zero => intros; omega
   | succ n15 ihW14 =>
    intro b12 hb12 b13 hb13 hrW14
    refine jx_load c1 hm rfl rfl rfl rfl ?_
    refine jx_load c1 hm rfl rfl rfl rfl ?_
    refine jx_getr c1 hm rfl sh_0 rfl ?_
    refine jv_i c3 hm rfl pj_X2_men rfl rfl ⟨_, _, _, rfl, sh_5⟩ rfl ((ct_X2_men_5 X (by omega) M0 hH0 ).le (by decide)) (fun z16 _ ⟨rfl, lz16, uz16⟩ => ?_)
    refine jc_ge c1 hm 81 rfl rfl (fun h17 => ?_) (fun h17 => ?_)
    ·
     refine jx_load c1 hm rfl rfl rfl rfl ?_
     refine jz_gt c1 hm 88 rfl rfl (fun h20 => ?_) (fun h20 => ?_)
     ·
      refine jx_load c1 hm rfl rfl rfl rfl ?_
      refine jx_stor c1 hm (L' := [some (.inr (.inr (.inl 0))), some (.inl a0), some (.inl a1), some (.inl a2), some (.inl b12), some (.inl a0), none, none, none, none]) rfl rfl rfl rfl rfl ?_
      refine jy_ic c1 hm rfl (by decide) ?_
      refine jx_stor c1 hm (L' := [some (.inr (.inr (.inl 0))), some (.inl a0), some (.inl a1), some (.inl a2), some (.inl b12), some (.inl a0), some (.inl 0), none, none, none]) rfl rfl rfl rfl rfl ?_
      refine jx_load c1 hm rfl rfl rfl rfl ?_
      refine jx_load c1 hm rfl rfl rfl rfl ?_
      refine jx_load c1 hm rfl rfl rfl rfl ?_
      refine jx_load c1 hm rfl rfl rfl rfl ?_
      refine jv_i c3 hm rfl pj_X11_prideWithin rfl rfl ⟨_, _, _, rfl, sh_0⟩ rfl ((ct_X11_prideWithin_0 X (by omega) M0 hH0 a1 ⟨by omega, by omega⟩ a2 ⟨by omega, by omega⟩).le (by decide)) (fun z21 _ ⟨rfl, lz21, uz21⟩ => ?_)
      refine jx_iopw c1 hm rfl rfl (fun z22 lz22 uz22 => ?_)
      refine jx_load c1 hm rfl rfl rfl rfl ?_
      refine jx_idvw c1 hm rfl rfl (by omega) (fun z23 lz23 uz23 => ?_)
      refine jx_stor c1 hm (L' := [some (.inr (.inr (.inl 0))), some (.inl a0), some (.inl a1), some (.inl a2), some (.inl b12), some (.inl a0), some (.inl 0), some (.inl z23), none, none]) rfl rfl rfl rfl rfl ?_
      refine jy_ic c1 hm rfl (by decide) ?_
      refine jx_stor c1 hm (L' := [some (.inr (.inr (.inl 0))), some (.inl a0), some (.inl a1), some (.inl a2), some (.inl b12), some (.inl a0), some (.inl 0), some (.inl z23), some (.inl 0), none]) rfl rfl rfl rfl rfl ?_
      have W29 : ∀ (n30 : Nat) (b24 : Int) (hb24 : (-2147483648) ≤ b24 ∧ b24 ≤ 2147483647) (b25 : Int) (hb25 : 0 ≤ b25 ∧ b25 ≤ 6) (b26 : Int) (hb26 : 0 ≤ b26 ∧ b26 ≤ 6) (o27 : Option JV) (ho27 : o27 = none ∨ (∃ z, o27 = some (.inl z)) ∨ ∃ r, o27 = some (.inr (.inr r))) (h28 : b25 ≤ b26), (-b26 + 6) < (n30 : Int) → F 110 [some (.inr (.inr (.inl 0))), some (.inl a0), some (.inl a1), some (.inl a2), some (.inl b12), some (.inl b24), some (.inl b25), some (.inl z23), some (.inl b26), o27] [] M0 := by
       intro n30
       induction n30 with
       | zero => intros; omega
       | succ n30 ihW29 =>
        intro b24 hb24 b25 hb25 b26 hb26 o27 ho27 h28 hrW29
        refine jx_load c1 hm rfl rfl rfl rfl ?_
        refine jx_load c1 hm rfl rfl rfl rfl ?_
        refine jx_getr c1 hm rfl sh_0 rfl ?_
        refine jv_i c3 hm rfl pj_X2_men rfl rfl ⟨_, _, _, rfl, sh_5⟩ rfl ((ct_X2_men_5 X (by omega) M0 hH0 ).le (by decide)) (fun z31 _ ⟨rfl, lz31, uz31⟩ => ?_)
        refine jc_ge c1 hm 188 rfl rfl (fun h32 => ?_) (fun h32 => ?_)
        ·
         refine jx_load c1 hm rfl rfl rfl rfl ?_
         refine jx_load c1 hm rfl rfl rfl rfl ?_
         refine jx_load c1 hm rfl rfl rfl rfl ?_
         refine jx_load c1 hm rfl rfl rfl rfl ?_
         refine jv_i c3 hm rfl pj_X11_prideWithin rfl rfl ⟨_, _, _, rfl, sh_0⟩ rfl ((ct_X11_prideWithin_0 X (by omega) M0 hH0 a1 ⟨by omega, by omega⟩ a2 ⟨by omega, by omega⟩).le (by decide)) (fun z48 _ ⟨rfl, lz48, uz48⟩ => ?_)
         refine jx_iopw c1 hm rfl rfl (fun z49 lz49 uz49 => ?_)
         refine jx_load c1 hm rfl rfl rfl rfl ?_
         refine jx_idvw c1 hm rfl rfl (by omega) (fun z50 lz50 uz50 => ?_)
         refine jx_load c1 hm rfl rfl rfl rfl ?_
         refine jx_load c1 hm rfl rfl rfl rfl ?_
         refine jc_ge c1 hm 210 rfl rfl (fun h51 => ?_) (fun h51 => ?_)
         ·
          refine jy_ic c1 hm rfl (by decide) ?_
          refine jy_add c1 hm z50 rfl (by omega) ?_
          exact jx_reti c2 hm rfl rfl ⟨_, rfl, rfl, by omega, by omega⟩
         refine jy_ic c1 hm rfl (by decide) ?_
         refine jx_goto c1 hm 211 rfl rfl ?_
         refine jx_iopw c1 hm rfl rfl (fun z52 lz52 uz52 => ?_)
         exact jx_reti c2 hm rfl rfl ⟨_, rfl, rfl, by omega, by omega⟩
        refine jx_load c1 hm rfl rfl rfl rfl ?_
        refine jx_load c1 hm rfl rfl rfl rfl ?_
        refine jx_load c1 hm rfl rfl rfl rfl ?_
        refine jx_load c1 hm rfl rfl rfl rfl ?_
        refine jv_i c3 hm rfl pj_X11_prideWithin rfl rfl ⟨_, _, _, rfl, sh_0⟩ rfl ((ct_X11_prideWithin_0 X (by omega) M0 hH0 a1 ⟨by omega, by omega⟩ b26 ⟨by omega, by omega⟩).le (by decide)) (fun z33 _ ⟨rfl, lz33, uz33⟩ => ?_)
        refine jx_iopw c1 hm rfl rfl (fun z34 lz34 uz34 => ?_)
        refine jx_stor c1 hm (L' := [some (.inr (.inr (.inl 0))), some (.inl a0), some (.inl a1), some (.inl a2), some (.inl b12), some (.inl b24), some (.inl b25), some (.inl z23), some (.inl b26), some (.inl z34)]) rfl rfl rfl rfl rfl ?_
        refine jx_load c1 hm rfl rfl rfl rfl ?_
        refine jx_load c1 hm rfl rfl rfl rfl ?_
        refine jx_load c1 hm rfl rfl rfl rfl ?_
        refine jx_idvw c1 hm rfl rfl (by omega) (fun z35 lz35 uz35 => ?_)
        refine jx_iopw c1 hm rfl rfl (fun z36 lz36 uz36 => ?_)
        refine jx_stor c1 hm (L' := [some (.inr (.inr (.inl 0))), some (.inl a0), some (.inl a1), some (.inl a2), some (.inl b12), some (.inl z36), some (.inl b25), some (.inl z23), some (.inl b26), some (.inl z34)]) rfl rfl rfl rfl rfl ?_
        refine jx_load c1 hm rfl rfl rfl rfl ?_
        refine jx_load c1 hm rfl rfl rfl rfl ?_
        refine jx_iopw c1 hm rfl rfl (fun z37 lz37 uz37 => ?_)
        refine jy_ic c1 hm rfl (by decide) ?_
        refine jy_anr c1 hm rfl ⟨by omega, by omega⟩ (fun z38 lz38 uz38 => ?_)
        refine jy_ic c1 hm rfl (by decide) ?_
        have J47 : ∀ (b45 : Int) (hb45 : 0 ≤ b45 ∧ b45 ≤ 7) (h46 : b45 ≤ b26 + 1), F 182 [some (.inr (.inr (.inl 0))), some (.inl a0), some (.inl a1), some (.inl a2), some (.inl b12), some (.inl z36), some (.inl b45), some (.inl z23), some (.inl b26), some (.inl z34)] [] M0 := by
         intro b45 hb45 h46
         refine jx_iinc c1 hm (v := (b26 + 1)) (L' := [some (.inr (.inr (.inl 0))), some (.inl a0), some (.inl a1), some (.inl a2), some (.inl b12), some (.inl z36), some (.inl b45), some (.inl z23), some (.inl (b26 + 1)), some (.inl z34)]) rfl rfl (by omega) (by omega) rfl ?_
         refine jx_goto c1 hm 110 rfl rfl ?_
         exact ihW29 z36 (by omega) b45 (by omega) (b26 + 1) (by omega) (some (.inl z34)) (Or.inr (Or.inl ⟨_, rfl⟩)) (by omega) (by omega)
        refine jc_ne c1 hm 182 rfl rfl (fun h39 => ?_) (fun h39 => ?_)
        ·
         exact J47 b25 (by omega) (by omega)
        refine jx_load c1 hm rfl rfl rfl rfl ?_
        refine jx_load c1 hm rfl rfl rfl rfl ?_
        refine jx_idvw c1 hm rfl rfl (by omega) (fun z40 lz40 uz40 => ?_)
        refine jx_load c1 hm rfl rfl rfl rfl ?_
        refine jc_gt c1 hm 179 rfl rfl (fun h41 => ?_) (fun h41 => ?_)
        ·
         refine jx_iinc c1 hm (v := (b25 + 1)) (L' := [some (.inr (.inr (.inl 0))), some (.inl a0), some (.inl a1), some (.inl a2), some (.inl b12), some (.inl z36), some (.inl (b25 + 1)), some (.inl z23), some (.inl b26), some (.inl z34)]) rfl rfl (by omega) (by omega) rfl ?_
         exact J47 (b25 + 1) (by omega) (by omega)
        refine jx_load c1 hm rfl rfl rfl rfl ?_
        refine jx_load c1 hm rfl rfl rfl rfl ?_
        refine jx_idvw c1 hm rfl rfl (by omega) (fun z42 lz42 uz42 => ?_)
        refine jx_load c1 hm rfl rfl rfl rfl ?_
        refine jc_ne c1 hm 182 rfl rfl (fun h43 => ?_) (fun h43 => ?_)
        ·
         exact J47 b25 (by omega) (by omega)
        refine jx_load c1 hm rfl rfl rfl rfl ?_
        refine jx_load c1 hm rfl rfl rfl rfl ?_
        refine jc_ge c1 hm 182 rfl rfl (fun h44 => ?_) (fun h44 => ?_)
        ·
         exact J47 b25 (by omega) (by omega)
        refine jx_iinc c1 hm (v := (b25 + 1)) (L' := [some (.inr (.inr (.inl 0))), some (.inl a0), some (.inl a1), some (.inl a2), some (.inl b12), some (.inl z36), some (.inl (b25 + 1)), some (.inl z23), some (.inl b26), some (.inl z34)]) rfl rfl (by omega) (by omega) rfl ?_
        exact J47 (b25 + 1) (by omega) (by omega)
      exact W29 (6 + 1 : Int).toNat a0 (by omega) 0 (by omega) 0 (by omega) none (Or.inl rfl) (by omega) (by omega)
     refine jy_ic c1 hm rfl (by decide) ?_
     exact jx_reti c2 hm rfl rfl ⟨_, rfl, rfl, by omega, by omega⟩
    refine jx_load c1 hm rfl rfl rfl rfl ?_
    refine jx_load c1 hm rfl rfl rfl rfl ?_
    refine jx_load c1 hm rfl rfl rfl rfl ?_
    refine jx_load c1 hm rfl rfl rfl rfl ?_
    refine jv_i c3 hm rfl pj_X11_prideWithin rfl rfl ⟨_, _, _, rfl, sh_0⟩ rfl ((ct_X11_prideWithin_0 X (by omega) M0 hH0 a1 ⟨by omega, by omega⟩ b13 ⟨by omega, by omega⟩).le (by decide)) (fun z18 _ ⟨rfl, lz18, uz18⟩ => ?_)
    refine jx_iopw c1 hm rfl rfl (fun z19 lz19 uz19 => ?_)
    refine jx_stor c1 hm (L' := [some (.inr (.inr (.inl 0))), some (.inl a0), some (.inl a1), some (.inl a2), some (.inl z19), some (.inl b13), none, none, none, none]) rfl rfl rfl rfl rfl ?_
    refine jx_iinc c1 hm (v := (b13 + 1)) (L' := [some (.inr (.inr (.inl 0))), some (.inl a0), some (.inl a1), some (.inl a2), some (.inl z19), some (.inl (b13 + 1)), none, none, none, none]) rfl rfl (by omega) (by omega) rfl ?_
    refine jx_goto c1 hm 51 rfl rfl ?_
    exact ihW14 z19 (by omega) (b13 + 1) (by omega) (by omega)
  exact W14 (6 + 1 : Int).toNat 0 (by omega) 0 (by omega) (by omega)
 refine jy_ic c1 hm rfl (by decide) ?_
 exact jx_reti c2 hm rfl rfl ⟨_, rfl, rfl, by omega, by omega⟩
def md_J7_fill_53178_128 : List (Nat × (Nat × Nat)) := [(128, (0, 35))]
theorem ct_J7_fill_53178_128 (X : Int) (hX : 0 ≤ X ∧ X ≤ 100000000) (M0 : JM) (hH0 : HI X M0) (a0 : Int) (ha0 : 0 ≤ a0 ∧ a0 ≤ 0) : JOk shp PJ 1 1 [.inr (.inr (.inl 128)), .inl a0] M0 (jRv (fun M' => HI X M' ∧ Fr md_J7_fill_53178_128 M0 M' )) := by
 refine ⟨jr_J7_fill_53178, pj_J7_fill_53178, fun F c1 c2 c3 => ?_⟩
 have hm := pj_J7_fill_53178
 change F 0 [some (.inr (.inr (.inl 128))), some (.inl a0), none, none] [] M0
 have hF0 : Fr md_J7_fill_53178_128 M0 M0 := Fr.rf _ _
 refine jy_ic c1 hm rfl (by decide) ?_
 refine jx_stor c1 hm (L' := [some (.inr (.inr (.inl 128))), some (.inl a0), some (.inl 0), none]) rfl rfl rfl rfl rfl ?_
 refine jx_load c1 hm rfl rfl rfl rfl ?_
 refine jx_alen c1 hm (v := 36) rfl sh_128 rfl rfl ?_
 refine jx_stor c1 hm (L' := [some (.inr (.inr (.inl 128))), some (.inl a0), some (.inl 0), some (.inl 36)]) rfl rfl rfl rfl rfl ?_
 have W3 : ∀ (n4 : Nat) (b1 : Int) (hb1 : 0 ≤ b1 ∧ b1 ≤ 36) (M2 : JM) (hH2 : HI (X) M2) (hF2 : Fr md_J7_fill_53178_128 M0 M2), (-b1 + 36) < (n4 : Int) → F 5 [some (.inr (.inr (.inl 128))), some (.inl a0), some (.inl b1), some (.inl 36)] [] M2 := by
  intro n4
  induction n4 with
  | zero => intros; omega
  | succ n4 ihW3 =>
   intro b1 hb1 M2 hH2 hF2 hrW3
   refine jx_load c1 hm rfl rfl rfl rfl ?_
   refine jx_load c1 hm rfl rfl rfl rfl ?_
   refine jc_ge c1 hm 20 rfl rfl (fun h5 => ?_) (fun h5 => ?_)
   ·
    exact jx_retv c2 hm rfl rfl ⟨rfl, hH2, hF2⟩
   refine jx_load c1 hm rfl rfl rfl rfl ?_
   refine jx_load c1 hm rfl rfl rfl rfl ?_
   refine jx_load c1 hm rfl rfl rfl rfl ?_
   obtain ⟨M6, e6, hH6, hF6, k6, n6, _⟩ := mup hH2 hF2 (c := 128) (i := (b1).toNat) (v := a0) (A := (-2147483648)) (B := 2147483647) rfl ⟨by omega, by omega⟩ (jin_of 0 rfl ⟨by omega, by omega⟩)
   refine jm_iast c1 hm rfl sh_128 ⟨by omega, by omega⟩ e6 ?_
   refine jx_iinc c1 hm (v := (b1 + 1)) (L' := [some (.inr (.inr (.inl 128))), some (.inl a0), some (.inl (b1 + 1)), some (.inl 36)]) rfl rfl (by omega) (by omega) rfl ?_
   refine jx_goto c1 hm 5 rfl rfl ?_
   exact ihW3 (b1 + 1) (by omega) M6 hH6 hF6 (by omega)
 exact W3 (36 + 1 : Int).toNat 0 (by omega) M0 hH0 hF0 (by omega)
def md_X9_fillCosts_127_5 : List (Nat × (Nat × Nat)) := [(128, (0, 35))]
theorem ct_X9_fillCosts_127_5 (X : Int) (hX : 0 ≤ X ∧ X ≤ 100000000) (M0 : JM) (hH0 : HI X M0)  : JOk shp PJ 3 269 [.inr (.inr (.inl 127)), .inr (.inr (.inl 5))] M0 (jRv (fun M' => HI X M' ∧ Fr md_X9_fillCosts_127_5 M0 M' )) := by
 refine ⟨jr_X9_fillCosts, pj_X9_fillCosts, fun F c1 c2 c3 => ?_⟩
 have hm := pj_X9_fillCosts
 change F 0 [some (.inr (.inr (.inl 127))), some (.inr (.inr (.inl 5))), none, none, none] [] M0
 have hF0 : Fr md_X9_fillCosts_127_5 M0 M0 := Fr.rf _ _
 refine jx_load c1 hm rfl rfl rfl rfl ?_
 refine jx_getr c1 hm rfl sh_127 rfl ?_
 refine jy_ic c1 hm rfl (by decide) ?_
 refine jt_v c3 hm rfl rfl pj_J7_fill_53178 rfl rfl rfl ((ct_J7_fill_53178_128 X (by omega) M0 hH0 0 ⟨by omega, by omega⟩).le (by decide)) (fun M1 ⟨hH1, hR1⟩ => ?_)
 have hF1 := hF0.tr hR1 (by decide +kernel)
 refine jy_ic c1 hm rfl (by decide) ?_
 refine jx_stor c1 hm (L' := [some (.inr (.inr (.inl 127))), some (.inr (.inr (.inl 5))), some (.inl 0), none, none]) rfl rfl rfl rfl rfl ?_
 have W6 : ∀ (n7 : Nat) (b2 : Int) (hb2 : 0 ≤ b2 ∧ b2 ≤ 6) (o3 : Option JV) (ho3 : o3 = none ∨ (∃ z, o3 = some (.inl z)) ∨ ∃ r, o3 = some (.inr (.inr r))) (o4 : Option JV) (ho4 : o4 = none ∨ (∃ z, o4 = some (.inl z)) ∨ ∃ r, o4 = some (.inr (.inr r))) (M5 : JM) (hH5 : HI (X) M5) (hF5 : Fr md_X9_fillCosts_127_5 M0 M5), (-b2 + 6) < (n7 : Int) → F 10 [some (.inr (.inr (.inl 127))), some (.inr (.inr (.inl 5))), some (.inl b2), o3, o4] [] M5 := by
  intro n7
  induction n7 with
  | zero => intros; omega
  | succ n7 ihW6 =>
   intro b2 hb2 o3 ho3 o4 ho4 M5 hH5 hF5 hrW6
   refine jx_load c1 hm rfl rfl rfl rfl ?_
   refine jx_load c1 hm rfl rfl rfl rfl ?_
   refine jv_i c3 hm rfl pj_X2_men rfl rfl ⟨_, _, _, rfl, sh_5⟩ rfl ((ct_X2_men_5 X (by omega) M5 hH5 ).le (by decide)) (fun z8 _ ⟨rfl, lz8, uz8⟩ => ?_)
   refine jc_ge c1 hm 83 rfl rfl (fun h9 => ?_) (fun h9 => ?_)
   ·
    exact jx_retv c2 hm rfl rfl ⟨rfl, hH5, hF5⟩
   refine jy_ic c1 hm rfl (by decide) ?_
   refine jx_stor c1 hm (L' := [some (.inr (.inr (.inl 127))), some (.inr (.inr (.inl 5))), some (.inl b2), some (.inl 0), o4]) rfl rfl rfl rfl rfl ?_
   have W13 : ∀ (n14 : Nat) (b10 : Int) (hb10 : 0 ≤ b10 ∧ b10 ≤ 6) (o11 : Option JV) (ho11 : o11 = none ∨ (∃ z, o11 = some (.inl z)) ∨ ∃ r, o11 = some (.inr (.inr r))) (M12 : JM) (hH12 : HI (X) M12) (hF12 : Fr md_X9_fillCosts_127_5 M0 M12), (-b10 + 6) < (n14 : Int) → F 20 [some (.inr (.inr (.inl 127))), some (.inr (.inr (.inl 5))), some (.inl b2), some (.inl b10), o11] [] M12 := by
    intro n14
    induction n14 with
    | zero => intros; omega
    | succ n14 ihW13 =>
     intro b10 hb10 o11 ho11 M12 hH12 hF12 hrW13
     refine jx_load c1 hm rfl rfl rfl rfl ?_
     refine jx_load c1 hm rfl rfl rfl rfl ?_
     refine jv_i c3 hm rfl pj_X2_forfeits rfl rfl ⟨_, _, _, rfl, sh_5⟩ rfl ((ct_X2_forfeits_5 X (by omega) M12 hH12 ).le (by decide)) (fun z15 _ ⟨rfl, lz15, uz15⟩ => ?_)
     refine jc_ge c1 hm 77 rfl rfl (fun h16 => ?_) (fun h16 => ?_)
     ·
      refine jx_iinc c1 hm (v := (b2 + 1)) (L' := [some (.inr (.inr (.inl 127))), some (.inr (.inr (.inl 5))), some (.inl (b2 + 1)), some (.inl b10), o11]) rfl rfl (by omega) (by omega) rfl ?_
      refine jx_goto c1 hm 10 rfl rfl ?_
      exact ihW6 (b2 + 1) (by omega) (some (.inl b10)) (Or.inr (Or.inl ⟨_, rfl⟩)) o11 ho11 M12 hH12 hF12 (by omega)
     refine jx_load c1 hm rfl rfl rfl rfl ?_
     refine jx_load c1 hm rfl rfl rfl rfl ?_
     refine jx_getr c1 hm rfl sh_5 rfl ?_
     refine jx_load c1 hm rfl rfl rfl rfl ?_
     refine jx_load c1 hm rfl rfl rfl rfl ?_
     refine jv_i c3 hm rfl pj_X2_costNow rfl rfl ⟨_, _, _, rfl, sh_5⟩ rfl ((ct_X2_costNow_5_12 X (by omega) M12 hH12 b2 ⟨by omega, by omega⟩ b10 ⟨by omega, by omega⟩).le (by decide)) (fun z17 _ ⟨rfl, lz17, uz17⟩ => ?_)
     refine jx_stor c1 hm (L' := [some (.inr (.inr (.inl 127))), some (.inr (.inr (.inl 5))), some (.inl b2), some (.inl b10), some (.inl z17)]) rfl rfl rfl rfl rfl ?_
     refine jx_load c1 hm rfl rfl rfl rfl ?_
     refine jx_getr c1 hm rfl sh_127 rfl ?_
     refine jx_load c1 hm rfl rfl rfl rfl ?_
     refine jy_bp c1 hm rfl (by decide) ?_
     refine jy_mul c1 hm (6 * b2) rfl (by omega) ?_
     refine jx_load c1 hm rfl rfl rfl rfl ?_
     refine jy_add c1 hm (b10 + 6 * b2) rfl (by omega) ?_
     refine jx_load c1 hm rfl rfl rfl rfl ?_
     refine jx_load c1 hm rfl rfl rfl rfl ?_
     refine jx_getr c1 hm rfl sh_5 rfl ?_
     refine jx_getr c1 hm rfl sh_12 rfl ?_
     refine jx_load c1 hm rfl rfl rfl rfl ?_
     obtain ⟨z18, k19, lz18, uz18⟩ := hH12.ld (c := 13) (i := (b2).toNat) (A := (-2147483648)) (B := 2147483647) rfl
     refine jx_iald c1 hm rfl sh_13 ⟨by omega, by omega⟩ k19 ?_
     have J22 : ∀ (b21 : Int) (hb21 : 0 ≤ b21 ∧ b21 ≤ 20), F 70 [some (.inr (.inr (.inl 127))), some (.inr (.inr (.inl 5))), some (.inl b2), some (.inl b10), some (.inl z17)] [.inl b21, .inl (b10 + 6 * b2), .inr (.inr (.inl 128))] M12 := by
      intro b21 hb21
      obtain ⟨M23, e23, hH23, hF23, k23, n23, _⟩ := mup hH12 hF12 (c := 128) (i := ((b10 + 6 * b2)).toNat) (v := b21) (A := (-2147483648)) (B := 2147483647) rfl ⟨by omega, by omega⟩ (jin_of 0 rfl ⟨by omega, by omega⟩)
      refine jm_iast c1 hm rfl sh_128 ⟨by omega, by omega⟩ e23 ?_
      refine jx_iinc c1 hm (v := (b10 + 1)) (L' := [some (.inr (.inr (.inl 127))), some (.inr (.inr (.inl 5))), some (.inl b2), some (.inl (b10 + 1)), some (.inl z17)]) rfl rfl (by omega) (by omega) rfl ?_
      refine jx_goto c1 hm 20 rfl rfl ?_
      exact ihW13 (b10 + 1) (by omega) (some (.inl z17)) (Or.inr (Or.inl ⟨_, rfl⟩)) M23 hH23 hF23 (by omega)
     refine jc_gt c1 hm 69 rfl rfl (fun h20 => ?_) (fun h20 => ?_)
     ·
      refine jy_ic c1 hm rfl (by decide) ?_
      exact J22 0 (by omega)
     refine jx_load c1 hm rfl rfl rfl rfl ?_
     refine jx_goto c1 hm 70 rfl rfl ?_
     exact J22 z17 (by omega)
   exact W13 (6 + 1 : Int).toNat 0 (by omega) o4 ho4 M5 hH5 hF5 (by omega)
 exact W6 (6 + 1 : Int).toNat 0 (by omega) none (Or.inl rfl) none (Or.inl rfl) M1 hH1 hF1 (by omega)
theorem ct_X9_dearest_127 (X : Int) (hX : 0 ≤ X ∧ X ≤ 100000000) (M0 : JM) (hH0 : HI X M0) (a0 : Int) (ha0 : 0 ≤ a0 ∧ a0 ≤ 5) (a1 : Int) (ha1 : 0 ≤ a1 ∧ a1 ≤ 20) : JOk shp PJ 1 267 [.inr (.inr (.inl 127)), .inl a0, .inl a1] M0 (jRi (fun v M' => M0 = M' ∧ 0 ≤ v ∧ v ≤ 20 )) := by
 refine ⟨jr_X9_dearest, pj_X9_dearest, fun F c1 c2 c3 => ?_⟩
 have hm := pj_X9_dearest
 change F 0 [some (.inr (.inr (.inl 127))), some (.inl a0), some (.inl a1), none, none, none] [] M0
 refine jy_ic c1 hm rfl (by decide) ?_
 refine jx_stor c1 hm (L' := [some (.inr (.inr (.inl 127))), some (.inl a0), some (.inl a1), some (.inl 0), none, none]) rfl rfl rfl rfl rfl ?_
 refine jy_ic c1 hm rfl (by decide) ?_
 refine jx_stor c1 hm (L' := [some (.inr (.inr (.inl 127))), some (.inl a0), some (.inl a1), some (.inl 0), some (.inl 0), none]) rfl rfl rfl rfl rfl ?_
 have W4 : ∀ (n5 : Nat) (b1 : Int) (hb1 : 0 ≤ b1 ∧ b1 ≤ 20) (b2 : Int) (hb2 : 0 ≤ b2 ∧ b2 ≤ 6) (o3 : Option JV) (ho3 : o3 = none ∨ (∃ z, o3 = some (.inl z)) ∨ ∃ r, o3 = some (.inr (.inr r))), (-b2 + 6) < (n5 : Int) → F 5 [some (.inr (.inr (.inl 127))), some (.inl a0), some (.inl a1), some (.inl b1), some (.inl b2), o3] [] M0 := by
  intro n5
  induction n5 with
  | zero => intros; omega
  | succ n5 ihW4 =>
   intro b1 hb1 b2 hb2 o3 ho3 hrW4
   refine jx_load c1 hm rfl rfl rfl rfl ?_
   refine jy_bp c1 hm rfl (by decide) ?_
   refine jc_ge c1 hm 47 rfl rfl (fun h6 => ?_) (fun h6 => ?_)
   ·
    refine jx_load c1 hm rfl rfl rfl rfl ?_
    exact jx_reti c2 hm rfl rfl ⟨_, rfl, rfl, by omega, by omega⟩
   refine jx_load c1 hm rfl rfl rfl rfl ?_
   refine jx_getr c1 hm rfl sh_127 rfl ?_
   refine jx_load c1 hm rfl rfl rfl rfl ?_
   refine jy_bp c1 hm rfl (by decide) ?_
   refine jy_mul c1 hm (6 * a0) rfl (by omega) ?_
   refine jx_load c1 hm rfl rfl rfl rfl ?_
   refine jy_add c1 hm (6 * a0 + b2) rfl (by omega) ?_
   obtain ⟨z7, k8, lz7, uz7⟩ := hH0.ld (c := 128) (i := ((6 * a0 + b2)).toNat) (A := (-2147483648)) (B := 2147483647) rfl
   refine jx_iald c1 hm rfl sh_128 ⟨by omega, by omega⟩ k8 ?_
   refine jx_stor c1 hm (L' := [some (.inr (.inr (.inl 127))), some (.inl a0), some (.inl a1), some (.inl b1), some (.inl b2), some (.inl z7)]) rfl rfl rfl rfl rfl ?_
   refine jx_load c1 hm rfl rfl rfl rfl ?_
   refine jx_load c1 hm rfl rfl rfl rfl ?_
   have J12 : ∀ (b11 : Int) (hb11 : 0 ≤ b11 ∧ b11 ≤ 20), F 41 [some (.inr (.inr (.inl 127))), some (.inl a0), some (.inl a1), some (.inl b11), some (.inl b2), some (.inl z7)] [] M0 := by
    intro b11 hb11
    refine jx_iinc c1 hm (v := (b2 + 1)) (L' := [some (.inr (.inr (.inl 127))), some (.inl a0), some (.inl a1), some (.inl b11), some (.inl (b2 + 1)), some (.inl z7)]) rfl rfl (by omega) (by omega) rfl ?_
    refine jx_goto c1 hm 5 rfl rfl ?_
    exact ihW4 b11 (by omega) (b2 + 1) (by omega) (some (.inl z7)) (Or.inr (Or.inl ⟨_, rfl⟩)) (by omega)
   refine jc_gt c1 hm 41 rfl rfl (fun h9 => ?_) (fun h9 => ?_)
   ·
    exact J12 b1 (by omega)
   refine jx_load c1 hm rfl rfl rfl rfl ?_
   refine jx_load c1 hm rfl rfl rfl rfl ?_
   refine jc_le c1 hm 41 rfl rfl (fun h10 => ?_) (fun h10 => ?_)
   ·
    exact J12 b1 (by omega)
   refine jx_load c1 hm rfl rfl rfl rfl ?_
   refine jx_stor c1 hm (L' := [some (.inr (.inr (.inl 127))), some (.inl a0), some (.inl a1), some (.inl z7), some (.inl b2), some (.inl z7)]) rfl rfl rfl rfl rfl ?_
   exact J12 z7 (by omega)
 exact W4 (6 + 1 : Int).toNat 0 (by omega) 0 (by omega) none (Or.inl rfl) (by omega)
theorem ct_X9_leastGreatest_127 (X : Int) (hX : 0 ≤ X ∧ X ≤ 100000000) (M0 : JM) (hH0 : HI X M0) (a0 : Int) (ha0 : 0 ≤ a0 ∧ a0 ≤ 200) : JOk shp PJ 2 271 [.inr (.inr (.inl 127)), .inl a0] M0 (jRi (fun v M' => M0 = M' ∧ (-1) ≤ v ∧ v ≤ 20 )) := by
 refine ⟨jr_X9_leastGreatest, pj_X9_leastGreatest, fun F c1 c2 c3 => ?_⟩
 have hm := pj_X9_leastGreatest
 change F 0 [some (.inr (.inr (.inl 127))), some (.inl a0), none, none, none] [] M0
 refine jy_ic c1 hm rfl (by decide) ?_
 refine jx_stor c1 hm (L' := [some (.inr (.inr (.inl 127))), some (.inl a0), some (.inl 0), none, none]) rfl rfl rfl rfl rfl ?_
 have W4 : ∀ (n5 : Nat) (b1 : Int) (hb1 : 0 ≤ b1 ∧ b1 ≤ 21) (o2 : Option JV) (ho2 : o2 = none ∨ (∃ z, o2 = some (.inl z)) ∨ ∃ r, o2 = some (.inr (.inr r))) (o3 : Option JV) (ho3 : o3 = none ∨ (∃ z, o3 = some (.inl z)) ∨ ∃ r, o3 = some (.inr (.inr r))), (-b1 + 21) < (n5 : Int) → F 2 [some (.inr (.inr (.inl 127))), some (.inl a0), some (.inl b1), o2, o3] [] M0 := by
  intro n5
  induction n5 with
  | zero => intros; omega
  | succ n5 ihW4 =>
   intro b1 hb1 o2 ho2 o3 ho3 hrW4
   refine jx_load c1 hm rfl rfl rfl rfl ?_
   refine jy_bp c1 hm rfl (by decide) ?_
   refine jc_gt c1 hm 49 rfl rfl (fun h6 => ?_) (fun h6 => ?_)
   ·
    refine jy_ic c1 hm rfl (by decide) ?_
    exact jx_reti c2 hm rfl rfl ⟨_, rfl, rfl, by omega, by omega⟩
   refine jy_ic c1 hm rfl (by decide) ?_
   refine jx_stor c1 hm (L' := [some (.inr (.inr (.inl 127))), some (.inl a0), some (.inl b1), some (.inl 0), o3]) rfl rfl rfl rfl rfl ?_
   refine jy_ic c1 hm rfl (by decide) ?_
   refine jx_stor c1 hm (L' := [some (.inr (.inr (.inl 127))), some (.inl a0), some (.inl b1), some (.inl 0), some (.inl 0)]) rfl rfl rfl rfl rfl ?_
   have W9 : ∀ (n10 : Nat) (b7 : Int) (hb7 : (-2147483648) ≤ b7 ∧ b7 ≤ 2147483647) (b8 : Int) (hb8 : 0 ≤ b8 ∧ b8 ≤ 6), (-b8 + 6) < (n10 : Int) → F 13 [some (.inr (.inr (.inl 127))), some (.inl a0), some (.inl b1), some (.inl b7), some (.inl b8)] [] M0 := by
    intro n10
    induction n10 with
    | zero => intros; omega
    | succ n10 ihW9 =>
     intro b7 hb7 b8 hb8 hrW9
     refine jx_load c1 hm rfl rfl rfl rfl ?_
     refine jy_bp c1 hm rfl (by decide) ?_
     refine jc_ge c1 hm 36 rfl rfl (fun h11 => ?_) (fun h11 => ?_)
     ·
      refine jx_load c1 hm rfl rfl rfl rfl ?_
      refine jx_load c1 hm rfl rfl rfl rfl ?_
      refine jc_lt c1 hm 43 rfl rfl (fun h14 => ?_) (fun h14 => ?_)
      ·
       refine jx_iinc c1 hm (v := (b1 + 1)) (L' := [some (.inr (.inr (.inl 127))), some (.inl a0), some (.inl (b1 + 1)), some (.inl b7), some (.inl b8)]) rfl rfl (by omega) (by omega) rfl ?_
       refine jx_goto c1 hm 2 rfl rfl ?_
       exact ihW4 (b1 + 1) (by omega) (some (.inl b7)) (Or.inr (Or.inl ⟨_, rfl⟩)) (some (.inl b8)) (Or.inr (Or.inl ⟨_, rfl⟩)) (by omega)
      refine jx_load c1 hm rfl rfl rfl rfl ?_
      exact jx_reti c2 hm rfl rfl ⟨_, rfl, rfl, by omega, by omega⟩
     refine jx_load c1 hm rfl rfl rfl rfl ?_
     refine jx_load c1 hm rfl rfl rfl rfl ?_
     refine jx_load c1 hm rfl rfl rfl rfl ?_
     refine jx_load c1 hm rfl rfl rfl rfl ?_
     refine jv_i c3 hm rfl pj_X9_dearest rfl rfl ⟨_, _, _, rfl, sh_127⟩ rfl ((ct_X9_dearest_127 X (by omega) M0 hH0 b8 ⟨by omega, by omega⟩ b1 ⟨by omega, by omega⟩).le (by decide)) (fun z12 _ ⟨rfl, lz12, uz12⟩ => ?_)
     refine jx_iopw c1 hm rfl rfl (fun z13 lz13 uz13 => ?_)
     refine jx_stor c1 hm (L' := [some (.inr (.inr (.inl 127))), some (.inl a0), some (.inl b1), some (.inl z13), some (.inl b8)]) rfl rfl rfl rfl rfl ?_
     refine jx_iinc c1 hm (v := (b8 + 1)) (L' := [some (.inr (.inr (.inl 127))), some (.inl a0), some (.inl b1), some (.inl z13), some (.inl (b8 + 1))]) rfl rfl (by omega) (by omega) rfl ?_
     refine jx_goto c1 hm 13 rfl rfl ?_
     exact ihW9 z13 (by omega) (b8 + 1) (by omega) (by omega)
   exact W9 (6 + 1 : Int).toNat 0 (by omega) 0 (by omega) (by omega)
 exact W4 (21 + 1 : Int).toNat 0 (by omega) none (Or.inl rfl) none (Or.inl rfl) (by omega)
theorem ct_X9_canPay_127 (X : Int) (hX : 0 ≤ X ∧ X ≤ 100000000) (M0 : JM) (hH0 : HI X M0) (a0 : Int) (ha0 : 0 ≤ a0 ∧ a0 ≤ 5) (a1 : Int) (ha1 : 0 ≤ a1 ∧ a1 ≤ 20) (a2 : Int) (ha2 : 0 ≤ a2 ∧ a2 ≤ 120) : JOk shp PJ 1 265 [.inr (.inr (.inl 127)), .inl a0, .inl a1, .inl a2] M0 (jRi (fun v M' => M0 = M' ∧ 0 ≤ v ∧ v ≤ 1 )) := by
 refine ⟨jr_X9_canPay, pj_X9_canPay, fun F c1 c2 c3 => ?_⟩
 have hm := pj_X9_canPay
 change F 0 [some (.inr (.inr (.inl 127))), some (.inl a0), some (.inl a1), some (.inl a2), none, none, none] [] M0
 refine jx_load c1 hm rfl rfl rfl rfl ?_
 refine jx_getr c1 hm rfl sh_127 rfl ?_
 refine jx_load c1 hm rfl rfl rfl rfl ?_
 refine jy_ic c1 hm rfl (by decide) ?_
 refine jy_add c1 hm (a0 + 1) rfl (by omega) ?_
 refine jy_bp c1 hm rfl (by decide) ?_
 refine jy_mul c1 hm (121 * a0 + 121) rfl (by omega) ?_
 refine jx_load c1 hm rfl rfl rfl rfl ?_
 refine jy_add c1 hm (121 * a0 + a2 + 121) rfl (by omega) ?_
 obtain ⟨z1, k2, lz1, uz1⟩ := hH0.ld (c := 129) (i := ((121 * a0 + a2 + 121)).toNat) (A := 0) (B := 1) rfl
 refine jx_bald c1 hm rfl sh_129 rfl ⟨by omega, by omega⟩ k2 ?_
 refine jx_stor c1 hm (L' := [some (.inr (.inr (.inl 127))), some (.inl a0), some (.inl a1), some (.inl a2), some (.inl z1), none, none]) rfl rfl rfl rfl rfl ?_
 refine jy_ic c1 hm rfl (by decide) ?_
 refine jx_stor c1 hm (L' := [some (.inr (.inr (.inl 127))), some (.inl a0), some (.inl a1), some (.inl a2), some (.inl z1), some (.inl 0), none]) rfl rfl rfl rfl rfl ?_
 have W6 : ∀ (n7 : Nat) (b3 : Int) (hb3 : 0 ≤ b3 ∧ b3 ≤ 1) (b4 : Int) (hb4 : 0 ≤ b4 ∧ b4 ≤ 6) (o5 : Option JV) (ho5 : o5 = none ∨ (∃ z, o5 = some (.inl z)) ∨ ∃ r, o5 = some (.inr (.inr r))), (-b4 + 6) < (n7 : Int) → F 18 [some (.inr (.inr (.inl 127))), some (.inl a0), some (.inl a1), some (.inl a2), some (.inl b3), some (.inl b4), o5] [] M0 := by
  intro n7
  induction n7 with
  | zero => intros; omega
  | succ n7 ihW6 =>
   intro b3 hb3 b4 hb4 o5 ho5 hrW6
   refine jx_load c1 hm rfl rfl rfl rfl ?_
   refine jy_bp c1 hm rfl (by decide) ?_
   refine jc_ge c1 hm 93 rfl rfl (fun h8 => ?_) (fun h8 => ?_)
   ·
    refine jx_load c1 hm rfl rfl rfl rfl ?_
    exact jx_retz c2 hm rfl rfl ⟨by omega, by omega⟩ ⟨_, rfl, rfl, by omega, by omega⟩
   refine jx_load c1 hm rfl rfl rfl rfl ?_
   refine jz_ne c1 hm 93 rfl rfl (fun h9 => ?_) (fun h9 => ?_)
   ·
    refine jx_load c1 hm rfl rfl rfl rfl ?_
    exact jx_retz c2 hm rfl rfl ⟨by omega, by omega⟩ ⟨_, rfl, rfl, by omega, by omega⟩
   refine jx_load c1 hm rfl rfl rfl rfl ?_
   refine jx_getr c1 hm rfl sh_127 rfl ?_
   refine jx_load c1 hm rfl rfl rfl rfl ?_
   refine jy_bp c1 hm rfl (by decide) ?_
   refine jy_mul c1 hm (6 * a0) rfl (by omega) ?_
   refine jx_load c1 hm rfl rfl rfl rfl ?_
   refine jy_add c1 hm (6 * a0 + b4) rfl (by omega) ?_
   obtain ⟨z10, k11, lz10, uz10⟩ := hH0.ld (c := 128) (i := ((6 * a0 + b4)).toNat) (A := (-2147483648)) (B := 2147483647) rfl
   refine jx_iald c1 hm rfl sh_128 ⟨by omega, by omega⟩ k11 ?_
   refine jx_stor c1 hm (L' := [some (.inr (.inr (.inl 127))), some (.inl a0), some (.inl a1), some (.inl a2), some (.inl b3), some (.inl b4), some (.inl z10)]) rfl rfl rfl rfl rfl ?_
   refine jx_load c1 hm rfl rfl rfl rfl ?_
   have J19 : ∀ (b18 : Int) (hb18 : 0 ≤ b18 ∧ b18 ≤ 1), F 85 [some (.inr (.inr (.inl 127))), some (.inl a0), some (.inl a1), some (.inl a2), some (.inl b3), some (.inl b4), some (.inl z10)] [.inl b18] M0 := by
    intro b18 hb18
    refine jx_stor c1 hm (L' := [some (.inr (.inr (.inl 127))), some (.inl a0), some (.inl a1), some (.inl a2), some (.inl b18), some (.inl b4), some (.inl z10)]) rfl rfl rfl rfl rfl ?_
    refine jx_iinc c1 hm (v := (b4 + 1)) (L' := [some (.inr (.inr (.inl 127))), some (.inl a0), some (.inl a1), some (.inl a2), some (.inl b18), some (.inl (b4 + 1)), some (.inl z10)]) rfl rfl (by omega) (by omega) rfl ?_
    refine jx_goto c1 hm 18 rfl rfl ?_
    exact ihW6 b18 (by omega) (b4 + 1) (by omega) (some (.inl z10)) (Or.inr (Or.inl ⟨_, rfl⟩)) (by omega)
   refine jz_le c1 hm 84 rfl rfl (fun h12 => ?_) (fun h12 => ?_)
   ·
    refine jy_ic c1 hm rfl (by decide) ?_
    exact J19 0 (by omega)
   refine jx_load c1 hm rfl rfl rfl rfl ?_
   refine jx_load c1 hm rfl rfl rfl rfl ?_
   refine jc_gt c1 hm 84 rfl rfl (fun h13 => ?_) (fun h13 => ?_)
   ·
    refine jy_ic c1 hm rfl (by decide) ?_
    exact J19 0 (by omega)
   refine jx_load c1 hm rfl rfl rfl rfl ?_
   refine jx_load c1 hm rfl rfl rfl rfl ?_
   refine jc_gt c1 hm 84 rfl rfl (fun h14 => ?_) (fun h14 => ?_)
   ·
    refine jy_ic c1 hm rfl (by decide) ?_
    exact J19 0 (by omega)
   refine jx_load c1 hm rfl rfl rfl rfl ?_
   refine jx_getr c1 hm rfl sh_127 rfl ?_
   refine jx_load c1 hm rfl rfl rfl rfl ?_
   refine jy_ic c1 hm rfl (by decide) ?_
   refine jy_add c1 hm (a0 + 1) rfl (by omega) ?_
   refine jy_bp c1 hm rfl (by decide) ?_
   refine jy_mul c1 hm (121 * a0 + 121) rfl (by omega) ?_
   refine jx_load c1 hm rfl rfl rfl rfl ?_
   refine jy_add c1 hm (121 * a0 + a2 + 121) rfl (by omega) ?_
   refine jx_load c1 hm rfl rfl rfl rfl ?_
   refine jy_sub c1 hm (121 * a0 + a2 - z10 + 121) rfl (by omega) ?_
   obtain ⟨z15, k16, lz15, uz15⟩ := hH0.ld (c := 129) (i := ((121 * a0 + a2 - z10 + 121)).toNat) (A := 0) (B := 1) rfl
   refine jx_bald c1 hm rfl sh_129 rfl ⟨by omega, by omega⟩ k16 ?_
   refine jz_eq c1 hm 84 rfl rfl (fun h17 => ?_) (fun h17 => ?_)
   ·
    refine jy_ic c1 hm rfl (by decide) ?_
    exact J19 0 (by omega)
   refine jy_ic c1 hm rfl (by decide) ?_
   refine jx_goto c1 hm 85 rfl rfl ?_
   exact J19 1 (by omega)
 exact W6 (6 + 1 : Int).toNat z1 (by omega) 0 (by omega) none (Or.inl rfl) (by omega)
def md_X9_fillCan_127 : List (Nat × (Nat × Nat)) := [(129, (0, 846))]
theorem ct_X9_fillCan_127 (X : Int) (hX : 0 ≤ X ∧ X ≤ 100000000) (M0 : JM) (hH0 : HI X M0) (a0 : Int) (ha0 : 0 ≤ a0 ∧ a0 ≤ 6) (a1 : Int) (ha1 : 0 ≤ a1 ∧ a1 ≤ 20) : JOk shp PJ 2 268 [.inr (.inr (.inl 127)), .inl a0, .inl a1] M0 (jRv (fun M' => HI X M' ∧ Fr md_X9_fillCan_127 M0 M' )) := by
 refine ⟨jr_X9_fillCan, pj_X9_fillCan, fun F c1 c2 c3 => ?_⟩
 have hm := pj_X9_fillCan
 change F 0 [some (.inr (.inr (.inl 127))), some (.inl a0), some (.inl a1), none, none] [] M0
 have hF0 : Fr md_X9_fillCan_127 M0 M0 := Fr.rf _ _
 refine jy_ic c1 hm rfl (by decide) ?_
 refine jx_stor c1 hm (L' := [some (.inr (.inr (.inl 127))), some (.inl a0), some (.inl a1), some (.inl 0), none]) rfl rfl rfl rfl rfl ?_
 have W3 : ∀ (n4 : Nat) (b1 : Int) (hb1 : 0 ≤ b1 ∧ b1 ≤ 121) (M2 : JM) (hH2 : HI (X) M2) (hF2 : Fr md_X9_fillCan_127 M0 M2), (-b1 + 121) < (n4 : Int) → F 2 [some (.inr (.inr (.inl 127))), some (.inl a0), some (.inl a1), some (.inl b1), none] [] M2 := by
  intro n4
  induction n4 with
  | zero => intros; omega
  | succ n4 ihW3 =>
   intro b1 hb1 M2 hH2 hF2 hrW3
   refine jx_load c1 hm rfl rfl rfl rfl ?_
   refine jy_bp c1 hm rfl (by decide) ?_
   refine jc_ge c1 hm 34 rfl rfl (fun h5 => ?_) (fun h5 => ?_)
   ·
    refine jx_load c1 hm rfl rfl rfl rfl ?_
    refine jy_ic c1 hm rfl (by decide) ?_
    refine jy_sub c1 hm (a0 - 1) rfl (by omega) ?_
    refine jx_stor c1 hm (L' := [some (.inr (.inr (.inl 127))), some (.inl a0), some (.inl a1), some (.inl (a0 - 1)), none]) rfl rfl rfl rfl rfl ?_
    have W13 : ∀ (n14 : Nat) (b10 : Int) (hb10 : (-1) ≤ b10 ∧ b10 ≤ 5) (o11 : Option JV) (ho11 : o11 = none ∨ (∃ z, o11 = some (.inl z)) ∨ ∃ r, o11 = some (.inr (.inr r))) (M12 : JM) (hH12 : HI (X) M12) (hF12 : Fr md_X9_fillCan_127 M0 M12), (b10 + 1) < (n14 : Int) → F 38 [some (.inr (.inr (.inl 127))), some (.inl a0), some (.inl a1), some (.inl b10), o11] [] M12 := by
     intro n14
     induction n14 with
     | zero => intros; omega
     | succ n14 ihW13 =>
      intro b10 hb10 o11 ho11 M12 hH12 hF12 hrW13
      refine jx_load c1 hm rfl rfl rfl rfl ?_
      refine jz_lt c1 hm 84 rfl rfl (fun h15 => ?_) (fun h15 => ?_)
      ·
       exact jx_retv c2 hm rfl rfl ⟨rfl, hH12, hF12⟩
      refine jy_ic c1 hm rfl (by decide) ?_
      refine jx_stor c1 hm (L' := [some (.inr (.inr (.inl 127))), some (.inl a0), some (.inl a1), some (.inl b10), some (.inl 0)]) rfl rfl rfl rfl rfl ?_
      have W18 : ∀ (n19 : Nat) (b16 : Int) (hb16 : 0 ≤ b16 ∧ b16 ≤ 121) (M17 : JM) (hH17 : HI (X) M17) (hF17 : Fr md_X9_fillCan_127 M0 M17), (-b16 + 121) < (n19 : Int) → F 45 [some (.inr (.inr (.inl 127))), some (.inl a0), some (.inl a1), some (.inl b10), some (.inl b16)] [] M17 := by
       intro n19
       induction n19 with
       | zero => intros; omega
       | succ n19 ihW18 =>
        intro b16 hb16 M17 hH17 hF17 hrW18
        refine jx_load c1 hm rfl rfl rfl rfl ?_
        refine jy_bp c1 hm rfl (by decide) ?_
        refine jc_ge c1 hm 78 rfl rfl (fun h20 => ?_) (fun h20 => ?_)
        ·
         refine jx_iinc c1 hm (v := (b10 - 1)) (L' := [some (.inr (.inr (.inl 127))), some (.inl a0), some (.inl a1), some (.inl (b10 - 1)), some (.inl b16)]) rfl rfl (by omega) (by omega) rfl ?_
         refine jx_goto c1 hm 38 rfl rfl ?_
         exact ihW13 (b10 - 1) (by omega) (some (.inl b16)) (Or.inr (Or.inl ⟨_, rfl⟩)) M17 hH17 hF17 (by omega)
        refine jx_load c1 hm rfl rfl rfl rfl ?_
        refine jx_getr c1 hm rfl sh_127 rfl ?_
        refine jx_load c1 hm rfl rfl rfl rfl ?_
        refine jy_bp c1 hm rfl (by decide) ?_
        refine jy_mul c1 hm (121 * b10) rfl (by omega) ?_
        refine jx_load c1 hm rfl rfl rfl rfl ?_
        refine jy_add c1 hm (121 * b10 + b16) rfl (by omega) ?_
        refine jx_load c1 hm rfl rfl rfl rfl ?_
        refine jx_load c1 hm rfl rfl rfl rfl ?_
        refine jx_load c1 hm rfl rfl rfl rfl ?_
        refine jx_load c1 hm rfl rfl rfl rfl ?_
        refine jv_i c3 hm rfl pj_X9_canPay rfl rfl ⟨_, _, _, rfl, sh_127⟩ rfl ((ct_X9_canPay_127 X (by omega) M17 hH17 b10 ⟨by omega, by omega⟩ a1 ⟨by omega, by omega⟩ b16 ⟨by omega, by omega⟩).le (by decide)) (fun z21 _ ⟨rfl, lz21, uz21⟩ => ?_)
        obtain ⟨M22, e22, hH22, hF22, k22, n22, _⟩ := mup hH17 hF17 (c := 129) (i := ((121 * b10 + b16)).toNat) (v := z21) (A := 0) (B := 1) rfl ⟨by omega, by omega⟩ (jin_of 0 rfl ⟨by omega, by omega⟩)
        refine jm_bast c1 hm rfl sh_129 (Or.inr ⟨rfl, by omega, by omega⟩) ⟨by omega, by omega⟩ e22 ?_
        refine jx_iinc c1 hm (v := (b16 + 1)) (L' := [some (.inr (.inr (.inl 127))), some (.inl a0), some (.inl a1), some (.inl b10), some (.inl (b16 + 1))]) rfl rfl (by omega) (by omega) rfl ?_
        refine jx_goto c1 hm 45 rfl rfl ?_
        exact ihW18 (b16 + 1) (by omega) M22 hH22 hF22 (by omega)
      exact W18 (121 + 1 : Int).toNat 0 (by omega) M12 hH12 hF12 (by omega)
    exact W13 (a0 + 1 : Int).toNat (a0 - 1) (by omega) none (Or.inl rfl) M2 hH2 hF2 (by omega)
   refine jx_load c1 hm rfl rfl rfl rfl ?_
   refine jx_getr c1 hm rfl sh_127 rfl ?_
   refine jx_load c1 hm rfl rfl rfl rfl ?_
   refine jy_bp c1 hm rfl (by decide) ?_
   refine jy_mul c1 hm (121 * a0) rfl (by omega) ?_
   refine jx_load c1 hm rfl rfl rfl rfl ?_
   refine jy_add c1 hm (121 * a0 + b1) rfl (by omega) ?_
   refine jx_load c1 hm rfl rfl rfl rfl ?_
   have J8 : ∀ (b7 : Int) (hb7 : 0 ≤ b7 ∧ b7 ≤ 1), F 27 [some (.inr (.inr (.inl 127))), some (.inl a0), some (.inl a1), some (.inl b1), none] [.inl b7, .inl (121 * a0 + b1), .inr (.inr (.inl 129))] M2 := by
    intro b7 hb7
    obtain ⟨M9, e9, hH9, hF9, k9, n9, _⟩ := mup hH2 hF2 (c := 129) (i := ((121 * a0 + b1)).toNat) (v := b7) (A := 0) (B := 1) rfl ⟨by omega, by omega⟩ (jin_of 0 rfl ⟨by omega, by omega⟩)
    refine jm_bast c1 hm rfl sh_129 (Or.inr ⟨rfl, by omega, by omega⟩) ⟨by omega, by omega⟩ e9 ?_
    refine jx_iinc c1 hm (v := (b1 + 1)) (L' := [some (.inr (.inr (.inl 127))), some (.inl a0), some (.inl a1), some (.inl (b1 + 1)), none]) rfl rfl (by omega) (by omega) rfl ?_
    refine jx_goto c1 hm 2 rfl rfl ?_
    exact ihW3 (b1 + 1) (by omega) M9 hH9 hF9 (by omega)
   refine jz_ne c1 hm 26 rfl rfl (fun h6 => ?_) (fun h6 => ?_)
   ·
    refine jy_ic c1 hm rfl (by decide) ?_
    exact J8 0 (by omega)
   refine jy_ic c1 hm rfl (by decide) ?_
   refine jx_goto c1 hm 27 rfl rfl ?_
   exact J8 1 (by omega)
 exact W3 (121 + 1 : Int).toNat 0 (by omega) M0 hH0 hF0 (by omega)
def md_X9_choose_127 : List (Nat × (Nat × Nat)) := [(127, (3, 3)), (130, (0, 5))]
theorem ct_X9_choose_127 (X : Int) (hX : 0 ≤ X ∧ X ≤ 100000000) (M0 : JM) (hH0 : HI X M0) (a0 : Int) (ha0 : 0 ≤ a0 ∧ a0 ≤ 6) (a1 : Int) (ha1 : 0 ≤ a1 ∧ a1 ≤ 20) (a2 : Int) (ha2 : 0 ≤ a2 ∧ a2 ≤ 120) : JOk shp PJ 1 266 [.inr (.inr (.inl 127)), .inl a0, .inl a1, .inl a2] M0 (jRv (fun M' => HI X M' ∧ Fr md_X9_choose_127 M0 M' )) := by
 refine ⟨jr_X9_choose, pj_X9_choose, fun F c1 c2 c3 => ?_⟩
 have hm := pj_X9_choose
 change F 0 [some (.inr (.inr (.inl 127))), some (.inl a0), some (.inl a1), some (.inl a2), none, none, none, none] [] M0
 have hF0 : Fr md_X9_choose_127 M0 M0 := Fr.rf _ _
 refine jx_load c1 hm rfl rfl rfl rfl ?_
 refine jx_stor c1 hm (L' := [some (.inr (.inr (.inl 127))), some (.inl a0), some (.inl a1), some (.inl a2), some (.inl a2), none, none, none]) rfl rfl rfl rfl rfl ?_
 refine jx_load c1 hm rfl rfl rfl rfl ?_
 refine jx_load c1 hm rfl rfl rfl rfl ?_
 obtain ⟨M1, e1, hH1, hF1, k1, n1, _⟩ := mup hH0 hF0 (c := 127) (i := 3) (v := a0) (A := 0) (B := 6) (bs_26_1 _ _ (by omega) (by omega)) ⟨by omega, by omega⟩ (jin_of 0 rfl ⟨by omega, by omega⟩)
 refine jm_puti c1 hm rfl sh_127 rfl e1 ?_
 refine jy_ic c1 hm rfl (by decide) ?_
 refine jx_stor c1 hm (L' := [some (.inr (.inr (.inl 127))), some (.inl a0), some (.inl a1), some (.inl a2), some (.inl a2), some (.inl 0), none, none]) rfl rfl rfl rfl rfl ?_
 have W7 : ∀ (n8 : Nat) (b2 : Int) (hb2 : (-20) ≤ b2 ∧ b2 ≤ 120) (b3 : Int) (hb3 : 0 ≤ b3 ∧ b3 ≤ 6) (o4 : Option JV) (ho4 : o4 = none ∨ (∃ z, o4 = some (.inl z)) ∨ ∃ r, o4 = some (.inr (.inr r))) (o5 : Option JV) (ho5 : o5 = none ∨ (∃ z, o5 = some (.inl z)) ∨ ∃ r, o5 = some (.inr (.inr r))) (M6 : JM) (hH6 : HI (X) M6) (hF6 : Fr md_X9_choose_127 M0 M6), (-b3 + 6) < (n8 : Int) → F 11 [some (.inr (.inr (.inl 127))), some (.inl a0), some (.inl a1), some (.inl a2), some (.inl b2), some (.inl b3), o4, o5] [] M6 := by
  intro n8
  induction n8 with
  | zero => intros; omega
  | succ n8 ihW7 =>
   intro b2 hb2 b3 hb3 o4 ho4 o5 ho5 M6 hH6 hF6 hrW7
   refine jx_load c1 hm rfl rfl rfl rfl ?_
   refine jx_load c1 hm rfl rfl rfl rfl ?_
   refine jc_ge c1 hm 128 rfl rfl (fun h9 => ?_) (fun h9 => ?_)
   ·
    exact jx_retv c2 hm rfl rfl ⟨rfl, hH6, hF6⟩
   refine jx_load c1 hm rfl rfl rfl rfl ?_
   refine jx_getr c1 hm rfl sh_127 rfl ?_
   refine jx_load c1 hm rfl rfl rfl rfl ?_
   refine jy_ic c1 hm rfl (by decide) ?_
   obtain ⟨M10, e10, hH10, hF10, k10, n10, _⟩ := mup hH6 hF6 (c := 130) (i := (b3).toNat) (v := (-1)) (A := (-2147483648)) (B := 2147483647) rfl ⟨by omega, by omega⟩ (jin_of 1 rfl ⟨by omega, by omega⟩)
   refine jm_iast c1 hm rfl sh_130 ⟨by omega, by omega⟩ e10 ?_
   refine jy_ic c1 hm rfl (by decide) ?_
   refine jx_stor c1 hm (L' := [some (.inr (.inr (.inl 127))), some (.inl a0), some (.inl a1), some (.inl a2), some (.inl b2), some (.inl b3), some (.inl 0), o5]) rfl rfl rfl rfl rfl ?_
   have W15 : ∀ (n16 : Nat) (b11 : Int) (hb11 : (-20) ≤ b11 ∧ b11 ≤ 120) (b12 : Int) (hb12 : 0 ≤ b12 ∧ b12 ≤ 6) (o13 : Option JV) (ho13 : o13 = none ∨ (∃ z, o13 = some (.inl z)) ∨ ∃ r, o13 = some (.inr (.inr r))) (M14 : JM) (hH14 : HI (X) M14) (hF14 : Fr md_X9_choose_127 M0 M14), (-b12 + 6) < (n16 : Int) → F 28 [some (.inr (.inr (.inl 127))), some (.inl a0), some (.inl a1), some (.inl a2), some (.inl b11), some (.inl b3), some (.inl b12), o13] [] M14 := by
    intro n16
    induction n16 with
    | zero => intros; omega
    | succ n16 ihW15 =>
     intro b11 hb11 b12 hb12 o13 ho13 M14 hH14 hF14 hrW15
     refine jx_load c1 hm rfl rfl rfl rfl ?_
     refine jy_bp c1 hm rfl (by decide) ?_
     have J33 : F 122 [some (.inr (.inr (.inl 127))), some (.inl a0), some (.inl a1), some (.inl a2), some (.inl b11), some (.inl b3), some (.inl b12), o13] [] M14 := by
      refine jx_iinc c1 hm (v := (b3 + 1)) (L' := [some (.inr (.inr (.inl 127))), some (.inl a0), some (.inl a1), some (.inl a2), some (.inl b11), some (.inl (b3 + 1)), some (.inl b12), o13]) rfl rfl (by omega) (by omega) rfl ?_
      refine jx_goto c1 hm 11 rfl rfl ?_
      exact ihW7 b11 (by omega) (b3 + 1) (by omega) (some (.inl b12)) (Or.inr (Or.inl ⟨_, rfl⟩)) o13 ho13 M14 hH14 hF14 (by omega)
     refine jc_ge c1 hm 122 rfl rfl (fun h17 => ?_) (fun h17 => ?_)
     ·
      exact J33 
     refine jx_load c1 hm rfl rfl rfl rfl ?_
     refine jx_getr c1 hm rfl sh_127 rfl ?_
     refine jx_load c1 hm rfl rfl rfl rfl ?_
     obtain ⟨z18, k19, lz18, uz18⟩ := hH14.ld (c := 130) (i := (b3).toNat) (A := (-2147483648)) (B := 2147483647) rfl
     refine jx_iald c1 hm rfl sh_130 ⟨by omega, by omega⟩ k19 ?_
     refine jy_ic c1 hm rfl (by decide) ?_
     refine jc_ne c1 hm 122 rfl rfl (fun h20 => ?_) (fun h20 => ?_)
     ·
      exact J33 
     refine jx_load c1 hm rfl rfl rfl rfl ?_
     refine jx_getr c1 hm rfl sh_127 rfl ?_
     refine jx_load c1 hm rfl rfl rfl rfl ?_
     refine jy_bp c1 hm rfl (by decide) ?_
     refine jy_mul c1 hm (6 * b3) rfl (by omega) ?_
     refine jx_load c1 hm rfl rfl rfl rfl ?_
     refine jy_add c1 hm (b12 + 6 * b3) rfl (by omega) ?_
     obtain ⟨z21, k22, lz21, uz21⟩ := hH14.ld (c := 128) (i := ((b12 + 6 * b3)).toNat) (A := (-2147483648)) (B := 2147483647) rfl
     refine jx_iald c1 hm rfl sh_128 ⟨by omega, by omega⟩ k22 ?_
     refine jx_stor c1 hm (L' := [some (.inr (.inr (.inl 127))), some (.inl a0), some (.inl a1), some (.inl a2), some (.inl b11), some (.inl b3), some (.inl b12), some (.inl z21)]) rfl rfl rfl rfl rfl ?_
     refine jx_load c1 hm rfl rfl rfl rfl ?_
     have J32 : ∀ (b30 : Int) (hb30 : (-20) ≤ b30 ∧ b30 ≤ 120) (M31 : JM) (hH31 : HI (X) M31) (hF31 : Fr md_X9_choose_127 M0 M31), F 116 [some (.inr (.inr (.inl 127))), some (.inl a0), some (.inl a1), some (.inl a2), some (.inl b30), some (.inl b3), some (.inl b12), some (.inl z21)] [] M31 := by
      intro b30 hb30 M31 hH31 hF31
      refine jx_iinc c1 hm (v := (b12 + 1)) (L' := [some (.inr (.inr (.inl 127))), some (.inl a0), some (.inl a1), some (.inl a2), some (.inl b30), some (.inl b3), some (.inl (b12 + 1)), some (.inl z21)]) rfl rfl (by omega) (by omega) rfl ?_
      refine jx_goto c1 hm 28 rfl rfl ?_
      exact ihW15 b30 (by omega) (b12 + 1) (by omega) (some (.inl z21)) (Or.inr (Or.inl ⟨_, rfl⟩)) M31 hH31 hF31 (by omega)
     refine jz_le c1 hm 116 rfl rfl (fun h23 => ?_) (fun h23 => ?_)
     ·
      exact J32 b11 (by omega) M14 hH14 hF14
     refine jx_load c1 hm rfl rfl rfl rfl ?_
     refine jx_load c1 hm rfl rfl rfl rfl ?_
     refine jc_gt c1 hm 116 rfl rfl (fun h24 => ?_) (fun h24 => ?_)
     ·
      exact J32 b11 (by omega) M14 hH14 hF14
     refine jx_load c1 hm rfl rfl rfl rfl ?_
     refine jx_load c1 hm rfl rfl rfl rfl ?_
     refine jc_gt c1 hm 116 rfl rfl (fun h25 => ?_) (fun h25 => ?_)
     ·
      exact J32 b11 (by omega) M14 hH14 hF14
     refine jx_load c1 hm rfl rfl rfl rfl ?_
     refine jx_getr c1 hm rfl sh_127 rfl ?_
     refine jx_load c1 hm rfl rfl rfl rfl ?_
     refine jy_ic c1 hm rfl (by decide) ?_
     refine jy_add c1 hm (b3 + 1) rfl (by omega) ?_
     refine jy_bp c1 hm rfl (by decide) ?_
     refine jy_mul c1 hm (121 * b3 + 121) rfl (by omega) ?_
     refine jx_load c1 hm rfl rfl rfl rfl ?_
     refine jy_add c1 hm (b11 + 121 * b3 + 121) rfl (by omega) ?_
     refine jx_load c1 hm rfl rfl rfl rfl ?_
     refine jy_sub c1 hm (b11 + 121 * b3 - z21 + 121) rfl (by omega) ?_
     obtain ⟨z26, k27, lz26, uz26⟩ := hH14.ld (c := 129) (i := ((b11 + 121 * b3 - z21 + 121)).toNat) (A := 0) (B := 1) rfl
     refine jx_bald c1 hm rfl sh_129 rfl ⟨by omega, by omega⟩ k27 ?_
     refine jz_eq c1 hm 116 rfl rfl (fun h28 => ?_) (fun h28 => ?_)
     ·
      exact J32 b11 (by omega) M14 hH14 hF14
     refine jx_load c1 hm rfl rfl rfl rfl ?_
     refine jx_getr c1 hm rfl sh_127 rfl ?_
     refine jx_load c1 hm rfl rfl rfl rfl ?_
     refine jx_load c1 hm rfl rfl rfl rfl ?_
     obtain ⟨M29, e29, hH29, hF29, k29, n29, _⟩ := mup hH14 hF14 (c := 130) (i := (b3).toNat) (v := b12) (A := (-2147483648)) (B := 2147483647) rfl ⟨by omega, by omega⟩ (jin_of 1 rfl ⟨by omega, by omega⟩)
     refine jm_iast c1 hm rfl sh_130 ⟨by omega, by omega⟩ e29 ?_
     refine jx_load c1 hm rfl rfl rfl rfl ?_
     refine jx_load c1 hm rfl rfl rfl rfl ?_
     refine jy_sub c1 hm (b11 - z21) rfl (by omega) ?_
     refine jx_stor c1 hm (L' := [some (.inr (.inr (.inl 127))), some (.inl a0), some (.inl a1), some (.inl a2), some (.inl (b11 - z21)), some (.inl b3), some (.inl b12), some (.inl z21)]) rfl rfl rfl rfl rfl ?_
     exact J32 (b11 - z21) (by omega) M29 hH29 hF29
   exact W15 (6 + 1 : Int).toNat b2 (by omega) 0 (by omega) o5 ho5 M10 hH10 hF10 (by omega)
 exact W7 (6 + 1 : Int).toNat a2 (by omega) 0 (by omega) none (Or.inl rfl) none (Or.inl rfl) M1 hH1 hF1 (by omega)
def md_X9_find_127_5 : List (Nat × (Nat × Nat)) := [(127, (3, 3)), (128, (0, 35)), (129, (0, 846)), (130, (0, 5))]
theorem ct_X9_find_127_5 (X : Int) (hX : 0 ≤ X ∧ X ≤ 100000000) (M0 : JM) (hH0 : HI X M0) (a0 : Int) (ha0 : 0 ≤ a0 ∧ a0 ≤ 200) : JOk shp PJ 4 270 [.inr (.inr (.inl 127)), .inr (.inr (.inl 5)), .inl a0] M0 (jRi (fun v M' => HI X M' ∧ Fr md_X9_find_127_5 M0 M' ∧ (-1) ≤ v ∧ v ≤ 20 )) := by
 refine ⟨jr_X9_find, pj_X9_find, fun F c1 c2 c3 => ?_⟩
 have hm := pj_X9_find
 change F 0 [some (.inr (.inr (.inl 127))), some (.inr (.inr (.inl 5))), some (.inl a0), none, none] [] M0
 have hF0 : Fr md_X9_find_127_5 M0 M0 := Fr.rf _ _
 refine jx_load c1 hm rfl rfl rfl rfl ?_
 refine jx_load c1 hm rfl rfl rfl rfl ?_
 refine jv_v c3 hm rfl pj_X9_fillCosts rfl rfl ⟨_, _, _, rfl, sh_127⟩ rfl ((ct_X9_fillCosts_127_5 X (by omega) M0 hH0 ).le (by decide)) (fun M1 ⟨hH1, hR1⟩ => ?_)
 have hF1 := hF0.tr hR1 (by decide +kernel)
 refine jx_load c1 hm rfl rfl rfl rfl ?_
 refine jx_load c1 hm rfl rfl rfl rfl ?_
 refine jv_i c3 hm rfl pj_X9_leastGreatest rfl rfl ⟨_, _, _, rfl, sh_127⟩ rfl ((ct_X9_leastGreatest_127 X (by omega) M1 hH1 a0 ⟨by omega, by omega⟩).le (by decide)) (fun z2 _ ⟨rfl, lz2, uz2⟩ => ?_)
 refine jx_stor c1 hm (L' := [some (.inr (.inr (.inl 127))), some (.inr (.inr (.inl 5))), some (.inl a0), some (.inl z2), none]) rfl rfl rfl rfl rfl ?_
 refine jx_load c1 hm rfl rfl rfl rfl ?_
 refine jy_ic c1 hm rfl (by decide) ?_
 refine jc_ne c1 hm 18 rfl rfl (fun h3 => ?_) (fun h3 => ?_)
 ·
  refine jx_load c1 hm rfl rfl rfl rfl ?_
  refine jx_load c1 hm rfl rfl rfl rfl ?_
  refine jv_i c3 hm rfl pj_X2_men rfl rfl ⟨_, _, _, rfl, sh_5⟩ rfl ((ct_X2_men_5 X (by omega) M1 hH1 ).le (by decide)) (fun z4 _ ⟨rfl, lz4, uz4⟩ => ?_)
  refine jx_load c1 hm rfl rfl rfl rfl ?_
  refine jv_v c3 hm rfl pj_X9_fillCan rfl rfl ⟨_, _, _, rfl, sh_127⟩ rfl ((ct_X9_fillCan_127 X (by omega) M1 hH1 z4 ⟨by omega, by omega⟩ z2 ⟨by omega, by omega⟩).le (by decide)) (fun M5 ⟨hH5, hR5⟩ => ?_)
  have hF5 := hF1.tr hR5 (by decide +kernel)
  refine jx_load c1 hm rfl rfl rfl rfl ?_
  refine jx_stor c1 hm (L' := [some (.inr (.inr (.inl 127))), some (.inr (.inr (.inl 5))), some (.inl a0), some (.inl z2), some (.inl a0)]) rfl rfl rfl rfl rfl ?_
  have W7 : ∀ (n8 : Nat) (b6 : Int) (hb6 : 0 ≤ b6 ∧ b6 ≤ 200), (-b6 + 200) < (n8 : Int) → F 30 [some (.inr (.inr (.inl 127))), some (.inr (.inr (.inl 5))), some (.inl a0), some (.inl z2), some (.inl b6)] [] M5 := by
   intro n8
   induction n8 with
   | zero => intros; omega
   | succ n8 ihW7 =>
    intro b6 hb6 hrW7
    refine jx_load c1 hm rfl rfl rfl rfl ?_
    refine jy_bp c1 hm rfl (by decide) ?_
    refine jc_ge c1 hm 66 rfl rfl (fun h9 => ?_) (fun h9 => ?_)
    ·
     refine jy_ic c1 hm rfl (by decide) ?_
     exact jx_reti c2 hm rfl rfl ⟨_, rfl, hH5, hF5, by omega, by omega⟩
    refine jx_load c1 hm rfl rfl rfl rfl ?_
    refine jx_getr c1 hm rfl sh_127 rfl ?_
    refine jx_load c1 hm rfl rfl rfl rfl ?_
    obtain ⟨z10, k11, lz10, uz10⟩ := hH5.ld (c := 129) (i := (b6).toNat) (A := 0) (B := 1) rfl
    refine jx_bald c1 hm rfl sh_129 rfl ⟨by omega, by omega⟩ k11 ?_
    refine jz_eq c1 hm 60 rfl rfl (fun h12 => ?_) (fun h12 => ?_)
    ·
     refine jx_iinc c1 hm (v := (b6 + 1)) (L' := [some (.inr (.inr (.inl 127))), some (.inr (.inr (.inl 5))), some (.inl a0), some (.inl z2), some (.inl (b6 + 1))]) rfl rfl (by omega) (by omega) rfl ?_
     refine jx_goto c1 hm 30 rfl rfl ?_
     exact ihW7 (b6 + 1) (by omega) (by omega)
    refine jx_load c1 hm rfl rfl rfl rfl ?_
    refine jx_load c1 hm rfl rfl rfl rfl ?_
    refine jv_i c3 hm rfl pj_X2_men rfl rfl ⟨_, _, _, rfl, sh_5⟩ rfl ((ct_X2_men_5 X (by omega) M5 hH5 ).le (by decide)) (fun z13 _ ⟨rfl, lz13, uz13⟩ => ?_)
    refine jx_load c1 hm rfl rfl rfl rfl ?_
    refine jx_load c1 hm rfl rfl rfl rfl ?_
    refine jv_v c3 hm rfl pj_X9_choose rfl rfl ⟨_, _, _, rfl, sh_127⟩ rfl ((ct_X9_choose_127 X (by omega) M5 hH5 z13 ⟨by omega, by omega⟩ z2 ⟨by omega, by omega⟩ b6 ⟨by omega, by omega⟩).le (by decide)) (fun M14 ⟨hH14, hR14⟩ => ?_)
    have hF14 := hF5.tr hR14 (by decide +kernel)
    refine jx_load c1 hm rfl rfl rfl rfl ?_
    exact jx_reti c2 hm rfl rfl ⟨_, rfl, hH14, hF14, by omega, by omega⟩
  exact W7 ((-a0 + 200) + 1 : Int).toNat a0 (by omega) (by omega)
 refine jy_ic c1 hm rfl (by decide) ?_
 exact jx_reti c2 hm rfl rfl ⟨_, rfl, hH1, hF1, by omega, by omega⟩
def md_X11_tax_0 : List (Nat × (Nat × Nat)) := [(127, (3, 3)), (128, (0, 35)), (129, (0, 846)), (130, (0, 5))]
theorem ct_X11_tax_0 (X : Int) (hX : 0 ≤ X ∧ X ≤ 100000000) (M0 : JM) (hH0 : HI X M0) (a0 : Int) (ha0 : (-2147483648) ≤ a0 ∧ a0 ≤ 2147483647) : JOk shp PJ 5 69 [.inr (.inr (.inl 0)), .inl a0] M0 (jRi (fun v M' => HI X M' ∧ Fr md_X11_tax_0 M0 M' ∧ (-1) ≤ v ∧ v ≤ 20 )) := by
 refine ⟨jr_X11_tax, pj_X11_tax, fun F c1 c2 c3 => ?_⟩
 have hm := pj_X11_tax
 change F 0 [some (.inr (.inr (.inl 0))), some (.inl a0)] [] M0
 have hF0 : Fr md_X11_tax_0 M0 M0 := Fr.rf _ _
 refine jx_load c1 hm rfl rfl rfl rfl ?_
 refine jz_lt c1 hm 11 rfl rfl (fun h1 => ?_) (fun h1 => ?_)
 ·
  refine jy_ic c1 hm rfl (by decide) ?_
  refine jx_goto c1 hm 27 rfl rfl ?_
  exact jx_reti c2 hm rfl rfl ⟨_, rfl, hH0, hF0, by omega, by omega⟩
 refine jx_load c1 hm rfl rfl rfl rfl ?_
 refine jy_sp c1 hm rfl (by decide) ?_
 refine jc_le c1 hm 15 rfl rfl (fun h2 => ?_) (fun h2 => ?_)
 ·
  refine jx_load c1 hm rfl rfl rfl rfl ?_
  refine jx_getr c1 hm rfl sh_0 rfl ?_
  refine jx_load c1 hm rfl rfl rfl rfl ?_
  refine jx_getr c1 hm rfl sh_0 rfl ?_
  refine jx_load c1 hm rfl rfl rfl rfl ?_
  refine jv_i c3 hm rfl pj_X9_find rfl rfl ⟨_, _, _, rfl, sh_127⟩ rfl ((ct_X9_find_127_5 X (by omega) M0 hH0 a0 ⟨by omega, by omega⟩).le (by decide)) (fun z3 M4 ⟨hH4, hR4, lz3, uz3⟩ => ?_)
  have hF4 := hF0.tr hR4 (by decide +kernel)
  exact jx_reti c2 hm rfl rfl ⟨_, rfl, hH4, hF4, by omega, by omega⟩
 refine jy_ic c1 hm rfl (by decide) ?_
 refine jx_goto c1 hm 27 rfl rfl ?_
 exact jx_reti c2 hm rfl rfl ⟨_, rfl, hH0, hF0, by omega, by omega⟩
theorem ct_X11_taxOf_0 (X : Int) (hX : 0 ≤ X ∧ X ≤ 100000000) (M0 : JM) (hH0 : HI X M0) (a0 : Int) (ha0 : (-2147483648) ≤ a0 ∧ a0 ≤ 2147483647) : JOk shp PJ 1 70 [.inr (.inr (.inl 0)), .inl a0] M0 (jRi (fun v M' => M0 = M' ∧ (-2147483648) ≤ v ∧ v ≤ 2147483647 )) := by
 refine ⟨jr_X11_taxOf, pj_X11_taxOf, fun F c1 c2 c3 => ?_⟩
 have hm := pj_X11_taxOf
 change F 0 [some (.inr (.inr (.inl 0))), some (.inl a0)] [] M0
 refine jx_load c1 hm rfl rfl rfl rfl ?_
 refine jz_lt c1 hm 27 rfl rfl (fun h1 => ?_) (fun h1 => ?_)
 ·
  refine jy_ic c1 hm rfl (by decide) ?_
  exact jx_reti c2 hm rfl rfl ⟨_, rfl, rfl, by omega, by omega⟩
 refine jx_load c1 hm rfl rfl rfl rfl ?_
 refine jx_load c1 hm rfl rfl rfl rfl ?_
 refine jx_getr c1 hm rfl sh_0 rfl ?_
 obtain ⟨z2, k3, lz2, uz2⟩ := hH0.ld (c := 127) (i := 3) (A := 0) (B := 6) (bs_26_1 _ _ (by omega) (by omega))
 refine jx_geti c1 hm rfl sh_127 rfl k3 ?_
 refine jc_ge c1 hm 27 rfl rfl (fun h4 => ?_) (fun h4 => ?_)
 ·
  refine jy_ic c1 hm rfl (by decide) ?_
  exact jx_reti c2 hm rfl rfl ⟨_, rfl, rfl, by omega, by omega⟩
 refine jx_load c1 hm rfl rfl rfl rfl ?_
 refine jx_getr c1 hm rfl sh_0 rfl ?_
 refine jx_getr c1 hm rfl sh_127 rfl ?_
 refine jx_load c1 hm rfl rfl rfl rfl ?_
 obtain ⟨z5, k6, lz5, uz5⟩ := hH0.ld (c := 130) (i := (a0).toNat) (A := (-2147483648)) (B := 2147483647) rfl
 refine jx_iald c1 hm rfl sh_130 ⟨by omega, by omega⟩ k6 ?_
 refine jx_goto c1 hm 28 rfl rfl ?_
 exact jx_reti c2 hm rfl rfl ⟨_, rfl, rfl, by omega, by omega⟩
theorem ct_X11_proudest_0 (X : Int) (hX : 0 ≤ X ∧ X ≤ 100000000) (M0 : JM) (hH0 : HI X M0)  : JOk shp PJ 2 58 [.inr (.inr (.inl 0))] M0 (jRi (fun v M' => M0 = M' ∧ (-1) ≤ v ∧ v ≤ 5 )) := by
 refine ⟨jr_X11_proudest, pj_X11_proudest, fun F c1 c2 c3 => ?_⟩
 have hm := pj_X11_proudest
 change F 0 [some (.inr (.inr (.inl 0))), none, none] [] M0
 refine jy_ic c1 hm rfl (by decide) ?_
 refine jx_stor c1 hm (L' := [some (.inr (.inr (.inl 0))), some (.inl (-1)), none]) rfl rfl rfl rfl rfl ?_
 refine jy_ic c1 hm rfl (by decide) ?_
 refine jx_stor c1 hm (L' := [some (.inr (.inr (.inl 0))), some (.inl (-1)), some (.inl 0)]) rfl rfl rfl rfl rfl ?_
 have W3 : ∀ (n4 : Nat) (b1 : Int) (hb1 : (-1) ≤ b1 ∧ b1 ≤ 5) (b2 : Int) (hb2 : 0 ≤ b2 ∧ b2 ≤ 6), (-b2 + 6) < (n4 : Int) → F 4 [some (.inr (.inr (.inl 0))), some (.inl b1), some (.inl b2)] [] M0 := by
  intro n4
  induction n4 with
  | zero => intros; omega
  | succ n4 ihW3 =>
   intro b1 hb1 b2 hb2 hrW3
   refine jx_load c1 hm rfl rfl rfl rfl ?_
   refine jx_load c1 hm rfl rfl rfl rfl ?_
   refine jx_getr c1 hm rfl sh_0 rfl ?_
   refine jv_i c3 hm rfl pj_X2_men rfl rfl ⟨_, _, _, rfl, sh_5⟩ rfl ((ct_X2_men_5 X (by omega) M0 hH0 ).le (by decide)) (fun z5 _ ⟨rfl, lz5, uz5⟩ => ?_)
   refine jc_ge c1 hm 55 rfl rfl (fun h6 => ?_) (fun h6 => ?_)
   ·
    refine jx_load c1 hm rfl rfl rfl rfl ?_
    exact jx_reti c2 hm rfl rfl ⟨_, rfl, rfl, by omega, by omega⟩
   refine jx_load c1 hm rfl rfl rfl rfl ?_
   refine jy_ic c1 hm rfl (by decide) ?_
   have J14 : ∀ (b13 : Int) (hb13 : 0 ≤ b13 ∧ b13 ≤ 5), F 49 [some (.inr (.inr (.inl 0))), some (.inl b13), some (.inl b2)] [] M0 := by
    intro b13 hb13
    refine jx_iinc c1 hm (v := (b2 + 1)) (L' := [some (.inr (.inr (.inl 0))), some (.inl b13), some (.inl (b2 + 1))]) rfl rfl (by omega) (by omega) rfl ?_
    refine jx_goto c1 hm 4 rfl rfl ?_
    exact ihW3 b13 (by omega) (b2 + 1) (by omega) (by omega)
   refine jc_eq c1 hm 47 rfl rfl (fun h7 => ?_) (fun h7 => ?_)
   ·
    refine jx_load c1 hm rfl rfl rfl rfl ?_
    refine jx_stor c1 hm (L' := [some (.inr (.inr (.inl 0))), some (.inl b2), some (.inl b2)]) rfl rfl rfl rfl rfl ?_
    exact J14 b2 (by omega)
   refine jx_load c1 hm rfl rfl rfl rfl ?_
   refine jx_getr c1 hm rfl sh_0 rfl ?_
   refine jx_getr c1 hm rfl sh_5 rfl ?_
   refine jx_getr c1 hm rfl sh_12 rfl ?_
   refine jx_load c1 hm rfl rfl rfl rfl ?_
   obtain ⟨z8, k9, lz8, uz8⟩ := hH0.ld (c := 13) (i := (b2).toNat) (A := (-2147483648)) (B := 2147483647) rfl
   refine jx_iald c1 hm rfl sh_13 ⟨by omega, by omega⟩ k9 ?_
   refine jx_load c1 hm rfl rfl rfl rfl ?_
   refine jx_getr c1 hm rfl sh_0 rfl ?_
   refine jx_getr c1 hm rfl sh_5 rfl ?_
   refine jx_getr c1 hm rfl sh_12 rfl ?_
   refine jx_load c1 hm rfl rfl rfl rfl ?_
   obtain ⟨z10, k11, lz10, uz10⟩ := hH0.ld (c := 13) (i := (b1).toNat) (A := (-2147483648)) (B := 2147483647) rfl
   refine jx_iald c1 hm rfl sh_13 ⟨by omega, by omega⟩ k11 ?_
   refine jc_le c1 hm 49 rfl rfl (fun h12 => ?_) (fun h12 => ?_)
   ·
    exact J14 b1 (by omega)
   refine jx_load c1 hm rfl rfl rfl rfl ?_
   refine jx_stor c1 hm (L' := [some (.inr (.inr (.inl 0))), some (.inl b2), some (.inl b2)]) rfl rfl rfl rfl rfl ?_
   exact J14 b2 (by omega)
 exact W3 (6 + 1 : Int).toNat (-1) (by omega) 0 (by omega) (by omega)
def md_X11_listByte_0 : List (Nat × (Nat × Nat)) := [(0, (17, 17)), (136, (0, 39))]
theorem ct_X11_listByte_0 (X : Int) (hX : 0 ≤ X ∧ X ≤ 100000000) (M0 : JM) (hH0 : HI X M0) (a0 : Int) (ha0 : (-2147483648) ≤ a0 ∧ a0 ≤ 2147483647) : JOk shp PJ 1 48 [.inr (.inr (.inl 0)), .inl a0] M0 (jRv (fun M' => HI X M' ∧ Fr md_X11_listByte_0 M0 M' )) := by
 refine ⟨jr_X11_listByte, pj_X11_listByte, fun F c1 c2 c3 => ?_⟩
 have hm := pj_X11_listByte
 change F 0 [some (.inr (.inr (.inl 0))), some (.inl a0)] [] M0
 have hF0 : Fr md_X11_listByte_0 M0 M0 := Fr.rf _ _
 refine jx_load c1 hm rfl rfl rfl rfl ?_
 obtain ⟨z1, k2, lz1, uz1⟩ := hH0.ld (c := 0) (i := 17) (A := 0) (B := 40) (bs_18_3 _ _ (by omega) (by omega))
 refine jx_geti c1 hm rfl sh_0 rfl k2 ?_
 refine jy_bp c1 hm rfl (by decide) ?_
 refine jc_ge c1 hm 30 rfl rfl (fun h3 => ?_) (fun h3 => ?_)
 ·
  exact jx_retv c2 hm rfl rfl ⟨rfl, hH0, hF0⟩
 refine jx_load c1 hm rfl rfl rfl rfl ?_
 refine jx_getr c1 hm rfl sh_0 rfl ?_
 refine jx_load c1 hm rfl rfl rfl rfl ?_
 refine jx_geti c1 hm rfl sh_0 rfl k2 ?_
 refine jx_load c1 hm rfl rfl rfl rfl ?_
 refine jy_i2b c1 hm rfl (fun z4 lz4 uz4 => ?_)
 obtain ⟨M5, e5, hH5, hF5, k5, n5, _⟩ := mup hH0 hF0 (c := 136) (i := (z1).toNat) (v := z4) (A := (-128)) (B := 127) rfl ⟨by omega, by omega⟩ (jin_of 1 rfl ⟨by omega, by omega⟩)
 refine jm_bast c1 hm rfl sh_136 (Or.inl ⟨rfl, by omega, by omega⟩) ⟨by omega, by omega⟩ e5 ?_
 refine jx_load c1 hm rfl rfl rfl rfl ?_
 refine jx_dup c1 hm rfl rfl ?_
 have k6 : M5.1 0 17 = z1 := (n5 0 17 (fun h => absurd h.1 (by decide))).trans k2
 refine jx_geti c1 hm rfl sh_0 rfl k6 ?_
 refine jy_ic c1 hm rfl (by decide) ?_
 refine jy_add c1 hm (z1 + 1) rfl (by omega) ?_
 obtain ⟨M7, e7, hH7, hF7, k7, n7, _⟩ := mup hH5 hF5 (c := 0) (i := 17) (v := (z1 + 1)) (A := 0) (B := 40) (bs_18_3 _ _ (by omega) (by omega)) ⟨by omega, by omega⟩ (jin_of 0 rfl ⟨by omega, by omega⟩)
 refine jm_puti c1 hm rfl sh_0 rfl e7 ?_
 exact jx_retv c2 hm rfl rfl ⟨rfl, hH7, hF7⟩
def md_X11_listName_0 : List (Nat × (Nat × Nat)) := [(0, (17, 17)), (136, (0, 39))]
theorem ct_X11_listName_0 (X : Int) (hX : 0 ≤ X ∧ X ≤ 100000000) (M0 : JM) (hH0 : HI X M0) (a0 : Int) (ha0 : 0 ≤ a0 ∧ a0 ≤ 2) (a1 : Int) (ha1 : 0 ≤ a1 ∧ a1 ≤ 5) : JOk shp PJ 2 49 [.inr (.inr (.inl 0)), .inl a0, .inl a1] M0 (jRv (fun M' => HI X M' ∧ Fr md_X11_listName_0 M0 M' )) := by
 refine ⟨jr_X11_listName, pj_X11_listName, fun F c1 c2 c3 => ?_⟩
 have hm := pj_X11_listName
 change F 0 [some (.inr (.inr (.inl 0))), some (.inl a0), some (.inl a1), none, none, none, none] [] M0
 have hF0 : Fr md_X11_listName_0 M0 M0 := Fr.rf _ _
 refine jx_load c1 hm rfl rfl rfl rfl ?_
 refine jx_getr c1 hm rfl sh_0 rfl ?_
 refine jx_getr c1 hm rfl sh_5 rfl ?_
 refine jx_load c1 hm rfl rfl rfl rfl ?_
 refine jy_bp c1 hm rfl (by decide) ?_
 refine jy_mul c1 hm (6 * a0) rfl (by omega) ?_
 refine jx_load c1 hm rfl rfl rfl rfl ?_
 refine jy_add c1 hm (6 * a0 + a1) rfl (by omega) ?_
 obtain ⟨w1, kw1⟩ : ∃ w, M0.2 7 ((6 * a0 + a1)).toNat = w := ⟨_, rfl⟩
 refine jx_lald c1 hm rfl sh_7 ⟨by omega, by omega⟩ kw1 ?_
 refine jx_stor c1 hm (L' := [some (.inr (.inr (.inl 0))), some (.inl a0), some (.inl a1), some (.inr (.inl w1)), none, none, none]) rfl rfl rfl rfl rfl ?_
 refine jy_bp c1 hm rfl (by decide) ?_
 refine jx_stor c1 hm (L' := [some (.inr (.inr (.inl 0))), some (.inl a0), some (.inl a1), some (.inr (.inl w1)), none, some (.inl 48), none]) rfl rfl rfl rfl rfl ?_
 have W5 : ∀ (n6 : Nat) (b2 : Int) (hb2 : (-8) ≤ b2 ∧ b2 ≤ 48) (o3 : Option JV) (ho3 : o3 = none ∨ (∃ z, o3 = some (.inl z)) ∨ ∃ r, o3 = some (.inr (.inr r))) (M4 : JM) (hH4 : HI (X) M4) (hF4 : Fr md_X11_listName_0 M0 M4), (b2 + 8) < (n6 : Int) → F 19 [some (.inr (.inr (.inl 0))), some (.inl a0), some (.inl a1), some (.inr (.inl w1)), none, some (.inl b2), o3] [] M4 := by
  intro n6
  induction n6 with
  | zero => intros; omega
  | succ n6 ihW5 =>
   intro b2 hb2 o3 ho3 M4 hH4 hF4 hrW5
   refine jx_load c1 hm rfl rfl rfl rfl ?_
   refine jz_lt c1 hm 52 rfl rfl (fun h7 => ?_) (fun h7 => ?_)
   ·
    exact jx_retv c2 hm rfl rfl ⟨rfl, hH4, hF4⟩
   refine jx_load c1 hm rfl rfl rfl rfl ?_
   refine jx_load c1 hm rfl rfl rfl rfl ?_
   refine jx_lsh c1 hm rfl rfl (fun w8 ew8 => ?_)
   refine jx_l2i c1 hm rfl (fun z9 lz9 uz9 ez9 => ?_)
   refine jy_sp c1 hm rfl (by decide) ?_
   refine jy_anr c1 hm rfl ⟨by omega, by omega⟩ (fun z10 lz10 uz10 => ?_)
   refine jx_stor c1 hm (L' := [some (.inr (.inr (.inl 0))), some (.inl a0), some (.inl a1), some (.inr (.inl w1)), none, some (.inl b2), some (.inl z10)]) rfl rfl rfl rfl rfl ?_
   refine jx_load c1 hm rfl rfl rfl rfl ?_
   have J14 : ∀ (M13 : JM) (hH13 : HI (X) M13) (hF13 : Fr md_X11_listName_0 M0 M13), F 46 [some (.inr (.inr (.inl 0))), some (.inl a0), some (.inl a1), some (.inr (.inl w1)), none, some (.inl b2), some (.inl z10)] [] M13 := by
    intro M13 hH13 hF13
    refine jx_iinc c1 hm (v := (b2 - 8)) (L' := [some (.inr (.inr (.inl 0))), some (.inl a0), some (.inl a1), some (.inr (.inl w1)), none, some (.inl (b2 - 8)), some (.inl z10)]) rfl rfl (by omega) (by omega) rfl ?_
    refine jx_goto c1 hm 19 rfl rfl ?_
    exact ihW5 (b2 - 8) (by omega) (some (.inl z10)) (Or.inr (Or.inl ⟨_, rfl⟩)) M13 hH13 hF13 (by omega)
   refine jz_eq c1 hm 46 rfl rfl (fun h11 => ?_) (fun h11 => ?_)
   ·
    exact J14 M4 hH4 hF4
   refine jx_load c1 hm rfl rfl rfl rfl ?_
   refine jx_load c1 hm rfl rfl rfl rfl ?_
   refine jv_v c3 hm rfl pj_X11_listByte rfl rfl ⟨_, _, _, rfl, sh_0⟩ rfl ((ct_X11_listByte_0 X (by omega) M4 hH4 z10 ⟨by omega, by omega⟩).le (by decide)) (fun M12 ⟨hH12, hR12⟩ => ?_)
   have hF12 := hF4.tr hR12 (by decide +kernel)
   exact J14 M12 hH12 hF12
 exact W5 (56 + 1 : Int).toNat 48 (by omega) none (Or.inl rfl) M0 hH0 hF0 (by omega)
theorem ct_X0_mildestForfeit_4 (X : Int) (hX : 0 ≤ X ∧ X ≤ 100000000) (M0 : JM) (hH0 : HI X M0) (a0 : Int) (ha0 : 0 ≤ a0 ∧ a0 ≤ 5) : JOk shp PJ 3 9 [.inr (.inr (.inl 4)), .inl a0] M0 (jRi (fun v M' => M0 = M' ∧ (-1) ≤ v ∧ v ≤ 5 )) := by
 refine ⟨jr_X0_mildestForfeit, pj_X0_mildestForfeit, fun F c1 c2 c3 => ?_⟩
 have hm := pj_X0_mildestForfeit
 change F 0 [some (.inr (.inr (.inl 4))), some (.inl a0), none, none, none, none] [] M0
 refine jy_ic c1 hm rfl (by decide) ?_
 refine jx_stor c1 hm (L' := [some (.inr (.inr (.inl 4))), some (.inl a0), some (.inl (-1)), none, none, none]) rfl rfl rfl rfl rfl ?_
 refine jy_ic c1 hm rfl (by decide) ?_
 refine jx_stor c1 hm (L' := [some (.inr (.inr (.inl 4))), some (.inl a0), some (.inl (-1)), some (.inl 0), none, none]) rfl rfl rfl rfl rfl ?_
 refine jy_ic c1 hm rfl (by decide) ?_
 refine jx_stor c1 hm (L' := [some (.inr (.inr (.inl 4))), some (.inl a0), some (.inl (-1)), some (.inl 0), some (.inl 0), none]) rfl rfl rfl rfl rfl ?_
 have W5 : ∀ (n6 : Nat) (b1 : Int) (hb1 : (-1) ≤ b1 ∧ b1 ≤ 5) (b2 : Int) (hb2 : 0 ≤ b2 ∧ b2 ≤ 20) (b3 : Int) (hb3 : 0 ≤ b3 ∧ b3 ≤ 6) (o4 : Option JV) (ho4 : o4 = none ∨ (∃ z, o4 = some (.inl z)) ∨ ∃ r, o4 = some (.inr (.inr r))), (-b3 + 6) < (n6 : Int) → F 7 [some (.inr (.inr (.inl 4))), some (.inl a0), some (.inl b1), some (.inl b2), some (.inl b3), o4] [] M0 := by
  intro n6
  induction n6 with
  | zero => intros; omega
  | succ n6 ihW5 =>
   intro b1 hb1 b2 hb2 b3 hb3 o4 ho4 hrW5
   refine jx_load c1 hm rfl rfl rfl rfl ?_
   refine jx_load c1 hm rfl rfl rfl rfl ?_
   refine jx_getr c1 hm rfl sh_4 rfl ?_
   refine jv_i c3 hm rfl pj_X2_forfeits rfl rfl ⟨_, _, _, rfl, sh_5⟩ rfl ((ct_X2_forfeits_5 X (by omega) M0 hH0 ).le (by decide)) (fun z7 _ ⟨rfl, lz7, uz7⟩ => ?_)
   refine jc_ge c1 hm 83 rfl rfl (fun h8 => ?_) (fun h8 => ?_)
   ·
    refine jx_load c1 hm rfl rfl rfl rfl ?_
    exact jx_reti c2 hm rfl rfl ⟨_, rfl, rfl, by omega, by omega⟩
   refine jx_load c1 hm rfl rfl rfl rfl ?_
   refine jx_getr c1 hm rfl sh_4 rfl ?_
   refine jx_load c1 hm rfl rfl rfl rfl ?_
   refine jx_getr c1 hm rfl sh_4 rfl ?_
   refine jx_getr c1 hm rfl sh_5 rfl ?_
   refine jx_load c1 hm rfl rfl rfl rfl ?_
   refine jx_load c1 hm rfl rfl rfl rfl ?_
   refine jv_i c3 hm rfl pj_X2_costNow rfl rfl ⟨_, _, _, rfl, sh_5⟩ rfl ((ct_X2_costNow_5_12 X (by omega) M0 hH0 a0 ⟨by omega, by omega⟩ b3 ⟨by omega, by omega⟩).le (by decide)) (fun z9 _ ⟨rfl, lz9, uz9⟩ => ?_)
   refine jx_stor c1 hm (L' := [some (.inr (.inr (.inl 4))), some (.inl a0), some (.inl b1), some (.inl b2), some (.inl b3), some (.inl z9)]) rfl rfl rfl rfl rfl ?_
   refine jx_load c1 hm rfl rfl rfl rfl ?_
   have J18 : ∀ (b16 : Int) (hb16 : (-1) ≤ b16 ∧ b16 ≤ 5) (b17 : Int) (hb17 : 0 ≤ b17 ∧ b17 ≤ 20), F 77 [some (.inr (.inr (.inl 4))), some (.inl a0), some (.inl b16), some (.inl b17), some (.inl b3), some (.inl z9)] [] M0 := by
    intro b16 hb16 b17 hb17
    refine jx_iinc c1 hm (v := (b3 + 1)) (L' := [some (.inr (.inr (.inl 4))), some (.inl a0), some (.inl b16), some (.inl b17), some (.inl (b3 + 1)), some (.inl z9)]) rfl rfl (by omega) (by omega) rfl ?_
    refine jx_goto c1 hm 7 rfl rfl ?_
    exact ihW5 b16 (by omega) b17 (by omega) (b3 + 1) (by omega) (some (.inl z9)) (Or.inr (Or.inl ⟨_, rfl⟩)) (by omega)
   refine jz_le c1 hm 77 rfl rfl (fun h10 => ?_) (fun h10 => ?_)
   ·
    exact J18 b1 (by omega) b2 (by omega)
   refine jx_load c1 hm rfl rfl rfl rfl ?_
   refine jx_load c1 hm rfl rfl rfl rfl ?_
   refine jx_getr c1 hm rfl sh_4 rfl ?_
   refine jx_getr c1 hm rfl sh_5 rfl ?_
   refine jx_getr c1 hm rfl sh_12 rfl ?_
   refine jx_load c1 hm rfl rfl rfl rfl ?_
   obtain ⟨z11, k12, lz11, uz11⟩ := hH0.ld (c := 13) (i := (a0).toNat) (A := (-2147483648)) (B := 2147483647) rfl
   refine jx_iald c1 hm rfl sh_13 ⟨by omega, by omega⟩ k12 ?_
   refine jc_gt c1 hm 77 rfl rfl (fun h13 => ?_) (fun h13 => ?_)
   ·
    exact J18 b1 (by omega) b2 (by omega)
   refine jx_load c1 hm rfl rfl rfl rfl ?_
   refine jy_ic c1 hm rfl (by decide) ?_
   refine jc_eq c1 hm 71 rfl rfl (fun h14 => ?_) (fun h14 => ?_)
   ·
    refine jx_load c1 hm rfl rfl rfl rfl ?_
    refine jx_stor c1 hm (L' := [some (.inr (.inr (.inl 4))), some (.inl a0), some (.inl b3), some (.inl b2), some (.inl b3), some (.inl z9)]) rfl rfl rfl rfl rfl ?_
    refine jx_load c1 hm rfl rfl rfl rfl ?_
    refine jx_stor c1 hm (L' := [some (.inr (.inr (.inl 4))), some (.inl a0), some (.inl b3), some (.inl z9), some (.inl b3), some (.inl z9)]) rfl rfl rfl rfl rfl ?_
    exact J18 b3 (by omega) z9 (by omega)
   refine jx_load c1 hm rfl rfl rfl rfl ?_
   refine jx_load c1 hm rfl rfl rfl rfl ?_
   refine jc_ge c1 hm 77 rfl rfl (fun h15 => ?_) (fun h15 => ?_)
   ·
    exact J18 b1 (by omega) b2 (by omega)
   refine jx_load c1 hm rfl rfl rfl rfl ?_
   refine jx_stor c1 hm (L' := [some (.inr (.inr (.inl 4))), some (.inl a0), some (.inl b3), some (.inl b2), some (.inl b3), some (.inl z9)]) rfl rfl rfl rfl rfl ?_
   refine jx_load c1 hm rfl rfl rfl rfl ?_
   refine jx_stor c1 hm (L' := [some (.inr (.inr (.inl 4))), some (.inl a0), some (.inl b3), some (.inl z9), some (.inl b3), some (.inl z9)]) rfl rfl rfl rfl rfl ?_
   exact J18 b3 (by omega) z9 (by omega)
 exact W5 (6 + 1 : Int).toNat (-1) (by omega) 0 (by omega) 0 (by omega) none (Or.inl rfl) (by omega)
def md_X11_listText_0_t2 : List (Nat × (Nat × Nat)) := [(0, (17, 17)), (136, (0, 39))]
theorem ct_X11_listText_0_t2 (X : Int) (hX : 0 ≤ X ∧ X ≤ 100000000) (M0 : JM) (hH0 : HI X M0)  : JOk shp PJ 2 51 [.inr (.inr (.inl 0)), .inr (.inr (.inr 2))] M0 (jRv (fun M' => HI X M' ∧ Fr md_X11_listText_0_t2 M0 M' )) := by
 refine ⟨jr_X11_listText, pj_X11_listText, fun F c1 c2 c3 => ?_⟩
 have hm := pj_X11_listText
 change F 0 [some (.inr (.inr (.inl 0))), some (.inr (.inr (.inr 2))), none] [] M0
 have hF0 : Fr md_X11_listText_0_t2 M0 M0 := Fr.rf _ _
 refine jy_ic c1 hm rfl (by decide) ?_
 refine jx_stor c1 hm (L' := [some (.inr (.inr (.inl 0))), some (.inr (.inr (.inr 2))), some (.inl 0)]) rfl rfl rfl rfl rfl ?_
 have W3 : ∀ (n4 : Nat) (b1 : Int) (hb1 : 0 ≤ b1 ∧ b1 ≤ 7) (M2 : JM) (hH2 : HI (X) M2) (hF2 : Fr md_X11_listText_0_t2 M0 M2), (-b1 + 7) < (n4 : Int) → F 2 [some (.inr (.inr (.inl 0))), some (.inr (.inr (.inr 2))), some (.inl b1)] [] M2 := by
  intro n4
  induction n4 with
  | zero => intros; omega
  | succ n4 ihW3 =>
   intro b1 hb1 M2 hH2 hF2 hrW3
   refine jx_load c1 hm rfl rfl rfl rfl ?_
   refine jx_load c1 hm rfl rfl rfl rfl ?_
   refine jx_slng c1 hm (v := 7) rfl rfl rfl rfl rfl ?_
   refine jc_ge c1 hm 25 rfl rfl (fun h5 => ?_) (fun h5 => ?_)
   ·
    exact jx_retv c2 hm rfl rfl ⟨rfl, hH2, hF2⟩
   refine jx_load c1 hm rfl rfl rfl rfl ?_
   refine jx_load c1 hm rfl rfl rfl rfl ?_
   refine jx_load c1 hm rfl rfl rfl rfl ?_
   refine jy_schb c1 hm rfl rfl rfl rfl rfl ⟨by omega, by simp; omega⟩ (fun z6 lz6 uz6 => ?_)
   refine jv_v c3 hm rfl pj_X11_listByte rfl rfl ⟨_, _, _, rfl, sh_0⟩ rfl ((ct_X11_listByte_0 X (by omega) M2 hH2 z6 ⟨by omega, by omega⟩).le (by decide)) (fun M7 ⟨hH7, hR7⟩ => ?_)
   have hF7 := hF2.tr hR7 (by decide +kernel)
   refine jx_iinc c1 hm (v := (b1 + 1)) (L' := [some (.inr (.inr (.inl 0))), some (.inr (.inr (.inr 2))), some (.inl (b1 + 1))]) rfl rfl (by omega) (by omega) rfl ?_
   refine jx_goto c1 hm 2 rfl rfl ?_
   exact ihW3 (b1 + 1) (by omega) M7 hH7 hF7 (by omega)
 exact W3 (7 + 1 : Int).toNat 0 (by omega) M0 hH0 hF0 (by omega)
def md_X11_listText_0_t3 : List (Nat × (Nat × Nat)) := [(0, (17, 17)), (136, (0, 39))]
theorem ct_X11_listText_0_t3 (X : Int) (hX : 0 ≤ X ∧ X ≤ 100000000) (M0 : JM) (hH0 : HI X M0)  : JOk shp PJ 2 51 [.inr (.inr (.inl 0)), .inr (.inr (.inr 3))] M0 (jRv (fun M' => HI X M' ∧ Fr md_X11_listText_0_t3 M0 M' )) := by
 refine ⟨jr_X11_listText, pj_X11_listText, fun F c1 c2 c3 => ?_⟩
 have hm := pj_X11_listText
 change F 0 [some (.inr (.inr (.inl 0))), some (.inr (.inr (.inr 3))), none] [] M0
 have hF0 : Fr md_X11_listText_0_t3 M0 M0 := Fr.rf _ _
 refine jy_ic c1 hm rfl (by decide) ?_
 refine jx_stor c1 hm (L' := [some (.inr (.inr (.inl 0))), some (.inr (.inr (.inr 3))), some (.inl 0)]) rfl rfl rfl rfl rfl ?_
 have W3 : ∀ (n4 : Nat) (b1 : Int) (hb1 : 0 ≤ b1 ∧ b1 ≤ 5) (M2 : JM) (hH2 : HI (X) M2) (hF2 : Fr md_X11_listText_0_t3 M0 M2), (-b1 + 5) < (n4 : Int) → F 2 [some (.inr (.inr (.inl 0))), some (.inr (.inr (.inr 3))), some (.inl b1)] [] M2 := by
  intro n4
  induction n4 with
  | zero => intros; omega
  | succ n4 ihW3 =>
   intro b1 hb1 M2 hH2 hF2 hrW3
   refine jx_load c1 hm rfl rfl rfl rfl ?_
   refine jx_load c1 hm rfl rfl rfl rfl ?_
   refine jx_slng c1 hm (v := 5) rfl rfl rfl rfl rfl ?_
   refine jc_ge c1 hm 25 rfl rfl (fun h5 => ?_) (fun h5 => ?_)
   ·
    exact jx_retv c2 hm rfl rfl ⟨rfl, hH2, hF2⟩
   refine jx_load c1 hm rfl rfl rfl rfl ?_
   refine jx_load c1 hm rfl rfl rfl rfl ?_
   refine jx_load c1 hm rfl rfl rfl rfl ?_
   refine jy_schb c1 hm rfl rfl rfl rfl rfl ⟨by omega, by simp; omega⟩ (fun z6 lz6 uz6 => ?_)
   refine jv_v c3 hm rfl pj_X11_listByte rfl rfl ⟨_, _, _, rfl, sh_0⟩ rfl ((ct_X11_listByte_0 X (by omega) M2 hH2 z6 ⟨by omega, by omega⟩).le (by decide)) (fun M7 ⟨hH7, hR7⟩ => ?_)
   have hF7 := hF2.tr hR7 (by decide +kernel)
   refine jx_iinc c1 hm (v := (b1 + 1)) (L' := [some (.inr (.inr (.inl 0))), some (.inr (.inr (.inr 3))), some (.inl (b1 + 1))]) rfl rfl (by omega) (by omega) rfl ?_
   refine jx_goto c1 hm 2 rfl rfl ?_
   exact ihW3 (b1 + 1) (by omega) M7 hH7 hF7 (by omega)
 exact W3 (5 + 1 : Int).toNat 0 (by omega) M0 hH0 hF0 (by omega)
def md_X11_listNumber_0 : List (Nat × (Nat × Nat)) := [(0, (17, 17)), (136, (0, 39))]
theorem ct_X11_listNumber_0 (X : Int) (hX : 0 ≤ X ∧ X ≤ 100000000) (M0 : JM) (hH0 : HI X M0) (a0 : Int) (ha0 : 0 ≤ a0 ∧ a0 ≤ 20) : JOk shp PJ 2 50 [.inr (.inr (.inl 0)), .inl a0] M0 (jRv (fun M' => HI X M' ∧ Fr md_X11_listNumber_0 M0 M' )) := by
 refine ⟨jr_X11_listNumber, pj_X11_listNumber, fun F c1 c2 c3 => ?_⟩
 have hm := pj_X11_listNumber
 change F 0 [some (.inr (.inr (.inl 0))), some (.inl a0)] [] M0
 have hF0 : Fr md_X11_listNumber_0 M0 M0 := Fr.rf _ _
 refine jx_load c1 hm rfl rfl rfl rfl ?_
 refine jy_bp c1 hm rfl (by decide) ?_
 have J5 : ∀ (M4 : JM) (hH4 : HI (X) M4) (hF4 : Fr md_X11_listNumber_0 M0 M4), F 17 [some (.inr (.inr (.inl 0))), some (.inl a0)] [] M4 := by
  intro M4 hH4 hF4
  refine jx_load c1 hm rfl rfl rfl rfl ?_
  refine jy_bp c1 hm rfl (by decide) ?_
  refine jx_load c1 hm rfl rfl rfl rfl ?_
  refine jy_bp c1 hm rfl (by decide) ?_
  refine jy_rem c1 hm rfl ⟨by omega, by omega, by omega, by omega⟩ (fun z6 ez6 lz6 uz6 => ?_)
  refine jy_add c1 hm (z6 + 48) rfl (by omega) ?_
  refine jv_v c3 hm rfl pj_X11_listByte rfl rfl ⟨_, _, _, rfl, sh_0⟩ rfl ((ct_X11_listByte_0 X (by omega) M4 hH4 (z6 + 48) ⟨by omega, by omega⟩).le (by decide)) (fun M7 ⟨hH7, hR7⟩ => ?_)
  have hF7 := hF4.tr hR7 (by decide +kernel)
  exact jx_retv c2 hm rfl rfl ⟨rfl, hH7, hF7⟩
 refine jc_lt c1 hm 17 rfl rfl (fun h1 => ?_) (fun h1 => ?_)
 ·
  exact J5 M0 hH0 hF0
 refine jx_load c1 hm rfl rfl rfl rfl ?_
 refine jy_bp c1 hm rfl (by decide) ?_
 refine jx_load c1 hm rfl rfl rfl rfl ?_
 refine jy_bp c1 hm rfl (by decide) ?_
 refine jy_div c1 hm rfl ⟨by omega, by omega, by omega, by omega⟩ (fun z2 ez2 lz2 uz2 => ?_)
 refine jy_add c1 hm (z2 + 48) rfl (by omega) ?_
 refine jv_v c3 hm rfl pj_X11_listByte rfl rfl ⟨_, _, _, rfl, sh_0⟩ rfl ((ct_X11_listByte_0 X (by omega) M0 hH0 (z2 + 48) ⟨by omega, by omega⟩).le (by decide)) (fun M3 ⟨hH3, hR3⟩ => ?_)
 have hF3 := hF0.tr hR3 (by decide +kernel)
 exact J5 M3 hH3 hF3
def md_X11_listText_0_t1 : List (Nat × (Nat × Nat)) := [(0, (17, 17)), (136, (0, 39))]
theorem ct_X11_listText_0_t1 (X : Int) (hX : 0 ≤ X ∧ X ≤ 100000000) (M0 : JM) (hH0 : HI X M0)  : JOk shp PJ 2 51 [.inr (.inr (.inl 0)), .inr (.inr (.inr 1))] M0 (jRv (fun M' => HI X M' ∧ Fr md_X11_listText_0_t1 M0 M' )) := by
 refine ⟨jr_X11_listText, pj_X11_listText, fun F c1 c2 c3 => ?_⟩
 have hm := pj_X11_listText
 change F 0 [some (.inr (.inr (.inl 0))), some (.inr (.inr (.inr 1))), none] [] M0
 have hF0 : Fr md_X11_listText_0_t1 M0 M0 := Fr.rf _ _
 refine jy_ic c1 hm rfl (by decide) ?_
 refine jx_stor c1 hm (L' := [some (.inr (.inr (.inl 0))), some (.inr (.inr (.inr 1))), some (.inl 0)]) rfl rfl rfl rfl rfl ?_
 have W3 : ∀ (n4 : Nat) (b1 : Int) (hb1 : 0 ≤ b1 ∧ b1 ≤ 10) (M2 : JM) (hH2 : HI (X) M2) (hF2 : Fr md_X11_listText_0_t1 M0 M2), (-b1 + 10) < (n4 : Int) → F 2 [some (.inr (.inr (.inl 0))), some (.inr (.inr (.inr 1))), some (.inl b1)] [] M2 := by
  intro n4
  induction n4 with
  | zero => intros; omega
  | succ n4 ihW3 =>
   intro b1 hb1 M2 hH2 hF2 hrW3
   refine jx_load c1 hm rfl rfl rfl rfl ?_
   refine jx_load c1 hm rfl rfl rfl rfl ?_
   refine jx_slng c1 hm (v := 10) rfl rfl rfl rfl rfl ?_
   refine jc_ge c1 hm 25 rfl rfl (fun h5 => ?_) (fun h5 => ?_)
   ·
    exact jx_retv c2 hm rfl rfl ⟨rfl, hH2, hF2⟩
   refine jx_load c1 hm rfl rfl rfl rfl ?_
   refine jx_load c1 hm rfl rfl rfl rfl ?_
   refine jx_load c1 hm rfl rfl rfl rfl ?_
   refine jy_schb c1 hm rfl rfl rfl rfl rfl ⟨by omega, by simp; omega⟩ (fun z6 lz6 uz6 => ?_)
   refine jv_v c3 hm rfl pj_X11_listByte rfl rfl ⟨_, _, _, rfl, sh_0⟩ rfl ((ct_X11_listByte_0 X (by omega) M2 hH2 z6 ⟨by omega, by omega⟩).le (by decide)) (fun M7 ⟨hH7, hR7⟩ => ?_)
   have hF7 := hF2.tr hR7 (by decide +kernel)
   refine jx_iinc c1 hm (v := (b1 + 1)) (L' := [some (.inr (.inr (.inl 0))), some (.inr (.inr (.inr 1))), some (.inl (b1 + 1))]) rfl rfl (by omega) (by omega) rfl ?_
   refine jx_goto c1 hm 2 rfl rfl ?_
   exact ihW3 (b1 + 1) (by omega) M7 hH7 hF7 (by omega)
 exact W3 (10 + 1 : Int).toNat 0 (by omega) M0 hH0 hF0 (by omega)
def md_X11_list_0 : List (Nat × (Nat × Nat)) := [(0, (17, 17)), (136, (0, 39))]
theorem ct_X11_list_0 (X : Int) (hX : 0 ≤ X ∧ X ≤ 100000000) (M0 : JM) (hH0 : HI X M0) (a0 : Int) (ha0 : (-2147483648) ≤ a0 ∧ a0 ≤ 2147483647) : JOk shp PJ 4 47 [.inr (.inr (.inl 0)), .inl a0] M0 (jRi (fun v M' => HI X M' ∧ Fr md_X11_list_0 M0 M' ∧ (-1) ≤ v ∧ v ≤ 40 )) := by
 refine ⟨jr_X11_list, pj_X11_list, fun F c1 c2 c3 => ?_⟩
 have hm := pj_X11_list
 change F 0 [some (.inr (.inr (.inl 0))), some (.inl a0), none] [] M0
 have hF0 : Fr md_X11_list_0 M0 M0 := Fr.rf _ _
 refine jx_load c1 hm rfl rfl rfl rfl ?_
 refine jx_getr c1 hm rfl sh_0 rfl ?_
 refine jy_ic c1 hm rfl (by decide) ?_
 refine jx_load c1 hm rfl rfl rfl rfl ?_
 refine jv_i c3 hm rfl pj_X2_has rfl rfl ⟨_, _, _, rfl, sh_5⟩ rfl ((ct_X2_has_5 X (by omega) M0 hH0 0 ⟨by omega, by omega⟩ a0 ⟨by omega, by omega⟩).le (by decide)) (fun z1 _ ⟨rfl, lz1, uz1, p2⟩ => ?_)
 refine jz_ne c1 hm 14 rfl rfl (fun h3 => ?_) (fun h3 => ?_)
 ·
  refine jx_load c1 hm rfl rfl rfl rfl ?_
  refine jy_ic c1 hm rfl (by decide) ?_
  obtain ⟨M4, e4, hH4, hF4, k4, n4, _⟩ := mup hH0 hF0 (c := 0) (i := 17) (v := 0) (A := 0) (B := 40) (bs_18_3 _ _ (by omega) (by omega)) ⟨by omega, by omega⟩ (jin_of 0 rfl ⟨by omega, by omega⟩)
  refine jm_puti c1 hm rfl sh_0 rfl e4 ?_
  refine jx_load c1 hm rfl rfl rfl rfl ?_
  refine jy_ic c1 hm rfl (by decide) ?_
  refine jx_load c1 hm rfl rfl rfl rfl ?_
  refine jv_v c3 hm rfl pj_X11_listName rfl rfl ⟨_, _, _, rfl, sh_0⟩ rfl ((ct_X11_listName_0 X (by omega) M4 hH4 0 ⟨by omega, by omega⟩ a0 ⟨by omega, by omega⟩).le (by decide)) (fun M5 ⟨hH5, hR5⟩ => ?_)
  have hF5 := hF4.tr hR5 (by decide +kernel)
  refine jx_load c1 hm rfl rfl rfl rfl ?_
  refine jx_getr c1 hm rfl sh_0 rfl ?_
  refine jx_load c1 hm rfl rfl rfl rfl ?_
  refine jv_i c3 hm rfl pj_X0_mildestForfeit rfl rfl ⟨_, _, _, rfl, sh_4⟩ rfl ((ct_X0_mildestForfeit_4 X (by omega) M5 hH5 a0 ⟨by omega, by omega⟩).le (by decide)) (fun z6 _ ⟨rfl, lz6, uz6⟩ => ?_)
  refine jx_stor c1 hm (L' := [some (.inr (.inr (.inl 0))), some (.inl a0), some (.inl z6)]) rfl rfl rfl rfl rfl ?_
  refine jx_load c1 hm rfl rfl rfl rfl ?_
  refine jy_ic c1 hm rfl (by decide) ?_
  refine jc_ne c1 hm 49 rfl rfl (fun h7 => ?_) (fun h7 => ?_)
  ·
   refine jx_load c1 hm rfl rfl rfl rfl ?_
   refine jx_ldcs c1 hm rfl rfl ?_
   refine jv_v c3 hm rfl pj_X11_listText rfl rfl ⟨_, _, _, rfl, sh_0⟩ rfl ((ct_X11_listText_0_t2 X (by omega) M5 hH5 ).le (by decide)) (fun M8 ⟨hH8, hR8⟩ => ?_)
   have hF8 := hF5.tr hR8 (by decide +kernel)
   refine jx_load c1 hm rfl rfl rfl rfl ?_
   refine jy_ic c1 hm rfl (by decide) ?_
   refine jx_load c1 hm rfl rfl rfl rfl ?_
   refine jv_v c3 hm rfl pj_X11_listName rfl rfl ⟨_, _, _, rfl, sh_0⟩ rfl ((ct_X11_listName_0 X (by omega) M8 hH8 1 ⟨by omega, by omega⟩ z6 ⟨by omega, by omega⟩).le (by decide)) (fun M9 ⟨hH9, hR9⟩ => ?_)
   have hF9 := hF8.tr hR9 (by decide +kernel)
   refine jx_load c1 hm rfl rfl rfl rfl ?_
   refine jx_ldcs c1 hm rfl rfl ?_
   refine jv_v c3 hm rfl pj_X11_listText rfl rfl ⟨_, _, _, rfl, sh_0⟩ rfl ((ct_X11_listText_0_t3 X (by omega) M9 hH9 ).le (by decide)) (fun M10 ⟨hH10, hR10⟩ => ?_)
   have hF10 := hF9.tr hR10 (by decide +kernel)
   refine jx_load c1 hm rfl rfl rfl rfl ?_
   refine jx_load c1 hm rfl rfl rfl rfl ?_
   refine jx_getr c1 hm rfl sh_0 rfl ?_
   refine jx_load c1 hm rfl rfl rfl rfl ?_
   refine jx_getr c1 hm rfl sh_0 rfl ?_
   refine jx_getr c1 hm rfl sh_5 rfl ?_
   refine jx_load c1 hm rfl rfl rfl rfl ?_
   refine jx_load c1 hm rfl rfl rfl rfl ?_
   refine jv_i c3 hm rfl pj_X2_costNow rfl rfl ⟨_, _, _, rfl, sh_5⟩ rfl ((ct_X2_costNow_5_12 X (by omega) M10 hH10 a0 ⟨by omega, by omega⟩ z6 ⟨by omega, by omega⟩).le (by decide)) (fun z11 _ ⟨rfl, lz11, uz11⟩ => ?_)
   refine jv_v c3 hm rfl pj_X11_listNumber rfl rfl ⟨_, _, _, rfl, sh_0⟩ rfl ((ct_X11_listNumber_0 X (by omega) M10 hH10 z11 ⟨by omega, by omega⟩).le (by decide)) (fun M12 ⟨hH12, hR12⟩ => ?_)
   have hF12 := hF10.tr hR12 (by decide +kernel)
   refine jx_load c1 hm rfl rfl rfl rfl ?_
   obtain ⟨z13, k14, lz13, uz13⟩ := hH12.ld (c := 0) (i := 17) (A := 0) (B := 40) (bs_18_3 _ _ (by omega) (by omega))
   refine jx_geti c1 hm rfl sh_0 rfl k14 ?_
   exact jx_reti c2 hm rfl rfl ⟨_, rfl, hH12, hF12, by omega, by omega⟩
  refine jx_load c1 hm rfl rfl rfl rfl ?_
  refine jx_ldcs c1 hm rfl rfl ?_
  refine jv_v c3 hm rfl pj_X11_listText rfl rfl ⟨_, _, _, rfl, sh_0⟩ rfl ((ct_X11_listText_0_t1 X (by omega) M5 hH5 ).le (by decide)) (fun M15 ⟨hH15, hR15⟩ => ?_)
  have hF15 := hF5.tr hR15 (by decide +kernel)
  refine jx_goto c1 hm 89 rfl rfl ?_
  refine jx_load c1 hm rfl rfl rfl rfl ?_
  obtain ⟨z16, k17, lz16, uz16⟩ := hH15.ld (c := 0) (i := 17) (A := 0) (B := 40) (bs_18_3 _ _ (by omega) (by omega))
  refine jx_geti c1 hm rfl sh_0 rfl k17 ?_
  exact jx_reti c2 hm rfl rfl ⟨_, rfl, hH15, hF15, by omega, by omega⟩
 refine jy_ic c1 hm rfl (by decide) ?_
 exact jx_reti c2 hm rfl rfl ⟨_, rfl, hH0, hF0, by omega, by omega⟩
theorem ct_X11_byteAt_0 (X : Int) (hX : 0 ≤ X ∧ X ≤ 100000000) (M0 : JM) (hH0 : HI X M0) (a0 : Int) (ha0 : (-2147483648) ≤ a0 ∧ a0 ≤ 2147483647) : JOk shp PJ 1 28 [.inr (.inr (.inl 0)), .inl a0] M0 (jRi (fun v M' => M0 = M' ∧ (-1) ≤ v ∧ v ≤ 255 )) := by
 refine ⟨jr_X11_byteAt, pj_X11_byteAt, fun F c1 c2 c3 => ?_⟩
 have hm := pj_X11_byteAt
 change F 0 [some (.inr (.inr (.inl 0))), some (.inl a0)] [] M0
 refine jx_load c1 hm rfl rfl rfl rfl ?_
 refine jz_lt c1 hm 25 rfl rfl (fun h1 => ?_) (fun h1 => ?_)
 ·
  refine jy_ic c1 hm rfl (by decide) ?_
  exact jx_reti c2 hm rfl rfl ⟨_, rfl, rfl, by omega, by omega⟩
 refine jx_load c1 hm rfl rfl rfl rfl ?_
 refine jx_load c1 hm rfl rfl rfl rfl ?_
 obtain ⟨z2, k3, lz2, uz2⟩ := hH0.ld (c := 0) (i := 17) (A := 0) (B := 40) (bs_18_3 _ _ (by omega) (by omega))
 refine jx_geti c1 hm rfl sh_0 rfl k3 ?_
 refine jc_ge c1 hm 25 rfl rfl (fun h4 => ?_) (fun h4 => ?_)
 ·
  refine jy_ic c1 hm rfl (by decide) ?_
  exact jx_reti c2 hm rfl rfl ⟨_, rfl, rfl, by omega, by omega⟩
 refine jx_load c1 hm rfl rfl rfl rfl ?_
 refine jx_getr c1 hm rfl sh_0 rfl ?_
 refine jx_load c1 hm rfl rfl rfl rfl ?_
 obtain ⟨z5, k6, lz5, uz5⟩ := hH0.ld (c := 136) (i := (a0).toNat) (A := (-128)) (B := 127) rfl
 refine jx_bald c1 hm rfl sh_136 rfl ⟨by omega, by omega⟩ k6 ?_
 refine jy_sp c1 hm rfl (by decide) ?_
 refine jy_anr c1 hm rfl ⟨by omega, by omega⟩ (fun z7 lz7 uz7 => ?_)
 refine jx_goto c1 hm 26 rfl rfl ?_
 exact jx_reti c2 hm rfl rfl ⟨_, rfl, rfl, by omega, by omega⟩
def md_X0_draw_4 : List (Nat × (Nat × Nat)) := [(4, (4, 4))]
theorem ct_X0_draw_4 (X : Int) (hX : 0 ≤ X ∧ X ≤ 100000000) (M0 : JM) (hH0 : HI X M0) (a0 : Int) (ha0 : (-2147483648) ≤ a0 ∧ a0 ≤ 2147483647) : JOk shp PJ 1 4 [.inr (.inr (.inl 4)), .inl a0] M0 (jRi (fun v M' => HI X M' ∧ Fr md_X0_draw_4 M0 M' ∧ 0 ≤ v ∧ v ≤ 2147483646 ∧ (a0 ≤ 0 ∨ v < a0))) := by
 refine ⟨jr_X0_draw, pj_X0_draw, fun F c1 c2 c3 => ?_⟩
 have hm := pj_X0_draw
 change F 0 [some (.inr (.inr (.inl 4))), some (.inl a0)] [] M0
 have hF0 : Fr md_X0_draw_4 M0 M0 := Fr.rf _ _
 refine jx_load c1 hm rfl rfl rfl rfl ?_
 refine jx_load c1 hm rfl rfl rfl rfl ?_
 obtain ⟨z1, k2, lz1, uz1⟩ := hH0.ld (c := 4) (i := 4) (A := (-2147483648)) (B := 2147483647) rfl
 refine jx_geti c1 hm rfl sh_4 rfl k2 ?_
 refine jx_ldci c1 hm (v := 1103515245) rfl (by decide) ?_
 refine jx_iopw c1 hm rfl rfl (fun z3 lz3 uz3 => ?_)
 refine jy_sp c1 hm rfl (by decide) ?_
 refine jx_iopw c1 hm rfl rfl (fun z4 lz4 uz4 => ?_)
 obtain ⟨M5, e5, hH5, hF5, k5, n5, _⟩ := mup hH0 hF0 (c := 4) (i := 4) (v := z4) (A := (-2147483648)) (B := 2147483647) rfl ⟨by omega, by omega⟩ (jin_of 0 rfl ⟨by omega, by omega⟩)
 refine jm_puti c1 hm rfl sh_4 rfl e5 ?_
 refine jx_load c1 hm rfl rfl rfl rfl ?_
 refine jz_le c1 hm 31 rfl rfl (fun h6 => ?_) (fun h6 => ?_)
 ·
  refine jy_ic c1 hm rfl (by decide) ?_
  exact jx_reti c2 hm rfl rfl ⟨_, rfl, hH5, hF5, by omega, by omega, (by omega)⟩
 refine jx_load c1 hm rfl rfl rfl rfl ?_
 refine jx_geti c1 hm rfl sh_4 rfl k5 ?_
 refine jy_bp c1 hm rfl (by decide) ?_
 refine jy_ush c1 hm rfl (by omega) (fun z7 lz7 uz7 => ?_)
 refine jx_load c1 hm rfl rfl rfl rfl ?_
 refine jy_rem c1 hm rfl ⟨by omega, by omega, by omega, by omega⟩ (fun z8 ez8 lz8 uz8 => ?_)
 clear ez8
 refine jx_goto c1 hm 32 rfl rfl ?_
 exact jx_reti c2 hm rfl rfl ⟨_, rfl, hH5, hF5, by omega, by omega, (by omega)⟩
def md_X0_drawOne_4_12 : List (Nat × (Nat × Nat)) := [(4, (4, 4)), (12, (7, 7)), (13, (0, 5)), (14, (0, 5)), (15, (0, 5)), (16, (0, 5)), (17, (0, 35)), (18, (0, 35)), (19, (0, 35)), (23, (1, 1)), (24, (0, 5))]
theorem ct_X0_drawOne_4_12 (X : Int) (hX : 0 ≤ X ∧ X ≤ 99999999) (M0 : JM) (hH0 : HI X M0) (a0 : Int) (ha0 : 0 ≤ a0 ∧ a0 ≤ 3) (a1 : Int) (ha1 : 0 ≤ a1 ∧ a1 ≤ 5) (a2 : Int) (ha2 : 0 ≤ a2 ∧ a2 ≤ 6) : JOk shp PJ 11 6 [.inr (.inr (.inl 4)), .inr (.inr (.inl 12)), .inl a0, .inl a1, .inl a2] M0 (jRv (fun M' => HI (X + 1) M' ∧ Fr md_X0_drawOne_4_12 M0 M' )) := by
 refine ⟨jr_X0_drawOne, pj_X0_drawOne, fun F c1 c2 c3 => ?_⟩
 have hm := pj_X0_drawOne
 change F 0 [some (.inr (.inr (.inl 4))), some (.inr (.inr (.inl 12))), some (.inl a0), some (.inl a1), some (.inl a2), none] [] M0
 have hF0 : Fr md_X0_drawOne_4_12 M0 M0 := Fr.rf _ _
 refine jx_load c1 hm rfl rfl rfl rfl ?_
 refine jz_gt c1 hm 6 rfl rfl (fun h1 => ?_) (fun h1 => ?_)
 ·
  refine jx_load c1 hm rfl rfl rfl rfl ?_
  refine jx_load c1 hm rfl rfl rfl rfl ?_
  refine jv_i c3 hm rfl pj_X0_draw rfl rfl ⟨_, _, _, rfl, sh_4⟩ rfl ((ct_X0_draw_4 X (by omega) M0 hH0 a2 ⟨by omega, by omega⟩).le (by decide)) (fun z2 M4 ⟨hH4, hR4, lz2, uz2, p3⟩ => ?_)
  have hF4 := hF0.tr hR4 (by decide +kernel)
  refine jx_stor c1 hm (L' := [some (.inr (.inr (.inl 4))), some (.inr (.inr (.inl 12))), some (.inl a0), some (.inl a1), some (.inl a2), some (.inl z2)]) rfl rfl rfl rfl rfl ?_
  refine jx_load c1 hm rfl rfl rfl rfl ?_
  refine jx_load c1 hm rfl rfl rfl rfl ?_
  refine jx_load c1 hm rfl rfl rfl rfl ?_
  refine jx_load c1 hm rfl rfl rfl rfl ?_
  refine jx_load c1 hm rfl rfl rfl rfl ?_
  refine jy_ic c1 hm rfl (by decide) ?_
  refine jv_i c3 hm rfl pj_X0_whyNot rfl rfl ⟨_, _, _, rfl, sh_4⟩ rfl ((ct_X0_whyNot_4_12 X (by omega) M4 hH4 a0 ⟨by omega, by omega⟩ a1 ⟨by omega, by omega⟩ z2 ⟨by omega, by omega⟩ 1 ⟨by omega, by omega⟩).le (by decide)) (fun z5 M6 ⟨hH6, hR6, lz5, uz5⟩ => ?_)
  have hF6 := hF4.tr hR6 (by decide +kernel)
  refine jz_ne c1 hm 38 rfl rfl (fun h7 => ?_) (fun h7 => ?_)
  ·
   exact jx_retv c2 hm rfl rfl ⟨rfl, (hH6.mono (by omega) (by omega)), hF6⟩
  refine jx_load c1 hm rfl rfl rfl rfl ?_
  refine jx_load c1 hm rfl rfl rfl rfl ?_
  refine jx_load c1 hm rfl rfl rfl rfl ?_
  refine jx_load c1 hm rfl rfl rfl rfl ?_
  refine jx_load c1 hm rfl rfl rfl rfl ?_
  refine jy_ic c1 hm rfl (by decide) ?_
  refine jv_i c3 hm rfl pj_X0_perform rfl rfl ⟨_, _, _, rfl, sh_4⟩ rfl ((ct_X0_perform_4_12 X (by omega) M6 hH6 a0 ⟨by omega, by omega⟩ a1 ⟨by omega, by omega⟩ z2 ⟨by omega, by omega⟩ 1 ⟨by omega, by omega⟩).le (by decide)) (fun z8 M9 ⟨hH9, hR9, lz8, uz8⟩ => ?_)
  have hF9 := hF6.tr hR9 (by decide +kernel)
  refine jx_pop c1 hm rfl rfl ?_
  exact jx_retv c2 hm rfl rfl ⟨rfl, hH9, hF9⟩
 exact jx_retv c2 hm rfl rfl ⟨rfl, (hH0.mono (by omega) (by omega)), hF0⟩
theorem ct_X2_goods_5 (X : Int) (hX : 0 ≤ X ∧ X ≤ 100000000) (M0 : JM) (hH0 : HI X M0)  : JOk shp PJ 1 218 [.inr (.inr (.inl 5))] M0 (jRi (fun v M' => M0 = M' ∧ 0 ≤ v ∧ v ≤ 6 )) := by
 refine ⟨jr_X2_goods, pj_X2_goods, fun F c1 c2 c3 => ?_⟩
 have hm := pj_X2_goods
 change F 0 [some (.inr (.inr (.inl 5)))] [] M0
 refine jx_load c1 hm rfl rfl rfl rfl ?_
 refine jx_getr c1 hm rfl sh_5 rfl ?_
 refine jy_ic c1 hm rfl (by decide) ?_
 obtain ⟨z1, k2, lz1, uz1⟩ := hH0.ld (c := 6) (i := 2) (A := 0) (B := 6) rfl
 refine jx_iald c1 hm rfl sh_6 ⟨by omega, by omega⟩ k2 ?_
 exact jx_reti c2 hm rfl rfl ⟨_, rfl, rfl, by omega, by omega⟩
def md_X0_drawAct_4_12 : List (Nat × (Nat × Nat)) := [(4, (4, 4)), (12, (7, 7)), (13, (0, 5)), (14, (0, 5)), (15, (0, 5)), (16, (0, 5)), (17, (0, 35)), (18, (0, 35)), (19, (0, 35)), (23, (1, 1)), (24, (0, 5))]
theorem ct_X0_drawAct_4_12 (X : Int) (hX : 0 ≤ X ∧ X ≤ 99999999) (M0 : JM) (hH0 : HI X M0) (a0 : Int) (ha0 : 0 ≤ a0 ∧ a0 ≤ 5) : JOk shp PJ 12 5 [.inr (.inr (.inl 4)), .inr (.inr (.inl 12)), .inl a0] M0 (jRv (fun M' => HI (X + 1) M' ∧ Fr md_X0_drawAct_4_12 M0 M' )) := by
 refine ⟨jr_X0_drawAct, pj_X0_drawAct, fun F c1 c2 c3 => ?_⟩
 have hm := pj_X0_drawAct
 change F 0 [some (.inr (.inr (.inl 4))), some (.inr (.inr (.inl 12))), some (.inl a0)] [] M0
 have hF0 : Fr md_X0_drawAct_4_12 M0 M0 := Fr.rf _ _
 refine jx_load c1 hm rfl rfl rfl rfl ?_
 refine jy_ic c1 hm rfl (by decide) ?_
 refine jv_i c3 hm rfl pj_X0_draw rfl rfl ⟨_, _, _, rfl, sh_4⟩ rfl ((ct_X0_draw_4 X (by omega) M0 hH0 4 ⟨by omega, by omega⟩).le (by decide)) (fun z1 M3 ⟨hH3, hR3, lz1, uz1, p2⟩ => ?_)
 have hF3 := hF0.tr hR3 (by decide +kernel)
 by_cases h4 : z1 = 1
 ·
  refine jx_tswI c1 hm 32 rfl ⟨by omega, by omega⟩ (by rw [h4] <;> rfl) rfl ?_
  refine jx_load c1 hm rfl rfl rfl rfl ?_
  refine jx_load c1 hm rfl rfl rfl rfl ?_
  refine jy_ic c1 hm rfl (by decide) ?_
  refine jx_load c1 hm rfl rfl rfl rfl ?_
  refine jx_load c1 hm rfl rfl rfl rfl ?_
  refine jx_getr c1 hm rfl sh_4 rfl ?_
  refine jv_i c3 hm rfl pj_X2_forfeits rfl rfl ⟨_, _, _, rfl, sh_5⟩ rfl ((ct_X2_forfeits_5 X (by omega) M3 hH3 ).le (by decide)) (fun z5 _ ⟨rfl, lz5, uz5⟩ => ?_)
  refine jv_v c3 hm rfl pj_X0_drawOne rfl rfl ⟨_, _, _, rfl, sh_4⟩ rfl ((ct_X0_drawOne_4_12 X (by omega) M3 hH3 0 ⟨by omega, by omega⟩ a0 ⟨by omega, by omega⟩ z5 ⟨by omega, by omega⟩).le (by decide)) (fun M6 ⟨hH6, hR6⟩ => ?_)
  have hF6 := hF3.tr hR6 (by decide +kernel)
  refine jx_goto c1 hm 83 rfl rfl ?_
  exact jx_retv c2 hm rfl rfl ⟨rfl, hH6, hF6⟩
 by_cases h7 : z1 = 2
 ·
  refine jx_tswI c1 hm 49 rfl ⟨by omega, by omega⟩ (by rw [h7] <;> rfl) rfl ?_
  refine jx_load c1 hm rfl rfl rfl rfl ?_
  refine jx_load c1 hm rfl rfl rfl rfl ?_
  refine jy_ic c1 hm rfl (by decide) ?_
  refine jx_load c1 hm rfl rfl rfl rfl ?_
  refine jx_load c1 hm rfl rfl rfl rfl ?_
  refine jx_getr c1 hm rfl sh_4 rfl ?_
  refine jv_i c3 hm rfl pj_X2_goods rfl rfl ⟨_, _, _, rfl, sh_5⟩ rfl ((ct_X2_goods_5 X (by omega) M3 hH3 ).le (by decide)) (fun z8 _ ⟨rfl, lz8, uz8⟩ => ?_)
  refine jv_v c3 hm rfl pj_X0_drawOne rfl rfl ⟨_, _, _, rfl, sh_4⟩ rfl ((ct_X0_drawOne_4_12 X (by omega) M3 hH3 1 ⟨by omega, by omega⟩ a0 ⟨by omega, by omega⟩ z8 ⟨by omega, by omega⟩).le (by decide)) (fun M9 ⟨hH9, hR9⟩ => ?_)
  have hF9 := hF3.tr hR9 (by decide +kernel)
  refine jx_goto c1 hm 83 rfl rfl ?_
  exact jx_retv c2 hm rfl rfl ⟨rfl, hH9, hF9⟩
 by_cases h10 : z1 = 3
 ·
  refine jx_tswI c1 hm 66 rfl ⟨by omega, by omega⟩ (by rw [h10] <;> rfl) rfl ?_
  refine jx_load c1 hm rfl rfl rfl rfl ?_
  refine jx_load c1 hm rfl rfl rfl rfl ?_
  refine jy_ic c1 hm rfl (by decide) ?_
  refine jx_load c1 hm rfl rfl rfl rfl ?_
  refine jx_load c1 hm rfl rfl rfl rfl ?_
  refine jx_getr c1 hm rfl sh_4 rfl ?_
  refine jv_i c3 hm rfl pj_X2_men rfl rfl ⟨_, _, _, rfl, sh_5⟩ rfl ((ct_X2_men_5 X (by omega) M3 hH3 ).le (by decide)) (fun z11 _ ⟨rfl, lz11, uz11⟩ => ?_)
  refine jv_v c3 hm rfl pj_X0_drawOne rfl rfl ⟨_, _, _, rfl, sh_4⟩ rfl ((ct_X0_drawOne_4_12 X (by omega) M3 hH3 3 ⟨by omega, by omega⟩ a0 ⟨by omega, by omega⟩ z11 ⟨by omega, by omega⟩).le (by decide)) (fun M12 ⟨hH12, hR12⟩ => ?_)
  have hF12 := hF3.tr hR12 (by decide +kernel)
  refine jx_goto c1 hm 83 rfl rfl ?_
  exact jx_retv c2 hm rfl rfl ⟨rfl, hH12, hF12⟩
 refine jx_tswO c1 hm 83 rfl (by omega) rfl ?_
 exact jx_retv c2 hm rfl rfl ⟨rfl, (hH3.mono (by omega) (by omega)), hF3⟩
def md_X0_drawWeeks_4_12 : List (Nat × (Nat × Nat)) := [(4, (4, 4)), (12, (7, 7)), (13, (0, 5)), (14, (0, 5)), (15, (0, 5)), (16, (0, 5)), (17, (0, 35)), (18, (0, 35)), (19, (0, 35)), (23, (1, 1)), (24, (0, 5))]
theorem ct_X0_drawWeeks_4_12 (X : Int) (hX : 0 ≤ X ∧ X ≤ 99999640) (M0 : JM) (hH0 : HI X M0) (a0 : Int) (ha0 : (-2147483648) ≤ a0 ∧ a0 ≤ 60) (a1 : Int) (ha1 : (-2147483648) ≤ a1 ∧ a1 ≤ 2147483647) : JOk shp PJ 13 7 [.inr (.inr (.inl 4)), .inr (.inr (.inl 12)), .inl a0, .inl a1] M0 (jRv (fun M' => HI (X + 360) M' ∧ Fr md_X0_drawWeeks_4_12 M0 M' )) := by
 refine ⟨jr_X0_drawWeeks, pj_X0_drawWeeks, fun F c1 c2 c3 => ?_⟩
 have hm := pj_X0_drawWeeks
 change F 0 [some (.inr (.inr (.inl 4))), some (.inr (.inr (.inl 12))), some (.inl a0), some (.inl a1), none, none] [] M0
 have hF0 : Fr md_X0_drawWeeks_4_12 M0 M0 := Fr.rf _ _
 refine jx_load c1 hm rfl rfl rfl rfl ?_
 refine jx_load c1 hm rfl rfl rfl rfl ?_
 obtain ⟨M1, e1, hH1, hF1, k1, n1, _⟩ := mup hH0 hF0 (c := 4) (i := 4) (v := a1) (A := (-2147483648)) (B := 2147483647) rfl ⟨by omega, by omega⟩ (jin_of 0 rfl ⟨by omega, by omega⟩)
 refine jm_puti c1 hm rfl sh_4 rfl e1 ?_
 refine jy_ic c1 hm rfl (by decide) ?_
 refine jx_stor c1 hm (L' := [some (.inr (.inr (.inl 4))), some (.inr (.inr (.inl 12))), some (.inl a0), some (.inl a1), some (.inl 0), none]) rfl rfl rfl rfl rfl ?_
 have W5 : ∀ (n6 : Nat) (b2 : Int) (hb2 : 0 ≤ b2 ∧ b2 ≤ 60) (o3 : Option JV) (ho3 : o3 = none ∨ (∃ z, o3 = some (.inl z)) ∨ ∃ r, o3 = some (.inr (.inr r))) (M4 : JM) (hH4 : HI (X + 6 * b2) M4) (hF4 : Fr md_X0_drawWeeks_4_12 M0 M4), (-b2 + 60) < (n6 : Int) → F 8 [some (.inr (.inr (.inl 4))), some (.inr (.inr (.inl 12))), some (.inl a0), some (.inl a1), some (.inl b2), o3] [] M4 := by
  intro n6
  induction n6 with
  | zero => intros; omega
  | succ n6 ihW5 =>
   intro b2 hb2 o3 ho3 M4 hH4 hF4 hrW5
   refine jx_load c1 hm rfl rfl rfl rfl ?_
   refine jx_load c1 hm rfl rfl rfl rfl ?_
   refine jc_ge c1 hm 54 rfl rfl (fun h7 => ?_) (fun h7 => ?_)
   ·
    exact jx_retv c2 hm rfl rfl ⟨rfl, (hH4.mono (by omega) (by omega)), hF4⟩
   refine jy_ic c1 hm rfl (by decide) ?_
   refine jx_stor c1 hm (L' := [some (.inr (.inr (.inl 4))), some (.inr (.inr (.inl 12))), some (.inl a0), some (.inl a1), some (.inl b2), some (.inl 0)]) rfl rfl rfl rfl rfl ?_
   have W10 : ∀ (n11 : Nat) (b8 : Int) (hb8 : 0 ≤ b8 ∧ b8 ≤ 6) (M9 : JM) (hH9 : HI (X + 6 * b2 + b8) M9) (hF9 : Fr md_X0_drawWeeks_4_12 M0 M9), (-b8 + 6) < (n11 : Int) → F 17 [some (.inr (.inr (.inl 4))), some (.inr (.inr (.inl 12))), some (.inl a0), some (.inl a1), some (.inl b2), some (.inl b8)] [] M9 := by
    intro n11
    induction n11 with
    | zero => intros; omega
    | succ n11 ihW10 =>
     intro b8 hb8 M9 hH9 hF9 hrW10
     refine jx_load c1 hm rfl rfl rfl rfl ?_
     refine jx_load c1 hm rfl rfl rfl rfl ?_
     refine jx_getr c1 hm rfl sh_4 rfl ?_
     refine jv_i c3 hm rfl pj_X2_men rfl rfl ⟨_, _, _, rfl, sh_5⟩ rfl ((ct_X2_men_5 (X + 6 * b2 + b8) (by omega) M9 hH9 ).le (by decide)) (fun z12 _ ⟨rfl, lz12, uz12⟩ => ?_)
     refine jc_ge c1 hm 42 rfl rfl (fun h13 => ?_) (fun h13 => ?_)
     ·
      refine jx_load c1 hm rfl rfl rfl rfl ?_
      refine jx_load c1 hm rfl rfl rfl rfl ?_
      refine jy_ic c1 hm rfl (by decide) ?_
      refine jv_v c3 hm rfl pj_X0_passWeeks rfl rfl ⟨_, _, _, rfl, sh_4⟩ rfl ((ct_X0_passWeeks_4_12 (X + 6 * b2 + b8) (by omega) M9 hH9 1 ⟨by omega, by omega⟩).le (by decide)) (fun M15 ⟨hH15, hR15⟩ => ?_)
      have hF15 := hF9.tr hR15 (by decide +kernel)
      refine jx_iinc c1 hm (v := (b2 + 1)) (L' := [some (.inr (.inr (.inl 4))), some (.inr (.inr (.inl 12))), some (.inl a0), some (.inl a1), some (.inl (b2 + 1)), some (.inl b8)]) rfl rfl (by omega) (by omega) rfl ?_
      refine jx_goto c1 hm 8 rfl rfl ?_
      exact ihW5 (b2 + 1) (by omega) (some (.inl b8)) (Or.inr (Or.inl ⟨_, rfl⟩)) M15 (hH15.mono (by omega) (by omega)) hF15 (by omega)
     refine jx_load c1 hm rfl rfl rfl rfl ?_
     refine jx_load c1 hm rfl rfl rfl rfl ?_
     refine jx_load c1 hm rfl rfl rfl rfl ?_
     refine jv_v c3 hm rfl pj_X0_drawAct rfl rfl ⟨_, _, _, rfl, sh_4⟩ rfl ((ct_X0_drawAct_4_12 (X + 6 * b2 + b8) (by omega) M9 hH9 b8 ⟨by omega, by omega⟩).le (by decide)) (fun M14 ⟨hH14, hR14⟩ => ?_)
     have hF14 := hF9.tr hR14 (by decide +kernel)
     refine jx_iinc c1 hm (v := (b8 + 1)) (L' := [some (.inr (.inr (.inl 4))), some (.inr (.inr (.inl 12))), some (.inl a0), some (.inl a1), some (.inl b2), some (.inl (b8 + 1))]) rfl rfl (by omega) (by omega) rfl ?_
     refine jx_goto c1 hm 17 rfl rfl ?_
     exact ihW10 (b8 + 1) (by omega) M14 (hH14.mono (by omega) (by omega)) hF14 (by omega)
   exact W10 (6 + 1 : Int).toNat 0 (by omega) M4 (hH4.mono (by omega) (by omega)) hF4 (by omega)
 exact W5 (60 + 1 : Int).toNat 0 (by omega) none (Or.inl rfl) M1 (hH1.mono (by omega) (by omega)) hF1 (by omega)
def md_X11_drawn_0 : List (Nat × (Nat × Nat)) := [(4, (4, 4)), (12, (7, 7)), (13, (0, 5)), (14, (0, 5)), (15, (0, 5)), (16, (0, 5)), (17, (0, 35)), (18, (0, 35)), (19, (0, 35)), (23, (1, 1)), (24, (0, 5)), (55, (1, 1)), (55, (2, 2)), (57, (7, 7)), (58, (0, 5)), (59, (0, 5)), (60, (0, 5)), (61, (0, 5)), (62, (0, 35)), (63, (0, 35)), (64, (0, 35)), (65, (7, 7)), (66, (0, 5)), (67, (0, 5)), (68, (0, 5)), (69, (0, 5)), (70, (0, 35)), (71, (0, 35)), (72, (0, 35)), (73, (7, 7)), (74, (0, 5)), (75, (0, 5)), (76, (0, 5)), (77, (0, 5)), (78, (0, 35)), (79, (0, 35)), (80, (0, 35)), (81, (7, 7)), (82, (0, 5)), (83, (0, 5)), (84, (0, 5)), (85, (0, 5)), (86, (0, 35)), (87, (0, 35)), (88, (0, 35)), (89, (7, 7)), (90, (0, 5)), (91, (0, 5)), (92, (0, 5)), (93, (0, 5)), (94, (0, 35)), (95, (0, 35)), (96, (0, 35)), (97, (7, 7)), (98, (0, 5)), (99, (0, 5)), (100, (0, 5)), (101, (0, 5)), (102, (0, 35)), (103, (0, 35)), (104, (0, 35)), (105, (7, 7)), (106, (0, 5)), (107, (0, 5)), (108, (0, 5)), (109, (0, 5)), (110, (0, 35)), (111, (0, 35)), (112, (0, 35)), (113, (7, 7)), (114, (0, 5)), (115, (0, 5)), (116, (0, 5)), (117, (0, 5)), (118, (0, 35)), (119, (0, 35)), (120, (0, 35))]
theorem ct_X11_drawn_0 (X : Int) (hX : 0 ≤ X ∧ X ≤ 99999640) (M0 : JM) (hH0 : HI X M0) (a0 : Int) (ha0 : (-2147483648) ≤ a0 ∧ a0 ≤ 2147483647) (a1 : Int) (ha1 : (-2147483648) ≤ a1 ∧ a1 ≤ 2147483647) : JOk shp PJ 14 33 [.inr (.inr (.inl 0)), .inl a0, .inl a1] M0 (jRi (fun v M' => HI (X + 360) M' ∧ Fr md_X11_drawn_0 M0 M' ∧ (-2147483648) ≤ v ∧ v ≤ 60 )) := by
 refine ⟨jr_X11_drawn, pj_X11_drawn, fun F c1 c2 c3 => ?_⟩
 have hm := pj_X11_drawn
 change F 0 [some (.inr (.inr (.inl 0))), some (.inl a0), some (.inl a1), none] [] M0
 have hF0 : Fr md_X11_drawn_0 M0 M0 := Fr.rf _ _
 refine jx_load c1 hm rfl rfl rfl rfl ?_
 refine jy_ic c1 hm rfl (by decide) ?_
 refine jc_lt c1 hm 21 rfl rfl (fun h1 => ?_) (fun h1 => ?_)
 ·
  refine jy_ic c1 hm rfl (by decide) ?_
  exact jx_reti c2 hm rfl rfl ⟨_, rfl, (hH0.mono (by omega) (by omega)), hF0, by omega, by omega⟩
 refine jx_load c1 hm rfl rfl rfl rfl ?_
 refine jy_bp c1 hm rfl (by decide) ?_
 refine jc_gt c1 hm 21 rfl rfl (fun h2 => ?_) (fun h2 => ?_)
 ·
  refine jy_ic c1 hm rfl (by decide) ?_
  exact jx_reti c2 hm rfl rfl ⟨_, rfl, (hH0.mono (by omega) (by omega)), hF0, by omega, by omega⟩
 refine jx_load c1 hm rfl rfl rfl rfl ?_
 refine jx_getr c1 hm rfl sh_0 rfl ?_
 refine jv_i c3 hm rfl pj_X2_men rfl rfl ⟨_, _, _, rfl, sh_5⟩ rfl ((ct_X2_men_5 X (by omega) M0 hH0 ).le (by decide)) (fun z3 _ ⟨rfl, lz3, uz3⟩ => ?_)
 refine jz_ne c1 hm 23 rfl rfl (fun h4 => ?_) (fun h4 => ?_)
 ·
  refine jx_load c1 hm rfl rfl rfl rfl ?_
  refine jx_getr c1 hm rfl sh_0 rfl ?_
  refine jx_getr c1 hm rfl sh_5 rfl ?_
  refine jx_load c1 hm rfl rfl rfl rfl ?_
  refine jt_i c3 hm rfl rfl pj_X11_weeksToGo rfl rfl rfl ((ct_X11_weeksToGo_12 X (by omega) M0 hH0 a0 ⟨by omega, by omega⟩).le (by decide)) (fun z5 _ ⟨rfl, lz5, uz5, p6⟩ => ?_)
  refine jx_stor c1 hm (L' := [some (.inr (.inr (.inl 0))), some (.inl a0), some (.inl a1), some (.inl z5)]) rfl rfl rfl rfl rfl ?_
  refine jx_load c1 hm rfl rfl rfl rfl ?_
  refine jz_le c1 hm 69 rfl rfl (fun h7 => ?_) (fun h7 => ?_)
  ·
   refine jx_load c1 hm rfl rfl rfl rfl ?_
   exact jx_reti c2 hm rfl rfl ⟨_, rfl, (hH0.mono (by omega) (by omega)), hF0, by omega, by omega⟩
  refine jx_load c1 hm rfl rfl rfl rfl ?_
  refine jx_getr c1 hm rfl sh_0 rfl ?_
  refine jx_load c1 hm rfl rfl rfl rfl ?_
  refine jx_getr c1 hm rfl sh_0 rfl ?_
  refine jx_getr c1 hm rfl sh_5 rfl ?_
  refine jv_v c3 hm rfl pj_X4_keep rfl rfl ⟨_, _, _, rfl, sh_55⟩ rfl ((ct_X4_keep_55_12 X (by omega) M0 hH0 ).le (by decide)) (fun M8 ⟨hH8, hR8⟩ => ?_)
  have hF8 := hF0.tr hR8 (by decide +kernel)
  refine jx_load c1 hm rfl rfl rfl rfl ?_
  refine jx_getr c1 hm rfl sh_0 rfl ?_
  refine jx_load c1 hm rfl rfl rfl rfl ?_
  refine jx_getr c1 hm rfl sh_0 rfl ?_
  refine jx_getr c1 hm rfl sh_5 rfl ?_
  refine jx_load c1 hm rfl rfl rfl rfl ?_
  refine jx_load c1 hm rfl rfl rfl rfl ?_
  refine jv_v c3 hm rfl pj_X0_drawWeeks rfl rfl ⟨_, _, _, rfl, sh_4⟩ rfl ((ct_X0_drawWeeks_4_12 X (by omega) M8 hH8 z5 ⟨by omega, by omega⟩ a1 ⟨by omega, by omega⟩).le (by decide)) (fun M9 ⟨hH9, hR9⟩ => ?_)
  have hF9 := hF8.tr hR9 (by decide +kernel)
  refine jx_load c1 hm rfl rfl rfl rfl ?_
  exact jx_reti c2 hm rfl rfl ⟨_, rfl, hH9, hF9, by omega, by omega⟩
 refine jy_ic c1 hm rfl (by decide) ?_
 exact jx_reti c2 hm rfl rfl ⟨_, rfl, (hH0.mono (by omega) (by omega)), hF0, by omega, by omega⟩
