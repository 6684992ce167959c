/-! Contracts of the class (by wip/q/wlk.py). -/
def md_X11_copyRow_13_48 : List (Nat × (Nat × Nat)) := [(48, (0, 5))]
theorem ct_X11_copyRow_13_48 (X : Int) (hX : 0 ≤ X ∧ X ≤ 100000000) (M0 : JM) (hH0 : HI X M0)  : JOk shp PJ 1 29 [.inr (.inr (.inl 13)), .inr (.inr (.inl 48))] M0 (jRv (fun M' => HI X M' ∧ Fr md_X11_copyRow_13_48 M0 M' )) := by
 refine ⟨jr_X11_copyRow, pj_X11_copyRow, fun F c1 c2 c3 => ?_⟩
 have hm := pj_X11_copyRow
 change F 0 [some (.inr (.inr (.inl 13))), some (.inr (.inr (.inl 48)))] [] M0
 have hF0 : Fr md_X11_copyRow_13_48 M0 M0 := Fr.rf _ _
 refine jx_load c1 hm rfl rfl rfl rfl ?_
 refine jy_ic c1 hm rfl (by decide) ?_
 refine jx_load c1 hm rfl rfl rfl rfl ?_
 refine jy_ic c1 hm rfl (by decide) ?_
 refine jx_load c1 hm rfl rfl rfl rfl ?_
 refine jx_alen c1 hm (v := 6) rfl sh_13 rfl rfl ?_
 refine jx_load c1 hm rfl rfl rfl rfl ?_
 refine jx_alen c1 hm (v := 6) rfl sh_48 rfl rfl ?_
 refine jx_min c1 hm rfl rfl (fun z1 lz1 uz1 ez1 => ?_)
 obtain ⟨M2, e2, hH2, hF2, n2, _⟩ := mcp hH0 hF0 (c1 := 13) (c2 := 48) (n := z1) (fun _ _ => rfl) (fun j hj => jin_of 0 rfl ⟨by omega, by omega⟩)
 refine jm_acpi c1 hm rfl rfl sh_13 sh_48 ⟨by omega, by omega, by omega⟩ e2 ?_
 exact jx_retv c2 hm rfl rfl ⟨rfl, hH2, hF2⟩
def md_X11_copyRow_14_49 : List (Nat × (Nat × Nat)) := [(49, (0, 5))]
theorem ct_X11_copyRow_14_49 (X : Int) (hX : 0 ≤ X ∧ X ≤ 100000000) (M0 : JM) (hH0 : HI X M0)  : JOk shp PJ 1 29 [.inr (.inr (.inl 14)), .inr (.inr (.inl 49))] M0 (jRv (fun M' => HI X M' ∧ Fr md_X11_copyRow_14_49 M0 M' )) := by
 refine ⟨jr_X11_copyRow, pj_X11_copyRow, fun F c1 c2 c3 => ?_⟩
 have hm := pj_X11_copyRow
 change F 0 [some (.inr (.inr (.inl 14))), some (.inr (.inr (.inl 49)))] [] M0
 have hF0 : Fr md_X11_copyRow_14_49 M0 M0 := Fr.rf _ _
 refine jx_load c1 hm rfl rfl rfl rfl ?_
 refine jy_ic c1 hm rfl (by decide) ?_
 refine jx_load c1 hm rfl rfl rfl rfl ?_
 refine jy_ic c1 hm rfl (by decide) ?_
 refine jx_load c1 hm rfl rfl rfl rfl ?_
 refine jx_alen c1 hm (v := 6) rfl sh_14 rfl rfl ?_
 refine jx_load c1 hm rfl rfl rfl rfl ?_
 refine jx_alen c1 hm (v := 6) rfl sh_49 rfl rfl ?_
 refine jx_min c1 hm rfl rfl (fun z1 lz1 uz1 ez1 => ?_)
 obtain ⟨M2, e2, hH2, hF2, n2, _⟩ := mcp hH0 hF0 (c1 := 14) (c2 := 49) (n := z1) (fun _ _ => rfl) (fun j hj => jin_of 0 rfl ⟨by omega, by omega⟩)
 refine jm_acpi c1 hm rfl rfl sh_14 sh_49 ⟨by omega, by omega, by omega⟩ e2 ?_
 exact jx_retv c2 hm rfl rfl ⟨rfl, hH2, hF2⟩
def md_X11_copyRow_15_50 : List (Nat × (Nat × Nat)) := [(50, (0, 5))]
theorem ct_X11_copyRow_15_50 (X : Int) (hX : 0 ≤ X ∧ X ≤ 100000000) (M0 : JM) (hH0 : HI X M0)  : JOk shp PJ 1 29 [.inr (.inr (.inl 15)), .inr (.inr (.inl 50))] M0 (jRv (fun M' => HI X M' ∧ Fr md_X11_copyRow_15_50 M0 M' )) := by
 refine ⟨jr_X11_copyRow, pj_X11_copyRow, fun F c1 c2 c3 => ?_⟩
 have hm := pj_X11_copyRow
 change F 0 [some (.inr (.inr (.inl 15))), some (.inr (.inr (.inl 50)))] [] M0
 have hF0 : Fr md_X11_copyRow_15_50 M0 M0 := Fr.rf _ _
 refine jx_load c1 hm rfl rfl rfl rfl ?_
 refine jy_ic c1 hm rfl (by decide) ?_
 refine jx_load c1 hm rfl rfl rfl rfl ?_
 refine jy_ic c1 hm rfl (by decide) ?_
 refine jx_load c1 hm rfl rfl rfl rfl ?_
 refine jx_alen c1 hm (v := 6) rfl sh_15 rfl rfl ?_
 refine jx_load c1 hm rfl rfl rfl rfl ?_
 refine jx_alen c1 hm (v := 6) rfl sh_50 rfl rfl ?_
 refine jx_min c1 hm rfl rfl (fun z1 lz1 uz1 ez1 => ?_)
 obtain ⟨M2, e2, hH2, hF2, n2, _⟩ := mcp hH0 hF0 (c1 := 15) (c2 := 50) (n := z1) (fun _ _ => rfl) (fun j hj => jin_of 0 rfl ⟨by omega, by omega⟩)
 refine jm_acpi c1 hm rfl rfl sh_15 sh_50 ⟨by omega, by omega, by omega⟩ e2 ?_
 exact jx_retv c2 hm rfl rfl ⟨rfl, hH2, hF2⟩
def md_X11_copyRow_16_51 : List (Nat × (Nat × Nat)) := [(51, (0, 5))]
theorem ct_X11_copyRow_16_51 (X : Int) (hX : 0 ≤ X ∧ X ≤ 100000000) (M0 : JM) (hH0 : HI X M0)  : JOk shp PJ 1 29 [.inr (.inr (.inl 16)), .inr (.inr (.inl 51))] M0 (jRv (fun M' => HI X M' ∧ Fr md_X11_copyRow_16_51 M0 M' )) := by
 refine ⟨jr_X11_copyRow, pj_X11_copyRow, fun F c1 c2 c3 => ?_⟩
 have hm := pj_X11_copyRow
 change F 0 [some (.inr (.inr (.inl 16))), some (.inr (.inr (.inl 51)))] [] M0
 have hF0 : Fr md_X11_copyRow_16_51 M0 M0 := Fr.rf _ _
 refine jx_load c1 hm rfl rfl rfl rfl ?_
 refine jy_ic c1 hm rfl (by decide) ?_
 refine jx_load c1 hm rfl rfl rfl rfl ?_
 refine jy_ic c1 hm rfl (by decide) ?_
 refine jx_load c1 hm rfl rfl rfl rfl ?_
 refine jx_alen c1 hm (v := 6) rfl sh_16 rfl rfl ?_
 refine jx_load c1 hm rfl rfl rfl rfl ?_
 refine jx_alen c1 hm (v := 6) rfl sh_51 rfl rfl ?_
 refine jx_min c1 hm rfl rfl (fun z1 lz1 uz1 ez1 => ?_)
 obtain ⟨M2, e2, hH2, hF2, n2, _⟩ := mcp hH0 hF0 (c1 := 16) (c2 := 51) (n := z1) (fun _ _ => rfl) (fun j hj => jin_of 0 rfl ⟨by omega, by omega⟩)
 refine jm_acpi c1 hm rfl rfl sh_16 sh_51 ⟨by omega, by omega, by omega⟩ e2 ?_
 exact jx_retv c2 hm rfl rfl ⟨rfl, hH2, hF2⟩
def md_X11_copyRow_17_52 : List (Nat × (Nat × Nat)) := [(52, (0, 35))]
theorem ct_X11_copyRow_17_52 (X : Int) (hX : 0 ≤ X ∧ X ≤ 100000000) (M0 : JM) (hH0 : HI X M0)  : JOk shp PJ 1 29 [.inr (.inr (.inl 17)), .inr (.inr (.inl 52))] M0 (jRv (fun M' => HI X M' ∧ Fr md_X11_copyRow_17_52 M0 M' )) := by
 refine ⟨jr_X11_copyRow, pj_X11_copyRow, fun F c1 c2 c3 => ?_⟩
 have hm := pj_X11_copyRow
 change F 0 [some (.inr (.inr (.inl 17))), some (.inr (.inr (.inl 52)))] [] M0
 have hF0 : Fr md_X11_copyRow_17_52 M0 M0 := Fr.rf _ _
 refine jx_load c1 hm rfl rfl rfl rfl ?_
 refine jy_ic c1 hm rfl (by decide) ?_
 refine jx_load c1 hm rfl rfl rfl rfl ?_
 refine jy_ic c1 hm rfl (by decide) ?_
 refine jx_load c1 hm rfl rfl rfl rfl ?_
 refine jx_alen c1 hm (v := 36) rfl sh_17 rfl rfl ?_
 refine jx_load c1 hm rfl rfl rfl rfl ?_
 refine jx_alen c1 hm (v := 36) rfl sh_52 rfl rfl ?_
 refine jx_min c1 hm rfl rfl (fun z1 lz1 uz1 ez1 => ?_)
 obtain ⟨M2, e2, hH2, hF2, n2, _⟩ := mcp hH0 hF0 (c1 := 17) (c2 := 52) (n := z1) (fun _ _ => rfl) (fun j hj => jin_of 0 rfl ⟨by omega, by omega⟩)
 refine jm_acpi c1 hm rfl rfl sh_17 sh_52 ⟨by omega, by omega, by omega⟩ e2 ?_
 exact jx_retv c2 hm rfl rfl ⟨rfl, hH2, hF2⟩
def md_X11_copyRow_18_53 : List (Nat × (Nat × Nat)) := [(53, (0, 35))]
theorem ct_X11_copyRow_18_53 (X : Int) (hX : 0 ≤ X ∧ X ≤ 100000000) (M0 : JM) (hH0 : HI X M0)  : JOk shp PJ 1 29 [.inr (.inr (.inl 18)), .inr (.inr (.inl 53))] M0 (jRv (fun M' => HI X M' ∧ Fr md_X11_copyRow_18_53 M0 M' )) := by
 refine ⟨jr_X11_copyRow, pj_X11_copyRow, fun F c1 c2 c3 => ?_⟩
 have hm := pj_X11_copyRow
 change F 0 [some (.inr (.inr (.inl 18))), some (.inr (.inr (.inl 53)))] [] M0
 have hF0 : Fr md_X11_copyRow_18_53 M0 M0 := Fr.rf _ _
 refine jx_load c1 hm rfl rfl rfl rfl ?_
 refine jy_ic c1 hm rfl (by decide) ?_
 refine jx_load c1 hm rfl rfl rfl rfl ?_
 refine jy_ic c1 hm rfl (by decide) ?_
 refine jx_load c1 hm rfl rfl rfl rfl ?_
 refine jx_alen c1 hm (v := 36) rfl sh_18 rfl rfl ?_
 refine jx_load c1 hm rfl rfl rfl rfl ?_
 refine jx_alen c1 hm (v := 36) rfl sh_53 rfl rfl ?_
 refine jx_min c1 hm rfl rfl (fun z1 lz1 uz1 ez1 => ?_)
 obtain ⟨M2, e2, hH2, hF2, n2, _⟩ := mcp hH0 hF0 (c1 := 18) (c2 := 53) (n := z1) (fun _ _ => rfl) (fun j hj => jin_of 0 rfl ⟨by omega, by omega⟩)
 refine jm_acpi c1 hm rfl rfl sh_18 sh_53 ⟨by omega, by omega, by omega⟩ e2 ?_
 exact jx_retv c2 hm rfl rfl ⟨rfl, hH2, hF2⟩
def md_X11_copyRow_19_54 : List (Nat × (Nat × Nat)) := [(54, (0, 35))]
theorem ct_X11_copyRow_19_54 (X : Int) (hX : 0 ≤ X ∧ X ≤ 100000000) (M0 : JM) (hH0 : HI X M0)  : JOk shp PJ 1 29 [.inr (.inr (.inl 19)), .inr (.inr (.inl 54))] M0 (jRv (fun M' => HI X M' ∧ Fr md_X11_copyRow_19_54 M0 M' )) := by
 refine ⟨jr_X11_copyRow, pj_X11_copyRow, fun F c1 c2 c3 => ?_⟩
 have hm := pj_X11_copyRow
 change F 0 [some (.inr (.inr (.inl 19))), some (.inr (.inr (.inl 54)))] [] M0
 have hF0 : Fr md_X11_copyRow_19_54 M0 M0 := Fr.rf _ _
 refine jx_load c1 hm rfl rfl rfl rfl ?_
 refine jy_ic c1 hm rfl (by decide) ?_
 refine jx_load c1 hm rfl rfl rfl rfl ?_
 refine jy_ic c1 hm rfl (by decide) ?_
 refine jx_load c1 hm rfl rfl rfl rfl ?_
 refine jx_alen c1 hm (v := 36) rfl sh_19 rfl rfl ?_
 refine jx_load c1 hm rfl rfl rfl rfl ?_
 refine jx_alen c1 hm (v := 36) rfl sh_54 rfl rfl ?_
 refine jx_min c1 hm rfl rfl (fun z1 lz1 uz1 ez1 => ?_)
 obtain ⟨M2, e2, hH2, hF2, n2, _⟩ := mcp hH0 hF0 (c1 := 19) (c2 := 54) (n := z1) (fun _ _ => rfl) (fun j hj => jin_of 0 rfl ⟨by omega, by omega⟩)
 refine jm_acpi c1 hm rfl rfl sh_19 sh_54 ⟨by omega, by omega, by omega⟩ e2 ?_
 exact jx_retv c2 hm rfl rfl ⟨rfl, hH2, hF2⟩
def md_X8_takeAll_47_12 : List (Nat × (Nat × Nat)) := [(47, (7, 7)), (48, (0, 5)), (49, (0, 5)), (50, (0, 5)), (51, (0, 5)), (52, (0, 35)), (53, (0, 35)), (54, (0, 35))]
theorem ct_X8_takeAll_47_12 (X : Int) (hX : 0 ≤ X ∧ X ≤ 100000000) (M0 : JM) (hH0 : HI X M0)  : JOk shp PJ 2 264 [.inr (.inr (.inl 47)), .inr (.inr (.inl 12))] M0 (jRv (fun M' => HI X M' ∧ Fr md_X8_takeAll_47_12 M0 M' )) := by
 refine ⟨jr_X8_takeAll, pj_X8_takeAll, fun F c1 c2 c3 => ?_⟩
 have hm := pj_X8_takeAll
 change F 0 [some (.inr (.inr (.inl 47))), some (.inr (.inr (.inl 12)))] [] M0
 have hF0 : Fr md_X8_takeAll_47_12 M0 M0 := Fr.rf _ _
 refine jx_load c1 hm rfl rfl rfl rfl ?_
 refine jx_getr c1 hm rfl sh_12 rfl ?_
 refine jx_load c1 hm rfl rfl rfl rfl ?_
 refine jx_getr c1 hm rfl sh_47 rfl ?_
 refine jt_v c3 hm rfl rfl pj_X11_copyRow rfl rfl rfl ((ct_X11_copyRow_13_48 X (by omega) M0 hH0 ).le (by decide)) (fun M1 ⟨hH1, hR1⟩ => ?_)
 have hF1 := hF0.tr hR1 (by decide +kernel)
 refine jx_load c1 hm rfl rfl rfl rfl ?_
 refine jx_getr c1 hm rfl sh_12 rfl ?_
 refine jx_load c1 hm rfl rfl rfl rfl ?_
 refine jx_getr c1 hm rfl sh_47 rfl ?_
 refine jt_v c3 hm rfl rfl pj_X11_copyRow rfl rfl rfl ((ct_X11_copyRow_14_49 X (by omega) M1 hH1 ).le (by decide)) (fun M2 ⟨hH2, hR2⟩ => ?_)
 have hF2 := hF1.tr hR2 (by decide +kernel)
 refine jx_load c1 hm rfl rfl rfl rfl ?_
 refine jx_getr c1 hm rfl sh_12 rfl ?_
 refine jx_load c1 hm rfl rfl rfl rfl ?_
 refine jx_getr c1 hm rfl sh_47 rfl ?_
 refine jt_v c3 hm rfl rfl pj_X11_copyRow rfl rfl rfl ((ct_X11_copyRow_15_50 X (by omega) M2 hH2 ).le (by decide)) (fun M3 ⟨hH3, hR3⟩ => ?_)
 have hF3 := hF2.tr hR3 (by decide +kernel)
 refine jx_load c1 hm rfl rfl rfl rfl ?_
 refine jx_getr c1 hm rfl sh_12 rfl ?_
 refine jx_load c1 hm rfl rfl rfl rfl ?_
 refine jx_getr c1 hm rfl sh_47 rfl ?_
 refine jt_v c3 hm rfl rfl pj_X11_copyRow rfl rfl rfl ((ct_X11_copyRow_16_51 X (by omega) M3 hH3 ).le (by decide)) (fun M4 ⟨hH4, hR4⟩ => ?_)
 have hF4 := hF3.tr hR4 (by decide +kernel)
 refine jx_load c1 hm rfl rfl rfl rfl ?_
 refine jx_getr c1 hm rfl sh_12 rfl ?_
 refine jx_load c1 hm rfl rfl rfl rfl ?_
 refine jx_getr c1 hm rfl sh_47 rfl ?_
 refine jt_v c3 hm rfl rfl pj_X11_copyRow rfl rfl rfl ((ct_X11_copyRow_17_52 X (by omega) M4 hH4 ).le (by decide)) (fun M5 ⟨hH5, hR5⟩ => ?_)
 have hF5 := hF4.tr hR5 (by decide +kernel)
 refine jx_load c1 hm rfl rfl rfl rfl ?_
 refine jx_getr c1 hm rfl sh_12 rfl ?_
 refine jx_load c1 hm rfl rfl rfl rfl ?_
 refine jx_getr c1 hm rfl sh_47 rfl ?_
 refine jt_v c3 hm rfl rfl pj_X11_copyRow rfl rfl rfl ((ct_X11_copyRow_18_53 X (by omega) M5 hH5 ).le (by decide)) (fun M6 ⟨hH6, hR6⟩ => ?_)
 have hF6 := hF5.tr hR6 (by decide +kernel)
 refine jx_load c1 hm rfl rfl rfl rfl ?_
 refine jx_getr c1 hm rfl sh_12 rfl ?_
 refine jx_load c1 hm rfl rfl rfl rfl ?_
 refine jx_getr c1 hm rfl sh_47 rfl ?_
 refine jt_v c3 hm rfl rfl pj_X11_copyRow rfl rfl rfl ((ct_X11_copyRow_19_54 X (by omega) M6 hH6 ).le (by decide)) (fun M7 ⟨hH7, hR7⟩ => ?_)
 have hF7 := hF6.tr hR7 (by decide +kernel)
 refine jx_load c1 hm rfl rfl rfl rfl ?_
 refine jx_load c1 hm rfl rfl rfl rfl ?_
 obtain ⟨z8, k9, lz8, uz8⟩ := hH7.ld (c := 12) (i := 7) (A := (-2147483648)) (B := 2147483647) rfl
 refine jx_geti c1 hm rfl sh_12 rfl k9 ?_
 obtain ⟨M10, e10, hH10, hF10, k10, n10, _⟩ := mup hH7 hF7 (c := 47) (i := 7) (v := z8) (A := (-2147483648)) (B := 2147483647) rfl ⟨by omega, by omega⟩ (jin_of 0 rfl ⟨by omega, by omega⟩)
 refine jm_puti c1 hm rfl sh_47 rfl e10 ?_
 exact jx_retv c2 hm rfl rfl ⟨rfl, hH10, hF10⟩
theorem ct_X2_costNow_5_47 (X : Int) (hX : 0 ≤ X ∧ X ≤ 100000000) (M0 : JM) (hH0 : HI X M0) (a0 : Int) (ha0 : 0 ≤ a0 ∧ a0 ≤ 5) (a1 : Int) (ha1 : 0 ≤ a1 ∧ a1 ≤ 5) : JOk shp PJ 2 215 [.inr (.inr (.inl 5)), .inr (.inr (.inl 47)), .inl a0, .inl a1] M0 (jRi (fun v M' => M0 = M' ∧ 0 ≤ v ∧ v ≤ 20 )) := by
 refine ⟨jr_X2_costNow, pj_X2_costNow, fun F c1 c2 c3 => ?_⟩
 have hm := pj_X2_costNow
 change F 0 [some (.inr (.inr (.inl 5))), some (.inr (.inr (.inl 47))), some (.inl a0), some (.inl a1)] [] M0
 refine jx_load c1 hm rfl rfl rfl rfl ?_
 refine jx_load c1 hm rfl rfl rfl rfl ?_
 refine jx_load c1 hm rfl rfl rfl rfl ?_
 refine jx_load c1 hm rfl rfl rfl rfl ?_
 refine jx_getr c1 hm rfl sh_47 rfl ?_
 refine jx_load c1 hm rfl rfl rfl rfl ?_
 refine jy_bp c1 hm rfl (by decide) ?_
 refine jy_mul c1 hm (6 * a0) rfl (by omega) ?_
 refine jx_load c1 hm rfl rfl rfl rfl ?_
 refine jy_add c1 hm (6 * a0 + a1) rfl (by omega) ?_
 obtain ⟨z1, k2, lz1, uz1⟩ := hH0.ld (c := 53) (i := ((6 * a0 + a1)).toNat) (A := 0) (B := 1 * X) rfl
 refine jx_iald c1 hm rfl sh_53 ⟨by omega, by omega⟩ k2 ?_
 refine jv_i c3 hm rfl pj_X2_costAfter rfl rfl ⟨_, _, _, rfl, sh_5⟩ rfl ((ct_X2_costAfter_5 X (by omega) M0 hH0 a0 ⟨by omega, by omega⟩ a1 ⟨by omega, by omega⟩ z1 ⟨by omega, by omega⟩).le (by decide)) (fun z3 _ ⟨rfl, lz3, uz3, p4⟩ => ?_)
 exact jx_reti c2 hm rfl rfl ⟨_, rfl, rfl, by omega, by omega⟩
def md_X6_closes_23_47 : List (Nat × (Nat × Nat)) := [(24, (0, 5))]
def ST_X6_closes_23_47 (n : Nat) : Prop := ∀ (X : Int) (hX : 0 ≤ X ∧ X ≤ 100000000) (M0 : JM) (hH0 : HI X M0) (a0 : Int) (ha0 : 0 ≤ a0 ∧ a0 ≤ 6) (a1 : Int) (ha1 : 1 ≤ a1 ∧ a1 ≤ 7) (a2 : Int) (ha2 : (-2147483648) ≤ a2 ∧ a2 ≤ 2147483647) (hr : 7 - a1 < (n : Int)), JOk shp PJ (1 * n + 1) 245 [.inr (.inr (.inl 23)), .inr (.inr (.inl 47)), .inl a0, .inl a1, .inl a2] M0 (jRi (fun v M' => HI X M' ∧ Fr md_X6_closes_23_47 M0 M' ∧ 0 ≤ v ∧ v ≤ 1 ))
theorem ct_X6_closes_23_47 : ∀ n : Nat, ST_X6_closes_23_47 n := by
 intro n
 induction n with
 | zero =>
  unfold ST_X6_closes_23_47
  intros; omega
 | succ n ih =>
  unfold ST_X6_closes_23_47
  intro X hX M0 hH0 a0 ha0 a1 ha1 a2 ha2 hr
  refine ⟨jr_X6_closes, pj_X6_closes, fun F c1 c2 c3 => ?_⟩
  have hm := pj_X6_closes
  change F 0 [some (.inr (.inr (.inl 23))), some (.inr (.inr (.inl 47))), some (.inl a0), some (.inl a1), some (.inl a2), none, none] [] M0
  have hF0 : Fr md_X6_closes_23_47 M0 M0 := Fr.rf _ _
  refine jx_load c1 hm rfl rfl rfl rfl ?_
  refine jy_ic c1 hm rfl (by decide) ?_
  refine jc_lt c1 hm 19 rfl rfl (fun h1 => ?_) (fun h1 => ?_)
  ·
   exfalso; omega
  refine jx_load c1 hm rfl rfl rfl rfl ?_
  refine jx_load c1 hm rfl rfl rfl rfl ?_
  obtain ⟨z2, k3, lz2, uz2⟩ := hH0.ld (c := 23) (i := 1) (A := 0) (B := 6) (bs_22_1 _ _ (by omega) (by omega))
  refine jx_geti c1 hm rfl sh_23 rfl k3 ?_
  refine jc_gt c1 hm 19 rfl rfl (fun h4 => ?_) (fun h4 => ?_)
  ·
   refine jy_ic c1 hm rfl (by decide) ?_
   exact jx_retz c2 hm rfl rfl ⟨by omega, by omega⟩ ⟨_, rfl, hH0, hF0, by omega, by omega⟩
  refine jx_load c1 hm rfl rfl rfl rfl ?_
  refine jy_bp c1 hm rfl (by decide) ?_
  refine jc_le c1 hm 21 rfl rfl (fun h5 => ?_) (fun h5 => ?_)
  ·
   refine jx_load c1 hm rfl rfl rfl rfl ?_
   refine jx_getr c1 hm rfl sh_23 rfl ?_
   refine jx_load c1 hm rfl rfl rfl rfl ?_
   refine jy_ic c1 hm rfl (by decide) ?_
   refine jy_sub c1 hm (a1 - 1) rfl (by omega) ?_
   obtain ⟨z6, k7, lz6, uz6⟩ := hH0.ld (c := 24) (i := ((a1 - 1)).toNat) (A := 0) (B := 5) rfl
   refine jx_iald c1 hm rfl sh_24 ⟨by omega, by omega⟩ k7 ?_
   refine jx_stor c1 hm (L' := [some (.inr (.inr (.inl 23))), some (.inr (.inr (.inl 47))), some (.inl a0), some (.inl a1), some (.inl a2), some (.inl z6), none]) rfl rfl rfl rfl rfl ?_
   refine jx_load c1 hm rfl rfl rfl rfl ?_
   refine jx_load c1 hm rfl rfl rfl rfl ?_
   refine jx_geti c1 hm rfl sh_23 rfl k3 ?_
   refine jc_ne c1 hm 65 rfl rfl (fun h8 => ?_) (fun h8 => ?_)
   ·
    refine jx_load c1 hm rfl rfl rfl rfl ?_
    refine jx_getr c1 hm rfl sh_23 rfl ?_
    refine jy_ic c1 hm rfl (by decide) ?_
    obtain ⟨z9, k10, lz9, uz9⟩ := hH0.ld (c := 24) (i := 0) (A := 0) (B := 5) rfl
    refine jx_iald c1 hm rfl sh_24 ⟨by omega, by omega⟩ k10 ?_
    refine jy_ic c1 hm rfl (by decide) ?_
    refine jy_add c1 hm (z9 + 1) rfl (by omega) ?_
    refine jx_stor c1 hm (L' := [some (.inr (.inr (.inl 23))), some (.inr (.inr (.inl 47))), some (.inl a0), some (.inl a1), some (.inl a2), some (.inl z6), some (.inl (z9 + 1))]) rfl rfl rfl rfl rfl ?_
    have W13 : ∀ (n14 : Nat) (b11 : Int) (hb11 : 1 ≤ b11 ∧ b11 ≤ 6) (M12 : JM) (hH12 : HI (X) M12) (hF12 : Fr md_X6_closes_23_47 M0 M12), (-b11 + 6) < (n14 : Int) → F 75 [some (.inr (.inr (.inl 23))), some (.inr (.inr (.inl 47))), some (.inl a0), some (.inl a1), some (.inl a2), some (.inl z6), some (.inl b11)] [] M12 := by
     intro n14
     induction n14 with
     | zero => intros; omega
     | succ n14 ihW13 =>
      intro b11 hb11 M12 hH12 hF12 hrW13
      refine jx_load c1 hm rfl rfl rfl rfl ?_
      refine jx_load c1 hm rfl rfl rfl rfl ?_
      refine jc_ge c1 hm 142 rfl rfl (fun h15 => ?_) (fun h15 => ?_)
      ·
       refine jy_ic c1 hm rfl (by decide) ?_
       exact jx_retz c2 hm rfl rfl ⟨by omega, by omega⟩ ⟨_, rfl, hH12, hF12, by omega, by omega⟩
      refine jx_load c1 hm rfl rfl rfl rfl ?_
      refine jx_load c1 hm rfl rfl rfl rfl ?_
      refine jx_iopw c1 hm rfl rfl (fun z16 lz16 uz16 => ?_)
      refine jy_ic c1 hm rfl (by decide) ?_
      refine jy_anr c1 hm rfl ⟨by omega, by omega⟩ (fun z17 lz17 uz17 => ?_)
      refine jz_ne c1 hm 136 rfl rfl (fun h18 => ?_) (fun h18 => ?_)
      ·
       refine jx_iinc c1 hm (v := (b11 + 1)) (L' := [some (.inr (.inr (.inl 23))), some (.inr (.inr (.inl 47))), some (.inl a0), some (.inl a1), some (.inl a2), some (.inl z6), some (.inl (b11 + 1))]) rfl rfl (by omega) (by omega) rfl ?_
       refine jx_goto c1 hm 75 rfl rfl ?_
       exact ihW13 (b11 + 1) (by omega) M12 hH12 hF12 (by omega)
      refine jx_load c1 hm rfl rfl rfl rfl ?_
      refine jx_getr c1 hm rfl sh_47 rfl ?_
      refine jx_load c1 hm rfl rfl rfl rfl ?_
      refine jy_bp c1 hm rfl (by decide) ?_
      refine jy_mul c1 hm (6 * z6) rfl (by omega) ?_
      refine jx_load c1 hm rfl rfl rfl rfl ?_
      refine jy_add c1 hm (b11 + 6 * z6) rfl (by omega) ?_
      obtain ⟨z19, k20, lz19, uz19⟩ := hH12.ld (c := 52) (i := ((b11 + 6 * z6)).toNat) (A := (-2147483648)) (B := 2147483647) rfl
      refine jx_iald c1 hm rfl sh_52 ⟨by omega, by omega⟩ k20 ?_
      refine jz_le c1 hm 136 rfl rfl (fun h21 => ?_) (fun h21 => ?_)
      ·
       refine jx_iinc c1 hm (v := (b11 + 1)) (L' := [some (.inr (.inr (.inl 23))), some (.inr (.inr (.inl 47))), some (.inl a0), some (.inl a1), some (.inl a2), some (.inl z6), some (.inl (b11 + 1))]) rfl rfl (by omega) (by omega) rfl ?_
       refine jx_goto c1 hm 75 rfl rfl ?_
       exact ihW13 (b11 + 1) (by omega) M12 hH12 hF12 (by omega)
      refine jx_load c1 hm rfl rfl rfl rfl ?_
      refine jx_getr c1 hm rfl sh_23 rfl ?_
      refine jx_load c1 hm rfl rfl rfl rfl ?_
      refine jx_load c1 hm rfl rfl rfl rfl ?_
      have t22 : 0 ≤ a1 ∧ a1 ≤ 5 := by omega
      obtain ⟨M23, e23, hH23, hF23, k23, n23, _⟩ := mup hH12 hF12 (c := 24) (i := (a1).toNat) (v := b11) (A := 0) (B := 5) rfl ⟨by omega, by omega⟩ (jin_of 0 rfl ⟨by omega, by omega⟩)
      refine jm_iast c1 hm rfl sh_24 ⟨by omega, by omega⟩ e23 ?_
      refine jx_load c1 hm rfl rfl rfl rfl ?_
      refine jx_load c1 hm rfl rfl rfl rfl ?_
      refine jx_load c1 hm rfl rfl rfl rfl ?_
      refine jx_load c1 hm rfl rfl rfl rfl ?_
      refine jy_ic c1 hm rfl (by decide) ?_
      refine jy_add c1 hm (a1 + 1) rfl (by omega) ?_
      refine jx_load c1 hm rfl rfl rfl rfl ?_
      refine jy_ic c1 hm rfl (by decide) ?_
      refine jx_load c1 hm rfl rfl rfl rfl ?_
      refine jy_sh1 c1 hm rfl ⟨by omega, by omega⟩ (fun z24 lz24 uz24 => ?_)
      refine jx_iopw c1 hm rfl rfl (fun z25 lz25 uz25 => ?_)
      refine jv_i c3 hm rfl pj_X6_closes rfl rfl ⟨_, _, _, rfl, sh_23⟩ rfl ((ih X (by omega) M23 hH23 a0 ⟨by omega, by omega⟩ (a1 + 1) ⟨by omega, by omega⟩ z25 ⟨by omega, by omega⟩ (by omega)).le (by omega)) (fun z26 M27 ⟨hH27, hR27, lz26, uz26⟩ => ?_)
      have hF27 := hF23.tr hR27 (by decide +kernel)
      refine jz_eq c1 hm 136 rfl rfl (fun h28 => ?_) (fun h28 => ?_)
      ·
       refine jx_iinc c1 hm (v := (b11 + 1)) (L' := [some (.inr (.inr (.inl 23))), some (.inr (.inr (.inl 47))), some (.inl a0), some (.inl a1), some (.inl a2), some (.inl z6), some (.inl (b11 + 1))]) rfl rfl (by omega) (by omega) rfl ?_
       refine jx_goto c1 hm 75 rfl rfl ?_
       exact ihW13 (b11 + 1) (by omega) M27 hH27 hF27 (by omega)
      refine jy_ic c1 hm rfl (by decide) ?_
      exact jx_retz c2 hm rfl rfl ⟨by omega, by omega⟩ ⟨_, rfl, hH27, hF27, by omega, by omega⟩
    exact W13 ((-z9 + 5) + 1 : Int).toNat (z9 + 1) (by omega) M0 hH0 hF0 (by omega)
   refine jx_load c1 hm rfl rfl rfl rfl ?_
   refine jx_getr c1 hm rfl sh_47 rfl ?_
   refine jx_load c1 hm rfl rfl rfl rfl ?_
   refine jy_bp c1 hm rfl (by decide) ?_
   refine jy_mul c1 hm (6 * z6) rfl (by omega) ?_
   refine jx_load c1 hm rfl rfl rfl rfl ?_
   refine jx_getr c1 hm rfl sh_23 rfl ?_
   refine jy_ic c1 hm rfl (by decide) ?_
   obtain ⟨z29, k30, lz29, uz29⟩ := hH0.ld (c := 24) (i := 0) (A := 0) (B := 5) rfl
   refine jx_iald c1 hm rfl sh_24 ⟨by omega, by omega⟩ k30 ?_
   refine jy_add c1 hm (z29 + 6 * z6) rfl (by omega) ?_
   obtain ⟨z31, k32, lz31, uz31⟩ := hH0.ld (c := 52) (i := ((z29 + 6 * z6)).toNat) (A := (-2147483648)) (B := 2147483647) rfl
   refine jx_iald c1 hm rfl sh_52 ⟨by omega, by omega⟩ k32 ?_
   refine jz_le c1 hm 63 rfl rfl (fun h33 => ?_) (fun h33 => ?_)
   ·
    refine jy_ic c1 hm rfl (by decide) ?_
    exact jx_retz c2 hm rfl rfl ⟨by omega, by omega⟩ ⟨_, rfl, hH0, hF0, by omega, by omega⟩
   refine jy_ic c1 hm rfl (by decide) ?_
   refine jx_goto c1 hm 64 rfl rfl ?_
   exact jx_retz c2 hm rfl rfl ⟨by omega, by omega⟩ ⟨_, rfl, hH0, hF0, by omega, by omega⟩
  exfalso; omega
def md_X6_find_23_47 : List (Nat × (Nat × Nat)) := [(23, (1, 1)), (24, (0, 5))]
theorem ct_X6_find_23_47 (X : Int) (hX : 0 ≤ X ∧ X ≤ 100000000) (M0 : JM) (hH0 : HI X M0) (a0 : Int) (ha0 : 0 ≤ a0 ∧ a0 ≤ 6) : JOk shp PJ 9 246 [.inr (.inr (.inl 23)), .inr (.inr (.inl 47)), .inl a0] M0 (jRi (fun v M' => HI X M' ∧ Fr md_X6_find_23_47 M0 M' ∧ 0 ≤ v ∧ v ≤ 1 )) := by
 refine ⟨jr_X6_find, pj_X6_find, fun F c1 c2 c3 => ?_⟩
 have hm := pj_X6_find
 change F 0 [some (.inr (.inr (.inl 23))), some (.inr (.inr (.inl 47))), some (.inl a0), none, none] [] M0
 have hF0 : Fr md_X6_find_23_47 M0 M0 := Fr.rf _ _
 refine jy_ic c1 hm rfl (by decide) ?_
 refine jx_stor c1 hm (L' := [some (.inr (.inr (.inl 23))), some (.inr (.inr (.inl 47))), some (.inl a0), some (.inl 2), none]) rfl rfl rfl rfl rfl ?_
 have W4 : ∀ (n5 : Nat) (b1 : Int) (hb1 : 2 ≤ b1 ∧ b1 ≤ 7) (o2 : Option JV) (ho2 : o2 = none ∨ (∃ z, o2 = some (.inl z)) ∨ ∃ r, o2 = some (.inr (.inr r))) (M3 : JM) (hH3 : HI (X) M3) (hF3 : Fr md_X6_find_23_47 M0 M3), (-b1 + 7) < (n5 : Int) → F 2 [some (.inr (.inr (.inl 23))), some (.inr (.inr (.inl 47))), some (.inl a0), some (.inl b1), o2] [] M3 := by
  intro n5
  induction n5 with
  | zero => intros; omega
  | succ n5 ihW4 =>
   intro b1 hb1 o2 ho2 M3 hH3 hF3 hrW4
   refine jx_load c1 hm rfl rfl rfl rfl ?_
   refine jx_load c1 hm rfl rfl rfl rfl ?_
   refine jc_gt c1 hm 57 rfl rfl (fun h6 => ?_) (fun h6 => ?_)
   ·
    refine jx_load c1 hm rfl rfl rfl rfl ?_
    refine jy_ic c1 hm rfl (by decide) ?_
    obtain ⟨M7, e7, hH7, hF7, k7, n7, _⟩ := mup hH3 hF3 (c := 23) (i := 1) (v := 0) (A := 0) (B := 6) (bs_22_1 _ _ (by omega) (by omega)) ⟨by omega, by omega⟩ (jin_of 0 rfl ⟨by omega, by omega⟩)
    refine jm_puti c1 hm rfl sh_23 rfl e7 ?_
    refine jy_ic c1 hm rfl (by decide) ?_
    exact jx_retz c2 hm rfl rfl ⟨by omega, by omega⟩ ⟨_, rfl, hH7, hF7, by omega, by omega⟩
   refine jy_ic c1 hm rfl (by decide) ?_
   refine jx_stor c1 hm (L' := [some (.inr (.inr (.inl 23))), some (.inr (.inr (.inl 47))), some (.inl a0), some (.inl b1), some (.inl 0)]) rfl rfl rfl rfl rfl ?_
   have W10 : ∀ (n11 : Nat) (b8 : Int) (hb8 : 0 ≤ b8 ∧ b8 ≤ 6) (M9 : JM) (hH9 : HI (X) M9) (hF9 : Fr md_X6_find_23_47 M0 M9), (-b8 + 6) < (n11 : Int) → F 10 [some (.inr (.inr (.inl 23))), some (.inr (.inr (.inl 47))), some (.inl a0), some (.inl b1), some (.inl b8)] [] M9 := by
    intro n11
    induction n11 with
    | zero => intros; omega
    | succ n11 ihW10 =>
     intro b8 hb8 M9 hH9 hF9 hrW10
     refine jx_load c1 hm rfl rfl rfl rfl ?_
     refine jx_load c1 hm rfl rfl rfl rfl ?_
     refine jc_ge c1 hm 51 rfl rfl (fun h12 => ?_) (fun h12 => ?_)
     ·
      refine jx_iinc c1 hm (v := (b1 + 1)) (L' := [some (.inr (.inr (.inl 23))), some (.inr (.inr (.inl 47))), some (.inl a0), some (.inl (b1 + 1)), some (.inl b8)]) rfl rfl (by omega) (by omega) rfl ?_
      refine jx_goto c1 hm 2 rfl rfl ?_
      exact ihW4 (b1 + 1) (by omega) (some (.inl b8)) (Or.inr (Or.inl ⟨_, rfl⟩)) M9 hH9 hF9 (by omega)
     refine jx_load c1 hm rfl rfl rfl rfl ?_
     refine jx_getr c1 hm rfl sh_23 rfl ?_
     refine jy_ic c1 hm rfl (by decide) ?_
     refine jx_load c1 hm rfl rfl rfl rfl ?_
     obtain ⟨M13, e13, hH13, hF13, k13, n13, _⟩ := mup hH9 hF9 (c := 24) (i := 0) (v := b8) (A := 0) (B := 5) rfl ⟨by omega, by omega⟩ (jin_of 1 rfl ⟨by omega, by omega⟩)
     refine jm_iast c1 hm rfl sh_24 ⟨by omega, by omega⟩ e13 ?_
     refine jx_load c1 hm rfl rfl rfl rfl ?_
     refine jx_load c1 hm rfl rfl rfl rfl ?_
     obtain ⟨M14, e14, hH14, hF14, k14, n14, _⟩ := mup hH13 hF13 (c := 23) (i := 1) (v := b1) (A := 0) (B := 6) (bs_22_1 _ _ (by omega) (by omega)) ⟨by omega, by omega⟩ (jin_of 0 rfl ⟨by omega, by omega⟩)
     refine jm_puti c1 hm rfl sh_23 rfl e14 ?_
     refine jx_load c1 hm rfl rfl rfl rfl ?_
     refine jx_load c1 hm rfl rfl rfl rfl ?_
     refine jx_load c1 hm rfl rfl rfl rfl ?_
     refine jy_ic c1 hm rfl (by decide) ?_
     refine jy_ic c1 hm rfl (by decide) ?_
     refine jx_load c1 hm rfl rfl rfl rfl ?_
     refine jy_sh1 c1 hm rfl ⟨by omega, by omega⟩ (fun z15 lz15 uz15 => ?_)
     refine jv_i c3 hm rfl pj_X6_closes rfl rfl ⟨_, _, _, rfl, sh_23⟩ rfl ((ct_X6_closes_23_47 7 X (by omega) M14 hH14 a0 ⟨by omega, by omega⟩ 1 ⟨by omega, by omega⟩ z15 ⟨by omega, by omega⟩ (by omega)).le (by decide)) (fun z16 M17 ⟨hH17, hR17, lz16, uz16⟩ => ?_)
     have hF17 := hF14.tr hR17 (by decide +kernel)
     refine jz_eq c1 hm 45 rfl rfl (fun h18 => ?_) (fun h18 => ?_)
     ·
      refine jx_iinc c1 hm (v := (b8 + 1)) (L' := [some (.inr (.inr (.inl 23))), some (.inr (.inr (.inl 47))), some (.inl a0), some (.inl b1), some (.inl (b8 + 1))]) rfl rfl (by omega) (by omega) rfl ?_
      refine jx_goto c1 hm 10 rfl rfl ?_
      exact ihW10 (b8 + 1) (by omega) M17 hH17 hF17 (by omega)
     refine jy_ic c1 hm rfl (by decide) ?_
     exact jx_retz c2 hm rfl rfl ⟨by omega, by omega⟩ ⟨_, rfl, hH17, hF17, by omega, by omega⟩
   exact W10 (6 + 1 : Int).toNat 0 (by omega) M3 hH3 hF3 (by omega)
 exact W4 (5 + 1 : Int).toNat 2 (by omega) none (Or.inl rfl) M0 hH0 hF0 (by omega)
def md_X0_whyNot_4_47 : List (Nat × (Nat × Nat)) := [(23, (1, 1)), (24, (0, 5))]
theorem ct_X0_whyNot_4_47 (X : Int) (hX : 0 ≤ X ∧ X ≤ 100000000) (M0 : JM) (hH0 : HI X M0) (a0 : Int) (ha0 : 0 ≤ a0 ∧ a0 ≤ 5) (a1 : Int) (ha1 : 0 ≤ a1 ∧ a1 ≤ 5) (a2 : Int) (ha2 : 0 ≤ a2 ∧ a2 ≤ 5) (a3 : Int) (ha3 : (-2147483648) ≤ a3 ∧ a3 ≤ 2147483647) : JOk shp PJ 10 13 [.inr (.inr (.inl 4)), .inr (.inr (.inl 47)), .inl a0, .inl a1, .inl a2, .inl a3] M0 (jRi (fun v M' => HI X M' ∧ Fr md_X0_whyNot_4_47 M0 M' ∧ 0 ≤ v ∧ v ≤ 2 )) := by
 refine ⟨jr_X0_whyNot, pj_X0_whyNot, fun F c1 c2 c3 => ?_⟩
 have hm := pj_X0_whyNot
 change F 0 [some (.inr (.inr (.inl 4))), some (.inr (.inr (.inl 47))), some (.inl a0), some (.inl a1), some (.inl a2), some (.inl a3), none] [] M0
 have hF0 : Fr md_X0_whyNot_4_47 M0 M0 := Fr.rf _ _
 refine jx_load c1 hm rfl rfl rfl rfl ?_
 by_cases h1 : a0 = 0
 ·
  refine jx_tswI c1 hm 36 rfl ⟨by omega, by omega⟩ (by rw [h1] <;> rfl) rfl ?_
  refine jx_load c1 hm rfl rfl rfl rfl ?_
  refine jx_getr c1 hm rfl sh_4 rfl ?_
  refine jx_load c1 hm rfl rfl rfl rfl ?_
  refine jx_load c1 hm rfl rfl rfl rfl ?_
  refine jx_load c1 hm rfl rfl rfl rfl ?_
  refine jv_i c3 hm rfl pj_X2_costNow rfl rfl ⟨_, _, _, rfl, sh_5⟩ rfl ((ct_X2_costNow_5_47 X (by omega) M0 hH0 a1 ⟨by omega, by omega⟩ a2 ⟨by omega, by omega⟩).le (by decide)) (fun z2 _ ⟨rfl, lz2, uz2⟩ => ?_)
  refine jx_stor c1 hm (L' := [some (.inr (.inr (.inl 4))), some (.inr (.inr (.inl 47))), some (.inl a0), some (.inl a1), some (.inl a2), some (.inl a3), some (.inl z2)]) rfl rfl rfl rfl rfl ?_
  refine jx_load c1 hm rfl rfl rfl rfl ?_
  refine jz_ne c1 hm 58 rfl rfl (fun h3 => ?_) (fun h3 => ?_)
  ·
   refine jx_load c1 hm rfl rfl rfl rfl ?_
   refine jx_getr c1 hm rfl sh_47 rfl ?_
   refine jx_load c1 hm rfl rfl rfl rfl ?_
   obtain ⟨z4, k5, lz4, uz4⟩ := hH0.ld (c := 48) (i := (a1).toNat) (A := (-2147483648)) (B := 2147483647) rfl
   refine jx_iald c1 hm rfl sh_48 ⟨by omega, by omega⟩ k5 ?_
   refine jx_load c1 hm rfl rfl rfl rfl ?_
   refine jc_ge c1 hm 73 rfl rfl (fun h6 => ?_) (fun h6 => ?_)
   ·
    refine jy_ic c1 hm rfl (by decide) ?_
    exact jx_reti c2 hm rfl rfl ⟨_, rfl, hH0, hF0, by omega, by omega⟩
   refine jy_ic c1 hm rfl (by decide) ?_
   refine jx_goto c1 hm 74 rfl rfl ?_
   exact jx_reti c2 hm rfl rfl ⟨_, rfl, hH0, hF0, by omega, by omega⟩
  refine jy_ic c1 hm rfl (by decide) ?_
  refine jx_goto c1 hm 74 rfl rfl ?_
  exact jx_reti c2 hm rfl rfl ⟨_, rfl, hH0, hF0, by omega, by omega⟩
 by_cases h7 : a0 = 1
 ·
  refine jx_tswI c1 hm 75 rfl ⟨by omega, by omega⟩ (by rw [h7] <;> rfl) rfl ?_
  refine jx_load c1 hm rfl rfl rfl rfl ?_
  refine jx_getr c1 hm rfl sh_47 rfl ?_
  refine jx_load c1 hm rfl rfl rfl rfl ?_
  obtain ⟨z8, k9, lz8, uz8⟩ := hH0.ld (c := 51) (i := (a2).toNat) (A := (-2147483648)) (B := 2147483647) rfl
  refine jx_iald c1 hm rfl sh_51 ⟨by omega, by omega⟩ k9 ?_
  refine jz_ne c1 hm 89 rfl rfl (fun h10 => ?_) (fun h10 => ?_)
  ·
   refine jx_load c1 hm rfl rfl rfl rfl ?_
   refine jx_getr c1 hm rfl sh_47 rfl ?_
   refine jx_load c1 hm rfl rfl rfl rfl ?_
   obtain ⟨z11, k12, lz11, uz11⟩ := hH0.ld (c := 49) (i := (a1).toNat) (A := (-2147483648)) (B := 2147483647) rfl
   refine jx_iald c1 hm rfl sh_49 ⟨by omega, by omega⟩ k12 ?_
   refine jx_load c1 hm rfl rfl rfl rfl ?_
   refine jx_getr c1 hm rfl sh_4 rfl ?_
   refine jx_getr c1 hm rfl sh_5 rfl ?_
   refine jx_load c1 hm rfl rfl rfl rfl ?_
   obtain ⟨z13, k14, lz13, uz13⟩ := hH0.ld (c := 11) (i := (a2).toNat) (A := 0) (B := 99) rfl
   refine jx_iald c1 hm rfl sh_11 ⟨by omega, by omega⟩ k14 ?_
   refine jc_ge c1 hm 112 rfl rfl (fun h15 => ?_) (fun h15 => ?_)
   ·
    refine jy_ic c1 hm rfl (by decide) ?_
    exact jx_reti c2 hm rfl rfl ⟨_, rfl, hH0, hF0, by omega, by omega⟩
   refine jy_ic c1 hm rfl (by decide) ?_
   refine jx_goto c1 hm 113 rfl rfl ?_
   exact jx_reti c2 hm rfl rfl ⟨_, rfl, hH0, hF0, by omega, by omega⟩
  refine jy_ic c1 hm rfl (by decide) ?_
  refine jx_goto c1 hm 113 rfl rfl ?_
  exact jx_reti c2 hm rfl rfl ⟨_, rfl, hH0, hF0, by omega, by omega⟩
 by_cases h16 : a0 = 2
 ·
  refine jx_tswI c1 hm 114 rfl ⟨by omega, by omega⟩ (by rw [h16] <;> rfl) rfl ?_
  refine jx_load c1 hm rfl rfl rfl rfl ?_
  refine jx_load c1 hm rfl rfl rfl rfl ?_
  refine jc_ne c1 hm 124 rfl rfl (fun h17 => ?_) (fun h17 => ?_)
  ·
   refine jx_load c1 hm rfl rfl rfl rfl ?_
   refine jx_getr c1 hm rfl sh_47 rfl ?_
   refine jx_load c1 hm rfl rfl rfl rfl ?_
   obtain ⟨z18, k19, lz18, uz18⟩ := hH0.ld (c := 49) (i := (a1).toNat) (A := (-2147483648)) (B := 2147483647) rfl
   refine jx_iald c1 hm rfl sh_49 ⟨by omega, by omega⟩ k19 ?_
   refine jx_load c1 hm rfl rfl rfl rfl ?_
   refine jc_ge c1 hm 139 rfl rfl (fun h20 => ?_) (fun h20 => ?_)
   ·
    refine jy_ic c1 hm rfl (by decide) ?_
    exact jx_reti c2 hm rfl rfl ⟨_, rfl, hH0, hF0, by omega, by omega⟩
   refine jy_ic c1 hm rfl (by decide) ?_
   refine jx_goto c1 hm 140 rfl rfl ?_
   exact jx_reti c2 hm rfl rfl ⟨_, rfl, hH0, hF0, by omega, by omega⟩
  refine jy_ic c1 hm rfl (by decide) ?_
  refine jx_goto c1 hm 140 rfl rfl ?_
  exact jx_reti c2 hm rfl rfl ⟨_, rfl, hH0, hF0, by omega, by omega⟩
 by_cases h21 : a0 = 3
 ·
  refine jx_tswI c1 hm 141 rfl ⟨by omega, by omega⟩ (by rw [h21] <;> rfl) rfl ?_
  refine jx_load c1 hm rfl rfl rfl rfl ?_
  refine jx_getr c1 hm rfl sh_47 rfl ?_
  refine jx_load c1 hm rfl rfl rfl rfl ?_
  refine jy_bp c1 hm rfl (by decide) ?_
  refine jy_mul c1 hm (6 * a1) rfl (by omega) ?_
  refine jx_load c1 hm rfl rfl rfl rfl ?_
  refine jy_add c1 hm (6 * a1 + a2) rfl (by omega) ?_
  obtain ⟨z22, k23, lz22, uz22⟩ := hH0.ld (c := 52) (i := ((6 * a1 + a2)).toNat) (A := (-2147483648)) (B := 2147483647) rfl
  refine jx_iald c1 hm rfl sh_52 ⟨by omega, by omega⟩ k23 ?_
  refine jx_load c1 hm rfl rfl rfl rfl ?_
  refine jc_ge c1 hm 162 rfl rfl (fun h24 => ?_) (fun h24 => ?_)
  ·
   refine jx_load c1 hm rfl rfl rfl rfl ?_
   refine jx_getr c1 hm rfl sh_47 rfl ?_
   refine jx_load c1 hm rfl rfl rfl rfl ?_
   obtain ⟨z25, k26, lz25, uz25⟩ := hH0.ld (c := 49) (i := (a1).toNat) (A := (-2147483648)) (B := 2147483647) rfl
   refine jx_iald c1 hm rfl sh_49 ⟨by omega, by omega⟩ k26 ?_
   refine jx_load c1 hm rfl rfl rfl rfl ?_
   refine jc_ge c1 hm 177 rfl rfl (fun h27 => ?_) (fun h27 => ?_)
   ·
    refine jy_ic c1 hm rfl (by decide) ?_
    exact jx_reti c2 hm rfl rfl ⟨_, rfl, hH0, hF0, by omega, by omega⟩
   refine jy_ic c1 hm rfl (by decide) ?_
   refine jx_goto c1 hm 178 rfl rfl ?_
   exact jx_reti c2 hm rfl rfl ⟨_, rfl, hH0, hF0, by omega, by omega⟩
  refine jy_ic c1 hm rfl (by decide) ?_
  refine jx_goto c1 hm 178 rfl rfl ?_
  exact jx_reti c2 hm rfl rfl ⟨_, rfl, hH0, hF0, by omega, by omega⟩
 by_cases h28 : a0 = 4
 ·
  refine jx_tswI c1 hm 179 rfl ⟨by omega, by omega⟩ (by rw [h28] <;> rfl) rfl ?_
  refine jx_load c1 hm rfl rfl rfl rfl ?_
  refine jx_getr c1 hm rfl sh_4 rfl ?_
  refine jx_load c1 hm rfl rfl rfl rfl ?_
  refine jx_load c1 hm rfl rfl rfl rfl ?_
  refine jx_getr c1 hm rfl sh_4 rfl ?_
  refine jv_i c3 hm rfl pj_X2_men rfl rfl ⟨_, _, _, rfl, sh_5⟩ rfl ((ct_X2_men_5 X (by omega) M0 hH0 ).le (by decide)) (fun z29 _ ⟨rfl, lz29, uz29⟩ => ?_)
  refine jv_i c3 hm rfl pj_X6_find rfl rfl ⟨_, _, _, rfl, sh_23⟩ rfl ((ct_X6_find_23_47 X (by omega) M0 hH0 z29 ⟨by omega, by omega⟩).le (by decide)) (fun z30 M31 ⟨hH31, hR31, lz30, uz30⟩ => ?_)
  have hF31 := hF0.tr hR31 (by decide +kernel)
  refine jz_eq c1 hm 201 rfl rfl (fun h32 => ?_) (fun h32 => ?_)
  ·
   refine jy_ic c1 hm rfl (by decide) ?_
   exact jx_reti c2 hm rfl rfl ⟨_, rfl, hH31, hF31, by omega, by omega⟩
  refine jy_ic c1 hm rfl (by decide) ?_
  refine jx_goto c1 hm 202 rfl rfl ?_
  exact jx_reti c2 hm rfl rfl ⟨_, rfl, hH31, hF31, by omega, by omega⟩
 refine jx_tswO c1 hm 203 rfl (by omega) rfl ?_
 refine jy_sp c1 hm rfl (by decide) ?_
 refine jx_load c1 hm rfl rfl rfl rfl ?_
 obtain ⟨z33, k34, lz33, uz33⟩ := hH0.ld (c := 47) (i := 7) (A := (-2147483648)) (B := 2147483647) rfl
 refine jx_geti c1 hm rfl sh_47 rfl k34 ?_
 refine jx_iopw c1 hm rfl rfl (fun z35 lz35 uz35 => ?_)
 refine jx_load c1 hm rfl rfl rfl rfl ?_
 refine jc_ge c1 hm 220 rfl rfl (fun h36 => ?_) (fun h36 => ?_)
 ·
  refine jy_ic c1 hm rfl (by decide) ?_
  exact jx_reti c2 hm rfl rfl ⟨_, rfl, hH0, hF0, by omega, by omega⟩
 refine jy_ic c1 hm rfl (by decide) ?_
 refine jx_goto c1 hm 221 rfl rfl ?_
 exact jx_reti c2 hm rfl rfl ⟨_, rfl, hH0, hF0, by omega, by omega⟩
def md_X0_doForfeit_4_47 : List (Nat × (Nat × Nat)) := [(48, (0, 5)), (49, (0, 5)), (50, (0, 5)), (53, (0, 35))]
theorem ct_X0_doForfeit_4_47 (X : Int) (hX : 0 ≤ X ∧ X ≤ 99999999) (M0 : JM) (hH0 : HI X M0) (a0 : Int) (ha0 : 0 ≤ a0 ∧ a0 ≤ 5) (a1 : Int) (ha1 : 0 ≤ a1 ∧ a1 ≤ 5) : JOk shp PJ 3 3 [.inr (.inr (.inl 4)), .inr (.inr (.inl 47)), .inl a0, .inl a1] M0 (jRi (fun v M' => HI (X + 1) M' ∧ Fr md_X0_doForfeit_4_47 M0 M' ∧ 0 ≤ v ∧ v ≤ 20 )) := by
 refine ⟨jr_X0_doForfeit, pj_X0_doForfeit, fun F c1 c2 c3 => ?_⟩
 have hm := pj_X0_doForfeit
 change F 0 [some (.inr (.inr (.inl 4))), some (.inr (.inr (.inl 47))), some (.inl a0), some (.inl a1), none] [] M0
 have hF0 : Fr md_X0_doForfeit_4_47 M0 M0 := Fr.rf _ _
 have hG0 := hH0
 replace hH0 := hH0.mono (by omega) (show X ≤ X + 1 by omega)
 refine jx_load c1 hm rfl rfl rfl rfl ?_
 refine jx_getr c1 hm rfl sh_4 rfl ?_
 refine jx_load c1 hm rfl rfl rfl rfl ?_
 refine jx_load c1 hm rfl rfl rfl rfl ?_
 refine jx_load c1 hm rfl rfl rfl rfl ?_
 refine jv_i c3 hm rfl pj_X2_costNow rfl rfl ⟨_, _, _, rfl, sh_5⟩ rfl ((ct_X2_costNow_5_47 (X + 1) (by omega) M0 hH0 a0 ⟨by omega, by omega⟩ a1 ⟨by omega, by omega⟩).le (by decide)) (fun z1 _ ⟨rfl, lz1, uz1⟩ => ?_)
 refine jx_stor c1 hm (L' := [some (.inr (.inr (.inl 4))), some (.inr (.inr (.inl 47))), some (.inl a0), some (.inl a1), some (.inl z1)]) rfl rfl rfl rfl rfl ?_
 refine jx_load c1 hm rfl rfl rfl rfl ?_
 refine jx_getr c1 hm rfl sh_47 rfl ?_
 refine jx_load c1 hm rfl rfl rfl rfl ?_
 refine jx_dup2 c1 hm rfl rfl rfl ?_
 obtain ⟨z2, k3, lz2, uz2⟩ := hG0.ld (c := 48) (i := (a0).toNat) (A := (-2147483648)) (B := 2147483647) rfl
 have k4 : M0.1 48 (a0).toNat = z2 := k3
 refine jx_iald c1 hm rfl sh_48 ⟨by omega, by omega⟩ k4 ?_
 refine jx_load c1 hm rfl rfl rfl rfl ?_
 refine jx_iopw c1 hm rfl rfl (fun z5 lz5 uz5 => ?_)
 obtain ⟨M6, e6, hH6, hF6, k6, n6, _⟩ := mup hH0 hF0 (c := 48) (i := (a0).toNat) (v := z5) (A := (-2147483648)) (B := 2147483647) rfl ⟨by omega, by omega⟩ (jin_of 0 rfl ⟨by omega, by omega⟩)
 refine jm_iast c1 hm rfl sh_48 ⟨by omega, by omega⟩ e6 ?_
 refine jx_load c1 hm rfl rfl rfl rfl ?_
 refine jx_getr c1 hm rfl sh_47 rfl ?_
 refine jx_load c1 hm rfl rfl rfl rfl ?_
 refine jx_dup2 c1 hm rfl rfl rfl ?_
 obtain ⟨z7, k8, lz7, uz7⟩ := hG0.ld (c := 49) (i := (a0).toNat) (A := (-2147483648)) (B := 2147483647) rfl
 have k9 : M6.1 49 (a0).toNat = z7 := (n6 49 (a0).toNat (by omega)).trans k8
 refine jx_iald c1 hm rfl sh_49 ⟨by omega, by omega⟩ k9 ?_
 refine jx_load c1 hm rfl rfl rfl rfl ?_
 refine jx_iopw c1 hm rfl rfl (fun z10 lz10 uz10 => ?_)
 obtain ⟨M11, e11, hH11, hF11, k11, n11, _⟩ := mup hH6 hF6 (c := 49) (i := (a0).toNat) (v := z10) (A := (-2147483648)) (B := 2147483647) rfl ⟨by omega, by omega⟩ (jin_of 1 rfl ⟨by omega, by omega⟩)
 refine jm_iast c1 hm rfl sh_49 ⟨by omega, by omega⟩ e11 ?_
 refine jx_load c1 hm rfl rfl rfl rfl ?_
 refine jx_getr c1 hm rfl sh_47 rfl ?_
 refine jx_load c1 hm rfl rfl rfl rfl ?_
 refine jx_dup2 c1 hm rfl rfl rfl ?_
 obtain ⟨z12, k13, lz12, uz12⟩ := hG0.ld (c := 50) (i := (a0).toNat) (A := (-2147483648)) (B := 2147483647) rfl
 have k14 : M11.1 50 (a0).toNat = z12 := (n11 50 (a0).toNat (by omega)).trans ((n6 50 (a0).toNat (by omega)).trans k13)
 refine jx_iald c1 hm rfl sh_50 ⟨by omega, by omega⟩ k14 ?_
 refine jx_load c1 hm rfl rfl rfl rfl ?_
 refine jx_iopw c1 hm rfl rfl (fun z15 lz15 uz15 => ?_)
 obtain ⟨M16, e16, hH16, hF16, k16, n16, _⟩ := mup hH11 hF11 (c := 50) (i := (a0).toNat) (v := z15) (A := (-2147483648)) (B := 2147483647) rfl ⟨by omega, by omega⟩ (jin_of 2 rfl ⟨by omega, by omega⟩)
 refine jm_iast c1 hm rfl sh_50 ⟨by omega, by omega⟩ e16 ?_
 refine jx_load c1 hm rfl rfl rfl rfl ?_
 refine jx_getr c1 hm rfl sh_47 rfl ?_
 refine jx_load c1 hm rfl rfl rfl rfl ?_
 refine jy_bp c1 hm rfl (by decide) ?_
 refine jy_mul c1 hm (6 * a0) rfl (by omega) ?_
 refine jx_load c1 hm rfl rfl rfl rfl ?_
 refine jy_add c1 hm (6 * a0 + a1) rfl (by omega) ?_
 refine jx_dup2 c1 hm rfl rfl rfl ?_
 obtain ⟨z17, k18, lz17, uz17⟩ := hG0.ld (c := 53) (i := ((6 * a0 + a1)).toNat) (A := 0) (B := 1 * X) rfl
 have k19 : M16.1 53 ((6 * a0 + a1)).toNat = z17 := (n16 53 ((6 * a0 + a1)).toNat (by omega)).trans ((n11 53 ((6 * a0 + a1)).toNat (by omega)).trans ((n6 53 ((6 * a0 + a1)).toNat (by omega)).trans k18))
 refine jx_iald c1 hm rfl sh_53 ⟨by omega, by omega⟩ k19 ?_
 refine jy_ic c1 hm rfl (by decide) ?_
 refine jy_add c1 hm (z17 + 1) rfl (by omega) ?_
 obtain ⟨M20, e20, hH20, hF20, k20, n20, _⟩ := mup hH16 hF16 (c := 53) (i := ((6 * a0 + a1)).toNat) (v := (z17 + 1)) (A := 0) (B := 1 * (X + 1)) rfl ⟨by omega, by omega⟩ (jin_of 3 rfl ⟨by omega, by omega⟩)
 refine jm_iast c1 hm rfl sh_53 ⟨by omega, by omega⟩ e20 ?_
 refine jx_load c1 hm rfl rfl rfl rfl ?_
 exact jx_reti c2 hm rfl rfl ⟨_, rfl, hH20, hF20, by omega, by omega⟩
def md_X6_strikeFrom_23_47 : List (Nat × (Nat × Nat)) := [(52, (0, 35))]
theorem ct_X6_strikeFrom_23_47 (X : Int) (hX : 0 ≤ X ∧ X ≤ 100000000) (M0 : JM) (hH0 : HI X M0)  : JOk shp PJ 2 248 [.inr (.inr (.inl 23)), .inr (.inr (.inl 47))] M0 (jRi (fun v M' => HI X M' ∧ Fr md_X6_strikeFrom_23_47 M0 M' ∧ (-2147483648) ≤ v ∧ v ≤ 2147483647 )) := by
 refine ⟨jr_X6_strikeFrom, pj_X6_strikeFrom, fun F c1 c2 c3 => ?_⟩
 have hm := pj_X6_strikeFrom
 change F 0 [some (.inr (.inr (.inl 23))), some (.inr (.inr (.inl 47))), none, none, none] [] M0
 have hF0 : Fr md_X6_strikeFrom_23_47 M0 M0 := Fr.rf _ _
 refine jy_ic c1 hm rfl (by decide) ?_
 refine jx_stor c1 hm (L' := [some (.inr (.inr (.inl 23))), some (.inr (.inr (.inl 47))), some (.inl 0), none, none]) rfl rfl rfl rfl rfl ?_
 refine jy_ic c1 hm rfl (by decide) ?_
 refine jx_stor c1 hm (L' := [some (.inr (.inr (.inl 23))), some (.inr (.inr (.inl 47))), some (.inl 0), some (.inl 0), none]) rfl rfl rfl rfl rfl ?_
 have W4 : ∀ (n5 : Nat) (b1 : Int) (hb1 : (-2147483648) ≤ b1 ∧ b1 ≤ 2147483647) (b2 : Int) (hb2 : 0 ≤ b2 ∧ b2 ≤ 6) (o3 : Option JV) (ho3 : o3 = none ∨ (∃ z, o3 = some (.inl z)) ∨ ∃ r, o3 = some (.inr (.inr r))), (-b2 + 6) < (n5 : Int) → F 4 [some (.inr (.inr (.inl 23))), some (.inr (.inr (.inl 47))), some (.inl b1), some (.inl b2), o3] [] M0 := by
  intro n5
  induction n5 with
  | zero => intros; omega
  | succ n5 ihW4 =>
   intro b1 hb1 b2 hb2 o3 ho3 hrW4
   refine jx_load c1 hm rfl rfl rfl rfl ?_
   refine jx_load c1 hm rfl rfl rfl rfl ?_
   obtain ⟨z6, k7, lz6, uz6⟩ := hH0.ld (c := 23) (i := 1) (A := 0) (B := 6) (bs_22_1 _ _ (by omega) (by omega))
   refine jx_geti c1 hm rfl sh_23 rfl k7 ?_
   refine jc_ge c1 hm 46 rfl rfl (fun h8 => ?_) (fun h8 => ?_)
   ·
    refine jy_ic c1 hm rfl (by decide) ?_
    refine jx_stor c1 hm (L' := [some (.inr (.inr (.inl 23))), some (.inr (.inr (.inl 47))), some (.inl b1), some (.inl 0), o3]) rfl rfl rfl rfl rfl ?_
    have W18 : ∀ (n19 : Nat) (b16 : Int) (hb16 : 0 ≤ b16 ∧ b16 ≤ 6) (M17 : JM) (hH17 : HI (X) M17) (hF17 : Fr md_X6_strikeFrom_23_47 M0 M17), (-b16 + 6) < (n19 : Int) → F 48 [some (.inr (.inr (.inl 23))), some (.inr (.inr (.inl 47))), some (.inl b1), some (.inl b16), o3] [] M17 := by
     intro n19
     induction n19 with
     | zero => intros; omega
     | succ n19 ihW18 =>
      intro b16 hb16 M17 hH17 hF17 hrW18
      refine jx_load c1 hm rfl rfl rfl rfl ?_
      refine jx_load c1 hm rfl rfl rfl rfl ?_
      obtain ⟨z20, k21, lz20, uz20⟩ := hH17.ld (c := 23) (i := 1) (A := 0) (B := 6) (bs_22_1 _ _ (by omega) (by omega))
      refine jx_geti c1 hm rfl sh_23 rfl k21 ?_
      refine jc_ge c1 hm 76 rfl rfl (fun h22 => ?_) (fun h22 => ?_)
      ·
       refine jx_load c1 hm rfl rfl rfl rfl ?_
       exact jx_reti c2 hm rfl rfl ⟨_, rfl, hH17, hF17, by omega, by omega⟩
      refine jx_load c1 hm rfl rfl rfl rfl ?_
      refine jx_getr c1 hm rfl sh_47 rfl ?_
      refine jx_load c1 hm rfl rfl rfl rfl ?_
      refine jx_load c1 hm rfl rfl rfl rfl ?_
      refine jv_i c3 hm rfl pj_X6_pairAt rfl rfl ⟨_, _, _, rfl, sh_23⟩ rfl ((ct_X6_pairAt_23 X (by omega) M17 hH17 b16 ⟨by omega, by omega⟩).le (by decide)) (fun z23 _ ⟨rfl, lz23, uz23⟩ => ?_)
      refine jx_dup2 c1 hm rfl rfl rfl ?_
      obtain ⟨z24, k25, lz24, uz24⟩ := hH17.ld (c := 52) (i := (z23).toNat) (A := (-2147483648)) (B := 2147483647) rfl
      refine jx_iald c1 hm rfl sh_52 ⟨by omega, by omega⟩ k25 ?_
      refine jx_load c1 hm rfl rfl rfl rfl ?_
      refine jx_iopw c1 hm rfl rfl (fun z26 lz26 uz26 => ?_)
      obtain ⟨M27, e27, hH27, hF27, k27, n27, _⟩ := mup hH17 hF17 (c := 52) (i := (z23).toNat) (v := z26) (A := (-2147483648)) (B := 2147483647) rfl ⟨by omega, by omega⟩ (jin_of 0 rfl ⟨by omega, by omega⟩)
      refine jm_iast c1 hm rfl sh_52 ⟨by omega, by omega⟩ e27 ?_
      refine jx_iinc c1 hm (v := (b16 + 1)) (L' := [some (.inr (.inr (.inl 23))), some (.inr (.inr (.inl 47))), some (.inl b1), some (.inl (b16 + 1)), o3]) rfl rfl (by omega) (by omega) rfl ?_
      refine jx_goto c1 hm 48 rfl rfl ?_
      exact ihW18 (b16 + 1) (by omega) M27 hH27 hF27 (by omega)
    exact W18 (6 + 1 : Int).toNat 0 (by omega) M0 hH0 hF0 (by omega)
   refine jx_load c1 hm rfl rfl rfl rfl ?_
   refine jx_getr c1 hm rfl sh_47 rfl ?_
   refine jx_load c1 hm rfl rfl rfl rfl ?_
   refine jx_load c1 hm rfl rfl rfl rfl ?_
   refine jv_i c3 hm rfl pj_X6_pairAt rfl rfl ⟨_, _, _, rfl, sh_23⟩ rfl ((ct_X6_pairAt_23 X (by omega) M0 hH0 b2 ⟨by omega, by omega⟩).le (by decide)) (fun z9 _ ⟨rfl, lz9, uz9⟩ => ?_)
   obtain ⟨z10, k11, lz10, uz10⟩ := hH0.ld (c := 52) (i := (z9).toNat) (A := (-2147483648)) (B := 2147483647) rfl
   refine jx_iald c1 hm rfl sh_52 ⟨by omega, by omega⟩ k11 ?_
   refine jx_stor c1 hm (L' := [some (.inr (.inr (.inl 23))), some (.inr (.inr (.inl 47))), some (.inl b1), some (.inl b2), some (.inl z10)]) rfl rfl rfl rfl rfl ?_
   refine jx_load c1 hm rfl rfl rfl rfl ?_
   have J15 : ∀ (b14 : Int) (hb14 : (-2147483648) ≤ b14 ∧ b14 ≤ 2147483647), F 39 [some (.inr (.inr (.inl 23))), some (.inr (.inr (.inl 47))), some (.inl b1), some (.inl b2), some (.inl z10)] [.inl b14] M0 := by
    intro b14 hb14
    refine jx_stor c1 hm (L' := [some (.inr (.inr (.inl 23))), some (.inr (.inr (.inl 47))), some (.inl b14), some (.inl b2), some (.inl z10)]) rfl rfl rfl rfl rfl ?_
    refine jx_iinc c1 hm (v := (b2 + 1)) (L' := [some (.inr (.inr (.inl 23))), some (.inr (.inr (.inl 47))), some (.inl b14), some (.inl (b2 + 1)), some (.inl z10)]) rfl rfl (by omega) (by omega) rfl ?_
    refine jx_goto c1 hm 4 rfl rfl ?_
    exact ihW4 b14 (by omega) (b2 + 1) (by omega) (some (.inl z10)) (Or.inr (Or.inl ⟨_, rfl⟩)) (by omega)
   refine jz_ne c1 hm 33 rfl rfl (fun h12 => ?_) (fun h12 => ?_)
   ·
    refine jx_load c1 hm rfl rfl rfl rfl ?_
    refine jx_load c1 hm rfl rfl rfl rfl ?_
    refine jx_min c1 hm rfl rfl (fun z13 lz13 uz13 ez13 => ?_)
    exact J15 z13 (by omega)
   refine jx_load c1 hm rfl rfl rfl rfl ?_
   refine jx_goto c1 hm 39 rfl rfl ?_
   exact J15 z10 (by omega)
 exact W4 (6 + 1 : Int).toNat 0 (by omega) 0 (by omega) none (Or.inl rfl) (by omega)
def md_X0_passWeeks_4_47 : List (Nat × (Nat × Nat)) := [(47, (7, 7)), (48, (0, 5))]
theorem ct_X0_passWeeks_4_47 (X : Int) (hX : 0 ≤ X ∧ X ≤ 100000000) (M0 : JM) (hH0 : HI X M0) (a0 : Int) (ha0 : 0 ≤ a0 ∧ a0 ≤ 99) : JOk shp PJ 2 10 [.inr (.inr (.inl 4)), .inr (.inr (.inl 47)), .inl a0] M0 (jRv (fun M' => HI X M' ∧ Fr md_X0_passWeeks_4_47 M0 M' )) := by
 refine ⟨jr_X0_passWeeks, pj_X0_passWeeks, fun F c1 c2 c3 => ?_⟩
 have hm := pj_X0_passWeeks
 change F 0 [some (.inr (.inr (.inl 4))), some (.inr (.inr (.inl 47))), some (.inl a0), none] [] M0
 have hF0 : Fr md_X0_passWeeks_4_47 M0 M0 := Fr.rf _ _
 refine jy_ic c1 hm rfl (by decide) ?_
 refine jx_stor c1 hm (L' := [some (.inr (.inr (.inl 4))), some (.inr (.inr (.inl 47))), some (.inl a0), some (.inl 0)]) rfl rfl rfl rfl rfl ?_
 have W3 : ∀ (n4 : Nat) (b1 : Int) (hb1 : 0 ≤ b1 ∧ b1 ≤ 6) (M2 : JM) (hH2 : HI (X) M2) (hF2 : Fr md_X0_passWeeks_4_47 M0 M2), (-b1 + 6) < (n4 : Int) → F 2 [some (.inr (.inr (.inl 4))), some (.inr (.inr (.inl 47))), some (.inl a0), some (.inl b1)] [] M2 := by
  intro n4
  induction n4 with
  | zero => intros; omega
  | succ n4 ihW3 =>
   intro b1 hb1 M2 hH2 hF2 hrW3
   refine jx_load c1 hm rfl rfl rfl rfl ?_
   refine jx_load c1 hm rfl rfl rfl rfl ?_
   refine jx_getr c1 hm rfl sh_4 rfl ?_
   refine jv_i c3 hm rfl pj_X2_men rfl rfl ⟨_, _, _, rfl, sh_5⟩ rfl ((ct_X2_men_5 X (by omega) M2 hH2 ).le (by decide)) (fun z5 _ ⟨rfl, lz5, uz5⟩ => ?_)
   refine jc_ge c1 hm 53 rfl rfl (fun h6 => ?_) (fun h6 => ?_)
   ·
    refine jx_load c1 hm rfl rfl rfl rfl ?_
    refine jx_dup c1 hm rfl rfl ?_
    obtain ⟨z17, k18, lz17, uz17⟩ := hH2.ld (c := 47) (i := 7) (A := (-2147483648)) (B := 2147483647) rfl
    refine jx_geti c1 hm rfl sh_47 rfl k18 ?_
    refine jx_load c1 hm rfl rfl rfl rfl ?_
    refine jx_iopw c1 hm rfl rfl (fun z19 lz19 uz19 => ?_)
    obtain ⟨M20, e20, hH20, hF20, k20, n20, _⟩ := mup hH2 hF2 (c := 47) (i := 7) (v := z19) (A := (-2147483648)) (B := 2147483647) rfl ⟨by omega, by omega⟩ (jin_of 0 rfl ⟨by omega, by omega⟩)
    refine jm_puti c1 hm rfl sh_47 rfl e20 ?_
    exact jx_retv c2 hm rfl rfl ⟨rfl, hH20, hF20⟩
   refine jx_load c1 hm rfl rfl rfl rfl ?_
   refine jx_getr c1 hm rfl sh_47 rfl ?_
   refine jx_load c1 hm rfl rfl rfl rfl ?_
   refine jx_load c1 hm rfl rfl rfl rfl ?_
   refine jx_getr c1 hm rfl sh_4 rfl ?_
   refine jx_getr c1 hm rfl sh_5 rfl ?_
   refine jx_load c1 hm rfl rfl rfl rfl ?_
   obtain ⟨z7, k8, lz7, uz7⟩ := hH2.ld (c := 8) (i := (b1).toNat) (A := 0) (B := 99) rfl
   refine jx_iald c1 hm rfl sh_8 ⟨by omega, by omega⟩ k8 ?_
   refine jx_load c1 hm rfl rfl rfl rfl ?_
   refine jx_getr c1 hm rfl sh_47 rfl ?_
   refine jx_load c1 hm rfl rfl rfl rfl ?_
   obtain ⟨z9, k10, lz9, uz9⟩ := hH2.ld (c := 48) (i := (b1).toNat) (A := (-2147483648)) (B := 2147483647) rfl
   refine jx_iald c1 hm rfl sh_48 ⟨by omega, by omega⟩ k10 ?_
   refine jx_load c1 hm rfl rfl rfl rfl ?_
   refine jx_load c1 hm rfl rfl rfl rfl ?_
   refine jx_getr c1 hm rfl sh_4 rfl ?_
   obtain ⟨z11, k12, lz11, uz11⟩ := hH2.ld (c := 5) (i := 7) (A := 0) (B := 9) (bs_20_1 _ _ (by omega) (by omega))
   refine jx_geti c1 hm rfl sh_5 rfl k12 ?_
   refine jy_mup c1 hm 99 9 891 rfl ⟨by omega, by omega, by omega, by omega⟩ (by decide) (fun z13 lz13 uz13 => ?_)
   refine jx_iopw c1 hm rfl rfl (fun z14 lz14 uz14 => ?_)
   refine jx_min c1 hm rfl rfl (fun z15 lz15 uz15 ez15 => ?_)
   obtain ⟨M16, e16, hH16, hF16, k16, n16, _⟩ := mup hH2 hF2 (c := 48) (i := (b1).toNat) (v := z15) (A := (-2147483648)) (B := 2147483647) rfl ⟨by omega, by omega⟩ (jin_of 1 rfl ⟨by omega, by omega⟩)
   refine jm_iast c1 hm rfl sh_48 ⟨by omega, by omega⟩ e16 ?_
   refine jx_iinc c1 hm (v := (b1 + 1)) (L' := [some (.inr (.inr (.inl 4))), some (.inr (.inr (.inl 47))), some (.inl a0), some (.inl (b1 + 1))]) rfl rfl (by omega) (by omega) rfl ?_
   refine jx_goto c1 hm 2 rfl rfl ?_
   exact ihW3 (b1 + 1) (by omega) M16 hH16 hF16 (by omega)
 exact W3 (6 + 1 : Int).toNat 0 (by omega) M0 hH0 hF0 (by omega)
def md_X0_perform_4_47 : List (Nat × (Nat × Nat)) := [(47, (7, 7)), (48, (0, 5)), (49, (0, 5)), (50, (0, 5)), (51, (0, 5)), (52, (0, 35)), (53, (0, 35)), (54, (0, 35))]
theorem ct_X0_perform_4_47 (X : Int) (hX : 0 ≤ X ∧ X ≤ 99999999) (M0 : JM) (hH0 : HI X M0) (a0 : Int) (ha0 : 0 ≤ a0 ∧ a0 ≤ 5) (a1 : Int) (ha1 : 0 ≤ a1 ∧ a1 ≤ 5) (a2 : Int) (ha2 : 0 ≤ a2 ∧ a2 ≤ 5) (a3 : Int) (ha3 : 0 ≤ a3 ∧ a3 ≤ 99) : JOk shp PJ 4 11 [.inr (.inr (.inl 4)), .inr (.inr (.inl 47)), .inl a0, .inl a1, .inl a2, .inl a3] M0 (jRi (fun v M' => HI (X + 1) M' ∧ Fr md_X0_perform_4_47 M0 M' ∧ (-2147483648) ≤ v ∧ v ≤ 2147483647 )) := by
 refine ⟨jr_X0_perform, pj_X0_perform, fun F c1 c2 c3 => ?_⟩
 have hm := pj_X0_perform
 change F 0 [some (.inr (.inr (.inl 4))), some (.inr (.inr (.inl 47))), some (.inl a0), some (.inl a1), some (.inl a2), some (.inl a3)] [] M0
 have hF0 : Fr md_X0_perform_4_47 M0 M0 := Fr.rf _ _
 refine jx_load c1 hm rfl rfl rfl rfl ?_
 by_cases h1 : a0 = 0
 ·
  refine jx_tswI c1 hm 36 rfl ⟨by omega, by omega⟩ (by rw [h1] <;> rfl) rfl ?_
  refine jx_load c1 hm rfl rfl rfl rfl ?_
  refine jx_load c1 hm rfl rfl rfl rfl ?_
  refine jx_load c1 hm rfl rfl rfl rfl ?_
  refine jx_load c1 hm rfl rfl rfl rfl ?_
  refine jv_i c3 hm rfl pj_X0_doForfeit rfl rfl ⟨_, _, _, rfl, sh_4⟩ rfl ((ct_X0_doForfeit_4_47 X (by omega) M0 hH0 a1 ⟨by omega, by omega⟩ a2 ⟨by omega, by omega⟩).le (by decide)) (fun z2 M3 ⟨hH3, hR3, lz2, uz2⟩ => ?_)
  have hF3 := hF0.tr hR3 (by decide +kernel)
  exact jx_reti c2 hm rfl rfl ⟨_, rfl, hH3, hF3, by omega, by omega⟩
 by_cases h4 : a0 = 1
 ·
  refine jx_tswI c1 hm 45 rfl ⟨by omega, by omega⟩ (by rw [h4] <;> rfl) rfl ?_
  refine jx_load c1 hm rfl rfl rfl rfl ?_
  refine jx_getr c1 hm rfl sh_47 rfl ?_
  refine jx_load c1 hm rfl rfl rfl rfl ?_
  refine jx_dup2 c1 hm rfl rfl rfl ?_
  obtain ⟨z5, k6, lz5, uz5⟩ := hH0.ld (c := 49) (i := (a1).toNat) (A := (-2147483648)) (B := 2147483647) rfl
  refine jx_iald c1 hm rfl sh_49 ⟨by omega, by omega⟩ k6 ?_
  refine jx_load c1 hm rfl rfl rfl rfl ?_
  refine jx_getr c1 hm rfl sh_4 rfl ?_
  refine jx_getr c1 hm rfl sh_5 rfl ?_
  refine jx_load c1 hm rfl rfl rfl rfl ?_
  obtain ⟨z7, k8, lz7, uz7⟩ := hH0.ld (c := 11) (i := (a2).toNat) (A := 0) (B := 99) rfl
  refine jx_iald c1 hm rfl sh_11 ⟨by omega, by omega⟩ k8 ?_
  refine jx_iopw c1 hm rfl rfl (fun z9 lz9 uz9 => ?_)
  obtain ⟨M10, e10, hH10, hF10, k10, n10, _⟩ := mup hH0 hF0 (c := 49) (i := (a1).toNat) (v := z9) (A := (-2147483648)) (B := 2147483647) rfl ⟨by omega, by omega⟩ (jin_of 2 rfl ⟨by omega, by omega⟩)
  refine jm_iast c1 hm rfl sh_49 ⟨by omega, by omega⟩ e10 ?_
  refine jx_load c1 hm rfl rfl rfl rfl ?_
  refine jx_getr c1 hm rfl sh_47 rfl ?_
  refine jx_load c1 hm rfl rfl rfl rfl ?_
  refine jx_dup2 c1 hm rfl rfl rfl ?_
  obtain ⟨z11, k12, lz11, uz11⟩ := hH10.ld (c := 51) (i := (a2).toNat) (A := (-2147483648)) (B := 2147483647) rfl
  refine jx_iald c1 hm rfl sh_51 ⟨by omega, by omega⟩ k12 ?_
  refine jy_ic c1 hm rfl (by decide) ?_
  refine jx_iopw c1 hm rfl rfl (fun z13 lz13 uz13 => ?_)
  obtain ⟨M14, e14, hH14, hF14, k14, n14, _⟩ := mup hH10 hF10 (c := 51) (i := (a2).toNat) (v := z13) (A := (-2147483648)) (B := 2147483647) rfl ⟨by omega, by omega⟩ (jin_of 4 rfl ⟨by omega, by omega⟩)
  refine jm_iast c1 hm rfl sh_51 ⟨by omega, by omega⟩ e14 ?_
  refine jx_load c1 hm rfl rfl rfl rfl ?_
  refine jx_getr c1 hm rfl sh_47 rfl ?_
  refine jx_load c1 hm rfl rfl rfl rfl ?_
  refine jy_bp c1 hm rfl (by decide) ?_
  refine jy_mul c1 hm (6 * a1) rfl (by omega) ?_
  refine jx_load c1 hm rfl rfl rfl rfl ?_
  refine jy_add c1 hm (6 * a1 + a2) rfl (by omega) ?_
  refine jx_dup2 c1 hm rfl rfl rfl ?_
  obtain ⟨z15, k16, lz15, uz15⟩ := hH14.ld (c := 54) (i := ((6 * a1 + a2)).toNat) (A := (-2147483648)) (B := 2147483647) rfl
  refine jx_iald c1 hm rfl sh_54 ⟨by omega, by omega⟩ k16 ?_
  refine jy_ic c1 hm rfl (by decide) ?_
  refine jx_iopw c1 hm rfl rfl (fun z17 lz17 uz17 => ?_)
  obtain ⟨M18, e18, hH18, hF18, k18, n18, _⟩ := mup hH14 hF14 (c := 54) (i := ((6 * a1 + a2)).toNat) (v := z17) (A := (-2147483648)) (B := 2147483647) rfl ⟨by omega, by omega⟩ (jin_of 7 rfl ⟨by omega, by omega⟩)
  refine jm_iast c1 hm rfl sh_54 ⟨by omega, by omega⟩ e18 ?_
  refine jx_load c1 hm rfl rfl rfl rfl ?_
  exact jx_reti c2 hm rfl rfl ⟨_, rfl, (hH18.mono (by omega) (by omega)), hF18, by omega, by omega⟩
 by_cases h19 : a0 = 2
 ·
  refine jx_tswI c1 hm 94 rfl ⟨by omega, by omega⟩ (by rw [h19] <;> rfl) rfl ?_
  refine jx_load c1 hm rfl rfl rfl rfl ?_
  refine jx_getr c1 hm rfl sh_47 rfl ?_
  refine jx_load c1 hm rfl rfl rfl rfl ?_
  refine jx_dup2 c1 hm rfl rfl rfl ?_
  obtain ⟨z20, k21, lz20, uz20⟩ := hH0.ld (c := 49) (i := (a1).toNat) (A := (-2147483648)) (B := 2147483647) rfl
  refine jx_iald c1 hm rfl sh_49 ⟨by omega, by omega⟩ k21 ?_
  refine jx_load c1 hm rfl rfl rfl rfl ?_
  refine jx_iopw c1 hm rfl rfl (fun z22 lz22 uz22 => ?_)
  obtain ⟨M23, e23, hH23, hF23, k23, n23, _⟩ := mup hH0 hF0 (c := 49) (i := (a1).toNat) (v := z22) (A := (-2147483648)) (B := 2147483647) rfl ⟨by omega, by omega⟩ (jin_of 2 rfl ⟨by omega, by omega⟩)
  refine jm_iast c1 hm rfl sh_49 ⟨by omega, by omega⟩ e23 ?_
  refine jx_load c1 hm rfl rfl rfl rfl ?_
  refine jx_getr c1 hm rfl sh_47 rfl ?_
  refine jx_load c1 hm rfl rfl rfl rfl ?_
  refine jx_dup2 c1 hm rfl rfl rfl ?_
  obtain ⟨z24, k25, lz24, uz24⟩ := hH23.ld (c := 49) (i := (a2).toNat) (A := (-2147483648)) (B := 2147483647) rfl
  refine jx_iald c1 hm rfl sh_49 ⟨by omega, by omega⟩ k25 ?_
  refine jx_load c1 hm rfl rfl rfl rfl ?_
  refine jx_iopw c1 hm rfl rfl (fun z26 lz26 uz26 => ?_)
  obtain ⟨M27, e27, hH27, hF27, k27, n27, _⟩ := mup hH23 hF23 (c := 49) (i := (a2).toNat) (v := z26) (A := (-2147483648)) (B := 2147483647) rfl ⟨by omega, by omega⟩ (jin_of 2 rfl ⟨by omega, by omega⟩)
  refine jm_iast c1 hm rfl sh_49 ⟨by omega, by omega⟩ e27 ?_
  refine jx_load c1 hm rfl rfl rfl rfl ?_
  refine jx_getr c1 hm rfl sh_47 rfl ?_
  refine jx_load c1 hm rfl rfl rfl rfl ?_
  refine jy_bp c1 hm rfl (by decide) ?_
  refine jy_mul c1 hm (6 * a2) rfl (by omega) ?_
  refine jx_load c1 hm rfl rfl rfl rfl ?_
  refine jy_add c1 hm (a1 + 6 * a2) rfl (by omega) ?_
  refine jx_dup2 c1 hm rfl rfl rfl ?_
  obtain ⟨z28, k29, lz28, uz28⟩ := hH27.ld (c := 52) (i := ((a1 + 6 * a2)).toNat) (A := (-2147483648)) (B := 2147483647) rfl
  refine jx_iald c1 hm rfl sh_52 ⟨by omega, by omega⟩ k29 ?_
  refine jx_load c1 hm rfl rfl rfl rfl ?_
  refine jx_iopw c1 hm rfl rfl (fun z30 lz30 uz30 => ?_)
  obtain ⟨M31, e31, hH31, hF31, k31, n31, _⟩ := mup hH27 hF27 (c := 52) (i := ((a1 + 6 * a2)).toNat) (v := z30) (A := (-2147483648)) (B := 2147483647) rfl ⟨by omega, by omega⟩ (jin_of 5 rfl ⟨by omega, by omega⟩)
  refine jm_iast c1 hm rfl sh_52 ⟨by omega, by omega⟩ e31 ?_
  refine jx_load c1 hm rfl rfl rfl rfl ?_
  exact jx_reti c2 hm rfl rfl ⟨_, rfl, (hH31.mono (by omega) (by omega)), hF31, by omega, by omega⟩
 by_cases h32 : a0 = 3
 ·
  refine jx_tswI c1 hm 137 rfl ⟨by omega, by omega⟩ (by rw [h32] <;> rfl) rfl ?_
  refine jx_load c1 hm rfl rfl rfl rfl ?_
  refine jx_getr c1 hm rfl sh_47 rfl ?_
  refine jx_load c1 hm rfl rfl rfl rfl ?_
  refine jx_dup2 c1 hm rfl rfl rfl ?_
  obtain ⟨z33, k34, lz33, uz33⟩ := hH0.ld (c := 49) (i := (a1).toNat) (A := (-2147483648)) (B := 2147483647) rfl
  refine jx_iald c1 hm rfl sh_49 ⟨by omega, by omega⟩ k34 ?_
  refine jx_load c1 hm rfl rfl rfl rfl ?_
  refine jx_iopw c1 hm rfl rfl (fun z35 lz35 uz35 => ?_)
  obtain ⟨M36, e36, hH36, hF36, k36, n36, _⟩ := mup hH0 hF0 (c := 49) (i := (a1).toNat) (v := z35) (A := (-2147483648)) (B := 2147483647) rfl ⟨by omega, by omega⟩ (jin_of 2 rfl ⟨by omega, by omega⟩)
  refine jm_iast c1 hm rfl sh_49 ⟨by omega, by omega⟩ e36 ?_
  refine jx_load c1 hm rfl rfl rfl rfl ?_
  refine jx_getr c1 hm rfl sh_47 rfl ?_
  refine jx_load c1 hm rfl rfl rfl rfl ?_
  refine jx_dup2 c1 hm rfl rfl rfl ?_
  obtain ⟨z37, k38, lz37, uz37⟩ := hH36.ld (c := 49) (i := (a2).toNat) (A := (-2147483648)) (B := 2147483647) rfl
  refine jx_iald c1 hm rfl sh_49 ⟨by omega, by omega⟩ k38 ?_
  refine jx_load c1 hm rfl rfl rfl rfl ?_
  refine jx_iopw c1 hm rfl rfl (fun z39 lz39 uz39 => ?_)
  obtain ⟨M40, e40, hH40, hF40, k40, n40, _⟩ := mup hH36 hF36 (c := 49) (i := (a2).toNat) (v := z39) (A := (-2147483648)) (B := 2147483647) rfl ⟨by omega, by omega⟩ (jin_of 2 rfl ⟨by omega, by omega⟩)
  refine jm_iast c1 hm rfl sh_49 ⟨by omega, by omega⟩ e40 ?_
  refine jx_load c1 hm rfl rfl rfl rfl ?_
  refine jx_getr c1 hm rfl sh_47 rfl ?_
  refine jx_load c1 hm rfl rfl rfl rfl ?_
  refine jy_bp c1 hm rfl (by decide) ?_
  refine jy_mul c1 hm (6 * a1) rfl (by omega) ?_
  refine jx_load c1 hm rfl rfl rfl rfl ?_
  refine jy_add c1 hm (6 * a1 + a2) rfl (by omega) ?_
  refine jx_dup2 c1 hm rfl rfl rfl ?_
  obtain ⟨z41, k42, lz41, uz41⟩ := hH40.ld (c := 52) (i := ((6 * a1 + a2)).toNat) (A := (-2147483648)) (B := 2147483647) rfl
  refine jx_iald c1 hm rfl sh_52 ⟨by omega, by omega⟩ k42 ?_
  refine jx_load c1 hm rfl rfl rfl rfl ?_
  refine jx_iopw c1 hm rfl rfl (fun z43 lz43 uz43 => ?_)
  obtain ⟨M44, e44, hH44, hF44, k44, n44, _⟩ := mup hH40 hF40 (c := 52) (i := ((6 * a1 + a2)).toNat) (v := z43) (A := (-2147483648)) (B := 2147483647) rfl ⟨by omega, by omega⟩ (jin_of 5 rfl ⟨by omega, by omega⟩)
  refine jm_iast c1 hm rfl sh_52 ⟨by omega, by omega⟩ e44 ?_
  refine jx_load c1 hm rfl rfl rfl rfl ?_
  exact jx_reti c2 hm rfl rfl ⟨_, rfl, (hH44.mono (by omega) (by omega)), hF44, by omega, by omega⟩
 by_cases h45 : a0 = 4
 ·
  refine jx_tswI c1 hm 180 rfl ⟨by omega, by omega⟩ (by rw [h45] <;> rfl) rfl ?_
  refine jx_load c1 hm rfl rfl rfl rfl ?_
  refine jx_getr c1 hm rfl sh_4 rfl ?_
  refine jx_load c1 hm rfl rfl rfl rfl ?_
  refine jv_i c3 hm rfl pj_X6_strikeFrom rfl rfl ⟨_, _, _, rfl, sh_23⟩ rfl ((ct_X6_strikeFrom_23_47 X (by omega) M0 hH0 ).le (by decide)) (fun z46 M47 ⟨hH47, hR47, lz46, uz46⟩ => ?_)
  have hF47 := hF0.tr hR47 (by decide +kernel)
  exact jx_reti c2 hm rfl rfl ⟨_, rfl, (hH47.mono (by omega) (by omega)), hF47, by omega, by omega⟩
 refine jx_tswO c1 hm 189 rfl (by omega) rfl ?_
 refine jx_load c1 hm rfl rfl rfl rfl ?_
 refine jx_load c1 hm rfl rfl rfl rfl ?_
 refine jx_load c1 hm rfl rfl rfl rfl ?_
 refine jv_v c3 hm rfl pj_X0_passWeeks rfl rfl ⟨_, _, _, rfl, sh_4⟩ rfl ((ct_X0_passWeeks_4_47 X (by omega) M0 hH0 a3 ⟨by omega, by omega⟩).le (by decide)) (fun M48 ⟨hH48, hR48⟩ => ?_)
 have hF48 := hF0.tr hR48 (by decide +kernel)
 refine jx_load c1 hm rfl rfl rfl rfl ?_
 exact jx_reti c2 hm rfl rfl ⟨_, rfl, (hH48.mono (by omega) (by omega)), hF48, by omega, by omega⟩
def md_X0_drawOne_4_47 : List (Nat × (Nat × Nat)) := [(4, (4, 4)), (23, (1, 1)), (24, (0, 5)), (47, (7, 7)), (48, (0, 5)), (49, (0, 5)), (50, (0, 5)), (51, (0, 5)), (52, (0, 35)), (53, (0, 35)), (54, (0, 35))]
theorem ct_X0_drawOne_4_47 (X : Int) (hX : 0 ≤ X ∧ X ≤ 99999999) (M0 : JM) (hH0 : HI X M0) (a0 : Int) (ha0 : 0 ≤ a0 ∧ a0 ≤ 3) (a1 : Int) (ha1 : 0 ≤ a1 ∧ a1 ≤ 5) (a2 : Int) (ha2 : 0 ≤ a2 ∧ a2 ≤ 6) : JOk shp PJ 11 6 [.inr (.inr (.inl 4)), .inr (.inr (.inl 47)), .inl a0, .inl a1, .inl a2] M0 (jRv (fun M' => HI (X + 1) M' ∧ Fr md_X0_drawOne_4_47 M0 M' )) := by
 refine ⟨jr_X0_drawOne, pj_X0_drawOne, fun F c1 c2 c3 => ?_⟩
 have hm := pj_X0_drawOne
 change F 0 [some (.inr (.inr (.inl 4))), some (.inr (.inr (.inl 47))), some (.inl a0), some (.inl a1), some (.inl a2), none] [] M0
 have hF0 : Fr md_X0_drawOne_4_47 M0 M0 := Fr.rf _ _
 refine jx_load c1 hm rfl rfl rfl rfl ?_
 refine jz_gt c1 hm 6 rfl rfl (fun h1 => ?_) (fun h1 => ?_)
 ·
  refine jx_load c1 hm rfl rfl rfl rfl ?_
  refine jx_load c1 hm rfl rfl rfl rfl ?_
  refine jv_i c3 hm rfl pj_X0_draw rfl rfl ⟨_, _, _, rfl, sh_4⟩ rfl ((ct_X0_draw_4 X (by omega) M0 hH0 a2 ⟨by omega, by omega⟩).le (by decide)) (fun z2 M4 ⟨hH4, hR4, lz2, uz2, p3⟩ => ?_)
  have hF4 := hF0.tr hR4 (by decide +kernel)
  refine jx_stor c1 hm (L' := [some (.inr (.inr (.inl 4))), some (.inr (.inr (.inl 47))), some (.inl a0), some (.inl a1), some (.inl a2), some (.inl z2)]) rfl rfl rfl rfl rfl ?_
  refine jx_load c1 hm rfl rfl rfl rfl ?_
  refine jx_load c1 hm rfl rfl rfl rfl ?_
  refine jx_load c1 hm rfl rfl rfl rfl ?_
  refine jx_load c1 hm rfl rfl rfl rfl ?_
  refine jx_load c1 hm rfl rfl rfl rfl ?_
  refine jy_ic c1 hm rfl (by decide) ?_
  refine jv_i c3 hm rfl pj_X0_whyNot rfl rfl ⟨_, _, _, rfl, sh_4⟩ rfl ((ct_X0_whyNot_4_47 X (by omega) M4 hH4 a0 ⟨by omega, by omega⟩ a1 ⟨by omega, by omega⟩ z2 ⟨by omega, by omega⟩ 1 ⟨by omega, by omega⟩).le (by decide)) (fun z5 M6 ⟨hH6, hR6, lz5, uz5⟩ => ?_)
  have hF6 := hF4.tr hR6 (by decide +kernel)
  refine jz_ne c1 hm 38 rfl rfl (fun h7 => ?_) (fun h7 => ?_)
  ·
   exact jx_retv c2 hm rfl rfl ⟨rfl, (hH6.mono (by omega) (by omega)), hF6⟩
  refine jx_load c1 hm rfl rfl rfl rfl ?_
  refine jx_load c1 hm rfl rfl rfl rfl ?_
  refine jx_load c1 hm rfl rfl rfl rfl ?_
  refine jx_load c1 hm rfl rfl rfl rfl ?_
  refine jx_load c1 hm rfl rfl rfl rfl ?_
  refine jy_ic c1 hm rfl (by decide) ?_
  refine jv_i c3 hm rfl pj_X0_perform rfl rfl ⟨_, _, _, rfl, sh_4⟩ rfl ((ct_X0_perform_4_47 X (by omega) M6 hH6 a0 ⟨by omega, by omega⟩ a1 ⟨by omega, by omega⟩ z2 ⟨by omega, by omega⟩ 1 ⟨by omega, by omega⟩).le (by decide)) (fun z8 M9 ⟨hH9, hR9, lz8, uz8⟩ => ?_)
  have hF9 := hF6.tr hR9 (by decide +kernel)
  refine jx_pop c1 hm rfl rfl ?_
  exact jx_retv c2 hm rfl rfl ⟨rfl, hH9, hF9⟩
 exact jx_retv c2 hm rfl rfl ⟨rfl, (hH0.mono (by omega) (by omega)), hF0⟩
def md_X0_drawAct_4_47 : List (Nat × (Nat × Nat)) := [(4, (4, 4)), (23, (1, 1)), (24, (0, 5)), (47, (7, 7)), (48, (0, 5)), (49, (0, 5)), (50, (0, 5)), (51, (0, 5)), (52, (0, 35)), (53, (0, 35)), (54, (0, 35))]
theorem ct_X0_drawAct_4_47 (X : Int) (hX : 0 ≤ X ∧ X ≤ 99999999) (M0 : JM) (hH0 : HI X M0) (a0 : Int) (ha0 : 0 ≤ a0 ∧ a0 ≤ 5) : JOk shp PJ 12 5 [.inr (.inr (.inl 4)), .inr (.inr (.inl 47)), .inl a0] M0 (jRv (fun M' => HI (X + 1) M' ∧ Fr md_X0_drawAct_4_47 M0 M' )) := by
 refine ⟨jr_X0_drawAct, pj_X0_drawAct, fun F c1 c2 c3 => ?_⟩
 have hm := pj_X0_drawAct
 change F 0 [some (.inr (.inr (.inl 4))), some (.inr (.inr (.inl 47))), some (.inl a0)] [] M0
 have hF0 : Fr md_X0_drawAct_4_47 M0 M0 := Fr.rf _ _
 refine jx_load c1 hm rfl rfl rfl rfl ?_
 refine jy_ic c1 hm rfl (by decide) ?_
 refine jv_i c3 hm rfl pj_X0_draw rfl rfl ⟨_, _, _, rfl, sh_4⟩ rfl ((ct_X0_draw_4 X (by omega) M0 hH0 4 ⟨by omega, by omega⟩).le (by decide)) (fun z1 M3 ⟨hH3, hR3, lz1, uz1, p2⟩ => ?_)
 have hF3 := hF0.tr hR3 (by decide +kernel)
 by_cases h4 : z1 = 1
 ·
  refine jx_tswI c1 hm 32 rfl ⟨by omega, by omega⟩ (by rw [h4] <;> rfl) rfl ?_
  refine jx_load c1 hm rfl rfl rfl rfl ?_
  refine jx_load c1 hm rfl rfl rfl rfl ?_
  refine jy_ic c1 hm rfl (by decide) ?_
  refine jx_load c1 hm rfl rfl rfl rfl ?_
  refine jx_load c1 hm rfl rfl rfl rfl ?_
  refine jx_getr c1 hm rfl sh_4 rfl ?_
  refine jv_i c3 hm rfl pj_X2_forfeits rfl rfl ⟨_, _, _, rfl, sh_5⟩ rfl ((ct_X2_forfeits_5 X (by omega) M3 hH3 ).le (by decide)) (fun z5 _ ⟨rfl, lz5, uz5⟩ => ?_)
  refine jv_v c3 hm rfl pj_X0_drawOne rfl rfl ⟨_, _, _, rfl, sh_4⟩ rfl ((ct_X0_drawOne_4_47 X (by omega) M3 hH3 0 ⟨by omega, by omega⟩ a0 ⟨by omega, by omega⟩ z5 ⟨by omega, by omega⟩).le (by decide)) (fun M6 ⟨hH6, hR6⟩ => ?_)
  have hF6 := hF3.tr hR6 (by decide +kernel)
  refine jx_goto c1 hm 83 rfl rfl ?_
  exact jx_retv c2 hm rfl rfl ⟨rfl, hH6, hF6⟩
 by_cases h7 : z1 = 2
 ·
  refine jx_tswI c1 hm 49 rfl ⟨by omega, by omega⟩ (by rw [h7] <;> rfl) rfl ?_
  refine jx_load c1 hm rfl rfl rfl rfl ?_
  refine jx_load c1 hm rfl rfl rfl rfl ?_
  refine jy_ic c1 hm rfl (by decide) ?_
  refine jx_load c1 hm rfl rfl rfl rfl ?_
  refine jx_load c1 hm rfl rfl rfl rfl ?_
  refine jx_getr c1 hm rfl sh_4 rfl ?_
  refine jv_i c3 hm rfl pj_X2_goods rfl rfl ⟨_, _, _, rfl, sh_5⟩ rfl ((ct_X2_goods_5 X (by omega) M3 hH3 ).le (by decide)) (fun z8 _ ⟨rfl, lz8, uz8⟩ => ?_)
  refine jv_v c3 hm rfl pj_X0_drawOne rfl rfl ⟨_, _, _, rfl, sh_4⟩ rfl ((ct_X0_drawOne_4_47 X (by omega) M3 hH3 1 ⟨by omega, by omega⟩ a0 ⟨by omega, by omega⟩ z8 ⟨by omega, by omega⟩).le (by decide)) (fun M9 ⟨hH9, hR9⟩ => ?_)
  have hF9 := hF3.tr hR9 (by decide +kernel)
  refine jx_goto c1 hm 83 rfl rfl ?_
  exact jx_retv c2 hm rfl rfl ⟨rfl, hH9, hF9⟩
 by_cases h10 : z1 = 3
 ·
  refine jx_tswI c1 hm 66 rfl ⟨by omega, by omega⟩ (by rw [h10] <;> rfl) rfl ?_
  refine jx_load c1 hm rfl rfl rfl rfl ?_
  refine jx_load c1 hm rfl rfl rfl rfl ?_
  refine jy_ic c1 hm rfl (by decide) ?_
  refine jx_load c1 hm rfl rfl rfl rfl ?_
  refine jx_load c1 hm rfl rfl rfl rfl ?_
  refine jx_getr c1 hm rfl sh_4 rfl ?_
  refine jv_i c3 hm rfl pj_X2_men rfl rfl ⟨_, _, _, rfl, sh_5⟩ rfl ((ct_X2_men_5 X (by omega) M3 hH3 ).le (by decide)) (fun z11 _ ⟨rfl, lz11, uz11⟩ => ?_)
  refine jv_v c3 hm rfl pj_X0_drawOne rfl rfl ⟨_, _, _, rfl, sh_4⟩ rfl ((ct_X0_drawOne_4_47 X (by omega) M3 hH3 3 ⟨by omega, by omega⟩ a0 ⟨by omega, by omega⟩ z11 ⟨by omega, by omega⟩).le (by decide)) (fun M12 ⟨hH12, hR12⟩ => ?_)
  have hF12 := hF3.tr hR12 (by decide +kernel)
  refine jx_goto c1 hm 83 rfl rfl ?_
  exact jx_retv c2 hm rfl rfl ⟨rfl, hH12, hF12⟩
 refine jx_tswO c1 hm 83 rfl (by omega) rfl ?_
 exact jx_retv c2 hm rfl rfl ⟨rfl, (hH3.mono (by omega) (by omega)), hF3⟩
def md_X0_drawWeeks_4_47 : List (Nat × (Nat × Nat)) := [(4, (4, 4)), (23, (1, 1)), (24, (0, 5)), (47, (7, 7)), (48, (0, 5)), (49, (0, 5)), (50, (0, 5)), (51, (0, 5)), (52, (0, 35)), (53, (0, 35)), (54, (0, 35))]
theorem ct_X0_drawWeeks_4_47 (X : Int) (hX : 0 ≤ X ∧ X ≤ 99999640) (M0 : JM) (hH0 : HI X M0) (a0 : Int) (ha0 : (-2147483648) ≤ a0 ∧ a0 ≤ 60) (a1 : Int) (ha1 : (-2147483648) ≤ a1 ∧ a1 ≤ 2147483647) : JOk shp PJ 13 7 [.inr (.inr (.inl 4)), .inr (.inr (.inl 47)), .inl a0, .inl a1] M0 (jRv (fun M' => HI (X + 360) M' ∧ Fr md_X0_drawWeeks_4_47 M0 M' )) := by
 refine ⟨jr_X0_drawWeeks, pj_X0_drawWeeks, fun F c1 c2 c3 => ?_⟩
 have hm := pj_X0_drawWeeks
 change F 0 [some (.inr (.inr (.inl 4))), some (.inr (.inr (.inl 47))), some (.inl a0), some (.inl a1), none, none] [] M0
 have hF0 : Fr md_X0_drawWeeks_4_47 M0 M0 := Fr.rf _ _
 refine jx_load c1 hm rfl rfl rfl rfl ?_
 refine jx_load c1 hm rfl rfl rfl rfl ?_
 obtain ⟨M1, e1, hH1, hF1, k1, n1, _⟩ := mup hH0 hF0 (c := 4) (i := 4) (v := a1) (A := (-2147483648)) (B := 2147483647) rfl ⟨by omega, by omega⟩ (jin_of 0 rfl ⟨by omega, by omega⟩)
 refine jm_puti c1 hm rfl sh_4 rfl e1 ?_
 refine jy_ic c1 hm rfl (by decide) ?_
 refine jx_stor c1 hm (L' := [some (.inr (.inr (.inl 4))), some (.inr (.inr (.inl 47))), some (.inl a0), some (.inl a1), some (.inl 0), none]) rfl rfl rfl rfl rfl ?_
 have W5 : ∀ (n6 : Nat) (b2 : Int) (hb2 : 0 ≤ b2 ∧ b2 ≤ 60) (o3 : Option JV) (ho3 : o3 = none ∨ (∃ z, o3 = some (.inl z)) ∨ ∃ r, o3 = some (.inr (.inr r))) (M4 : JM) (hH4 : HI (X + 6 * b2) M4) (hF4 : Fr md_X0_drawWeeks_4_47 M0 M4), (-b2 + 60) < (n6 : Int) → F 8 [some (.inr (.inr (.inl 4))), some (.inr (.inr (.inl 47))), some (.inl a0), some (.inl a1), some (.inl b2), o3] [] M4 := by
  intro n6
  induction n6 with
  | zero => intros; omega
  | succ n6 ihW5 =>
   intro b2 hb2 o3 ho3 M4 hH4 hF4 hrW5
   refine jx_load c1 hm rfl rfl rfl rfl ?_
   refine jx_load c1 hm rfl rfl rfl rfl ?_
   refine jc_ge c1 hm 54 rfl rfl (fun h7 => ?_) (fun h7 => ?_)
   ·
    exact jx_retv c2 hm rfl rfl ⟨rfl, (hH4.mono (by omega) (by omega)), hF4⟩
   refine jy_ic c1 hm rfl (by decide) ?_
   refine jx_stor c1 hm (L' := [some (.inr (.inr (.inl 4))), some (.inr (.inr (.inl 47))), some (.inl a0), some (.inl a1), some (.inl b2), some (.inl 0)]) rfl rfl rfl rfl rfl ?_
   have W10 : ∀ (n11 : Nat) (b8 : Int) (hb8 : 0 ≤ b8 ∧ b8 ≤ 6) (M9 : JM) (hH9 : HI (X + 6 * b2 + b8) M9) (hF9 : Fr md_X0_drawWeeks_4_47 M0 M9), (-b8 + 6) < (n11 : Int) → F 17 [some (.inr (.inr (.inl 4))), some (.inr (.inr (.inl 47))), some (.inl a0), some (.inl a1), some (.inl b2), some (.inl b8)] [] M9 := by
    intro n11
    induction n11 with
    | zero => intros; omega
    | succ n11 ihW10 =>
     intro b8 hb8 M9 hH9 hF9 hrW10
     refine jx_load c1 hm rfl rfl rfl rfl ?_
     refine jx_load c1 hm rfl rfl rfl rfl ?_
     refine jx_getr c1 hm rfl sh_4 rfl ?_
     refine jv_i c3 hm rfl pj_X2_men rfl rfl ⟨_, _, _, rfl, sh_5⟩ rfl ((ct_X2_men_5 (X + 6 * b2 + b8) (by omega) M9 hH9 ).le (by decide)) (fun z12 _ ⟨rfl, lz12, uz12⟩ => ?_)
     refine jc_ge c1 hm 42 rfl rfl (fun h13 => ?_) (fun h13 => ?_)
     ·
      refine jx_load c1 hm rfl rfl rfl rfl ?_
      refine jx_load c1 hm rfl rfl rfl rfl ?_
      refine jy_ic c1 hm rfl (by decide) ?_
      refine jv_v c3 hm rfl pj_X0_passWeeks rfl rfl ⟨_, _, _, rfl, sh_4⟩ rfl ((ct_X0_passWeeks_4_47 (X + 6 * b2 + b8) (by omega) M9 hH9 1 ⟨by omega, by omega⟩).le (by decide)) (fun M15 ⟨hH15, hR15⟩ => ?_)
      have hF15 := hF9.tr hR15 (by decide +kernel)
      refine jx_iinc c1 hm (v := (b2 + 1)) (L' := [some (.inr (.inr (.inl 4))), some (.inr (.inr (.inl 47))), some (.inl a0), some (.inl a1), some (.inl (b2 + 1)), some (.inl b8)]) rfl rfl (by omega) (by omega) rfl ?_
      refine jx_goto c1 hm 8 rfl rfl ?_
      exact ihW5 (b2 + 1) (by omega) (some (.inl b8)) (Or.inr (Or.inl ⟨_, rfl⟩)) M15 (hH15.mono (by omega) (by omega)) hF15 (by omega)
     refine jx_load c1 hm rfl rfl rfl rfl ?_
     refine jx_load c1 hm rfl rfl rfl rfl ?_
     refine jx_load c1 hm rfl rfl rfl rfl ?_
     refine jv_v c3 hm rfl pj_X0_drawAct rfl rfl ⟨_, _, _, rfl, sh_4⟩ rfl ((ct_X0_drawAct_4_47 (X + 6 * b2 + b8) (by omega) M9 hH9 b8 ⟨by omega, by omega⟩).le (by decide)) (fun M14 ⟨hH14, hR14⟩ => ?_)
     have hF14 := hF9.tr hR14 (by decide +kernel)
     refine jx_iinc c1 hm (v := (b8 + 1)) (L' := [some (.inr (.inr (.inl 4))), some (.inr (.inr (.inl 47))), some (.inl a0), some (.inl a1), some (.inl b2), some (.inl (b8 + 1))]) rfl rfl (by omega) (by omega) rfl ?_
     refine jx_goto c1 hm 17 rfl rfl ?_
     exact ihW10 (b8 + 1) (by omega) M14 (hH14.mono (by omega) (by omega)) hF14 (by omega)
   exact W10 (6 + 1 : Int).toNat 0 (by omega) M4 (hH4.mono (by omega) (by omega)) hF4 (by omega)
 exact W5 (60 + 1 : Int).toNat 0 (by omega) none (Or.inl rfl) M1 (hH1.mono (by omega) (by omega)) hF1 (by omega)
theorem ct_X11_sum_54 (X : Int) (hX : 0 ≤ X ∧ X ≤ 100000000) (M0 : JM) (hH0 : HI X M0) (a0 : Int) (ha0 : 0 ≤ a0 ∧ a0 ≤ 36) (a1 : Int) (ha1 : 1 ≤ a1 ∧ a1 ≤ 6) (a2 : Int) (ha2 : 6 ≤ a2 ∧ a2 ≤ 36) : JOk shp PJ 1 68 [.inr (.inr (.inl 54)), .inl a0, .inl a1, .inl a2] M0 (jRi (fun v M' => M0 = M' ∧ (-2147483648) ≤ v ∧ v ≤ 2147483647 )) := by
 refine ⟨jr_X11_sum, pj_X11_sum, fun F c1 c2 c3 => ?_⟩
 have hm := pj_X11_sum
 change F 0 [some (.inr (.inr (.inl 54))), some (.inl a0), some (.inl a1), some (.inl a2), none, none, none] [] M0
 refine jy_ic c1 hm rfl (by decide) ?_
 refine jx_stor c1 hm (L' := [some (.inr (.inr (.inl 54))), some (.inl a0), some (.inl a1), some (.inl a2), some (.inl 0), none, none]) rfl rfl rfl rfl rfl ?_
 refine jy_ic c1 hm rfl (by decide) ?_
 refine jx_stor c1 hm (L' := [some (.inr (.inr (.inl 54))), some (.inl a0), some (.inl a1), some (.inl a2), some (.inl 0), some (.inl 0), none]) rfl rfl rfl rfl rfl ?_
 refine jx_load c1 hm rfl rfl rfl rfl ?_
 refine jx_stor c1 hm (L' := [some (.inr (.inr (.inl 54))), some (.inl a0), some (.inl a1), some (.inl a2), some (.inl 0), some (.inl 0), some (.inl a0)]) rfl rfl rfl rfl rfl ?_
 have W4 : ∀ (n5 : Nat) (b1 : Int) (hb1 : (-2147483648) ≤ b1 ∧ b1 ≤ 2147483647) (b2 : Int) (hb2 : 0 ≤ b2 ∧ b2 ≤ 36) (b3 : Int) (hb3 : 0 ≤ b3 ∧ b3 ≤ 41), (-b2 + 36) < (n5 : Int) → F 9 [some (.inr (.inr (.inl 54))), some (.inl a0), some (.inl a1), some (.inl a2), some (.inl b1), some (.inl b2), some (.inl b3)] [] M0 := by
  intro n5
  induction n5 with
  | zero => intros; omega
  | succ n5 ihW4 =>
   intro b1 hb1 b2 hb2 b3 hb3 hrW4
   refine jx_load c1 hm rfl rfl rfl rfl ?_
   refine jx_load c1 hm rfl rfl rfl rfl ?_
   refine jc_ge c1 hm 48 rfl rfl (fun h6 => ?_) (fun h6 => ?_)
   ·
    refine jx_load c1 hm rfl rfl rfl rfl ?_
    exact jx_reti c2 hm rfl rfl ⟨_, rfl, rfl, by omega, by omega⟩
   refine jx_load c1 hm rfl rfl rfl rfl ?_
   refine jz_lt c1 hm 48 rfl rfl (fun h7 => ?_) (fun h7 => ?_)
   ·
    exfalso; omega
   refine jx_load c1 hm rfl rfl rfl rfl ?_
   refine jx_load c1 hm rfl rfl rfl rfl ?_
   refine jx_alen c1 hm (v := 36) rfl sh_54 rfl rfl ?_
   refine jc_ge c1 hm 48 rfl rfl (fun h8 => ?_) (fun h8 => ?_)
   ·
    refine jx_load c1 hm rfl rfl rfl rfl ?_
    exact jx_reti c2 hm rfl rfl ⟨_, rfl, rfl, by omega, by omega⟩
   refine jx_load c1 hm rfl rfl rfl rfl ?_
   refine jx_load c1 hm rfl rfl rfl rfl ?_
   refine jx_load c1 hm rfl rfl rfl rfl ?_
   obtain ⟨z9, k10, lz9, uz9⟩ := hH0.ld (c := 54) (i := (b3).toNat) (A := (-2147483648)) (B := 2147483647) rfl
   refine jx_iald c1 hm rfl sh_54 ⟨by omega, by omega⟩ k10 ?_
   refine jx_iopw c1 hm rfl rfl (fun z11 lz11 uz11 => ?_)
   refine jx_stor c1 hm (L' := [some (.inr (.inr (.inl 54))), some (.inl a0), some (.inl a1), some (.inl a2), some (.inl z11), some (.inl b2), some (.inl b3)]) rfl rfl rfl rfl rfl ?_
   refine jx_iinc c1 hm (v := (b2 + 1)) (L' := [some (.inr (.inr (.inl 54))), some (.inl a0), some (.inl a1), some (.inl a2), some (.inl z11), some (.inl (b2 + 1)), some (.inl b3)]) rfl rfl (by omega) (by omega) rfl ?_
   refine jx_load c1 hm rfl rfl rfl rfl ?_
   refine jx_load c1 hm rfl rfl rfl rfl ?_
   refine jy_add c1 hm (a1 + b3) rfl (by omega) ?_
   refine jx_stor c1 hm (L' := [some (.inr (.inr (.inl 54))), some (.inl a0), some (.inl a1), some (.inl a2), some (.inl z11), some (.inl (b2 + 1)), some (.inl (a1 + b3))]) rfl rfl rfl rfl rfl ?_
   refine jx_goto c1 hm 9 rfl rfl ?_
   exact ihW4 z11 (by omega) (b2 + 1) (by omega) (a1 + b3) (by omega) (by omega)
 exact W4 (36 + 1 : Int).toNat 0 (by omega) 0 (by omega) a0 (by omega) (by omega)
def md_X11_odds_0 : List (Nat × (Nat × Nat)) := [(4, (4, 4)), (23, (1, 1)), (24, (0, 5)), (47, (7, 7)), (48, (0, 5)), (49, (0, 5)), (50, (0, 5)), (51, (0, 5)), (52, (0, 35)), (53, (0, 35)), (54, (0, 35))]
theorem ct_X11_odds_0 (X : Int) (hX : 0 ≤ X ∧ X ≤ 99989200) (M0 : JM) (hH0 : HI X M0) (a0 : Int) (ha0 : (-2147483648) ≤ a0 ∧ a0 ≤ 2147483647) (a1 : Int) (ha1 : (-2147483648) ≤ a1 ∧ a1 ≤ 2147483647) (a2 : Int) (ha2 : (-2147483648) ≤ a2 ∧ a2 ≤ 2147483647) : JOk shp PJ 14 53 [.inr (.inr (.inl 0)), .inl a0, .inl a1, .inl a2] M0 (jRi (fun v M' => HI (X + 10800) M' ∧ Fr md_X11_odds_0 M0 M' ∧ (-1) ≤ v ∧ v ≤ 30 )) := by
 refine ⟨jr_X11_odds, pj_X11_odds, fun F c1 c2 c3 => ?_⟩
 have hm := pj_X11_odds
 change F 0 [some (.inr (.inr (.inl 0))), some (.inl a0), some (.inl a1), some (.inl a2), none, none, none] [] M0
 have hF0 : Fr md_X11_odds_0 M0 M0 := Fr.rf _ _
 refine jx_load c1 hm rfl rfl rfl rfl ?_
 refine jx_getr c1 hm rfl sh_0 rfl ?_
 refine jy_ic c1 hm rfl (by decide) ?_
 refine jx_load c1 hm rfl rfl rfl rfl ?_
 refine jv_i c3 hm rfl pj_X2_has rfl rfl ⟨_, _, _, rfl, sh_5⟩ rfl ((ct_X2_has_5 X (by omega) M0 hH0 0 ⟨by omega, by omega⟩ a0 ⟨by omega, by omega⟩).le (by decide)) (fun z1 _ ⟨rfl, lz1, uz1, p2⟩ => ?_)
 refine jz_eq c1 hm 23 rfl rfl (fun h3 => ?_) (fun h3 => ?_)
 ·
  refine jy_ic c1 hm rfl (by decide) ?_
  exact jx_reti c2 hm rfl rfl ⟨_, rfl, (hH0.mono (by omega) (by omega)), hF0, by omega, by omega⟩
 refine jx_load c1 hm rfl rfl rfl rfl ?_
 refine jy_ic c1 hm rfl (by decide) ?_
 refine jc_lt c1 hm 23 rfl rfl (fun h4 => ?_) (fun h4 => ?_)
 ·
  refine jy_ic c1 hm rfl (by decide) ?_
  exact jx_reti c2 hm rfl rfl ⟨_, rfl, (hH0.mono (by omega) (by omega)), hF0, by omega, by omega⟩
 refine jx_load c1 hm rfl rfl rfl rfl ?_
 refine jy_bp c1 hm rfl (by decide) ?_
 refine jc_le c1 hm 25 rfl rfl (fun h5 => ?_) (fun h5 => ?_)
 ·
  refine jx_load c1 hm rfl rfl rfl rfl ?_
  refine jx_getr c1 hm rfl sh_0 rfl ?_
  refine jx_getr c1 hm rfl sh_5 rfl ?_
  refine jy_bp c1 hm rfl (by decide) ?_
  refine jt_i c3 hm rfl rfl pj_X11_weeksToGo rfl rfl rfl ((ct_X11_weeksToGo_12 X (by omega) M0 hH0 20 ⟨by omega, by omega⟩).le (by decide)) (fun z6 _ ⟨rfl, lz6, uz6, p7⟩ => ?_)
  refine jx_stor c1 hm (L' := [some (.inr (.inr (.inl 0))), some (.inl a0), some (.inl a1), some (.inl a2), some (.inl z6), none, none]) rfl rfl rfl rfl rfl ?_
  refine jy_ic c1 hm rfl (by decide) ?_
  refine jx_stor c1 hm (L' := [some (.inr (.inr (.inl 0))), some (.inl a0), some (.inl a1), some (.inl a2), some (.inl z6), some (.inl 0), none]) rfl rfl rfl rfl rfl ?_
  refine jy_ic c1 hm rfl (by decide) ?_
  refine jx_stor c1 hm (L' := [some (.inr (.inr (.inl 0))), some (.inl a0), some (.inl a1), some (.inl a2), some (.inl z6), some (.inl 0), some (.inl 0)]) rfl rfl rfl rfl rfl ?_
  have W12 : ∀ (n13 : Nat) (b8 : Int) (hb8 : 0 ≤ b8 ∧ b8 ≤ 36) (b9 : Int) (hb9 : 0 ≤ b9 ∧ b9 ≤ 30) (M10 : JM) (hH10 : HI (X + 360 * b9) M10) (hF10 : Fr md_X11_odds_0 M0 M10) (h11 : b8 ≤ b9), (-b9 + 30) < (n13 : Int) → F 45 [some (.inr (.inr (.inl 0))), some (.inl a0), some (.inl a1), some (.inl a2), some (.inl z6), some (.inl b8), some (.inl b9)] [] M10 := by
   intro n13
   induction n13 with
   | zero => intros; omega
   | succ n13 ihW12 =>
    intro b8 hb8 b9 hb9 M10 hH10 hF10 h11 hrW12
    refine jx_load c1 hm rfl rfl rfl rfl ?_
    refine jx_load c1 hm rfl rfl rfl rfl ?_
    refine jc_ge c1 hm 111 rfl rfl (fun h14 => ?_) (fun h14 => ?_)
    ·
     refine jx_load c1 hm rfl rfl rfl rfl ?_
     exact jx_reti c2 hm rfl rfl ⟨_, rfl, (hH10.mono (by omega) (by omega)), hF10, by omega, by omega⟩
    refine jx_load c1 hm rfl rfl rfl rfl ?_
    refine jx_getr c1 hm rfl sh_0 rfl ?_
    refine jx_load c1 hm rfl rfl rfl rfl ?_
    refine jx_getr c1 hm rfl sh_0 rfl ?_
    refine jx_getr c1 hm rfl sh_5 rfl ?_
    refine jv_v c3 hm rfl pj_X8_takeAll rfl rfl ⟨_, _, _, rfl, sh_47⟩ rfl ((ct_X8_takeAll_47_12 (X + 360 * b9) (by omega) M10 hH10 ).le (by decide)) (fun M15 ⟨hH15, hR15⟩ => ?_)
    have hF15 := hF10.tr hR15 (by decide +kernel)
    refine jx_load c1 hm rfl rfl rfl rfl ?_
    refine jx_getr c1 hm rfl sh_0 rfl ?_
    refine jx_load c1 hm rfl rfl rfl rfl ?_
    refine jx_getr c1 hm rfl sh_0 rfl ?_
    refine jx_load c1 hm rfl rfl rfl rfl ?_
    refine jx_load c1 hm rfl rfl rfl rfl ?_
    refine jx_load c1 hm rfl rfl rfl rfl ?_
    refine jx_iopw c1 hm rfl rfl (fun z16 lz16 uz16 => ?_)
    refine jv_v c3 hm rfl pj_X0_drawWeeks rfl rfl ⟨_, _, _, rfl, sh_4⟩ rfl ((ct_X0_drawWeeks_4_47 (X + 360 * b9) (by omega) M15 hH15 z6 ⟨by omega, by omega⟩ z16 ⟨by omega, by omega⟩).le (by decide)) (fun M17 ⟨hH17, hR17⟩ => ?_)
    have hF17 := hF15.tr hR17 (by decide +kernel)
    refine jx_load c1 hm rfl rfl rfl rfl ?_
    refine jx_getr c1 hm rfl sh_0 rfl ?_
    refine jx_getr c1 hm rfl sh_47 rfl ?_
    refine jx_load c1 hm rfl rfl rfl rfl ?_
    refine jy_bp c1 hm rfl (by decide) ?_
    refine jy_mul c1 hm (6 * a0) rfl (by omega) ?_
    refine jy_ic c1 hm rfl (by decide) ?_
    refine jy_bp c1 hm rfl (by decide) ?_
    refine jt_i c3 hm rfl rfl pj_X11_sum rfl rfl rfl ((ct_X11_sum_54 (X + 360 * b9 + 360) (by omega) M17 hH17 (6 * a0) ⟨by omega, by omega⟩ 1 ⟨by omega, by omega⟩ 6 ⟨by omega, by omega⟩).le (by decide)) (fun z18 _ ⟨rfl, lz18, uz18⟩ => ?_)
    have J22 : ∀ (b20 : Int) (hb20 : 0 ≤ b20 ∧ b20 ≤ 31) (h21 : b20 ≤ b9 + 1), F 105 [some (.inr (.inr (.inl 0))), some (.inl a0), some (.inl a1), some (.inl a2), some (.inl z6), some (.inl b20), some (.inl b9)] [] M17 := by
     intro b20 hb20 h21
     refine jx_iinc c1 hm (v := (b9 + 1)) (L' := [some (.inr (.inr (.inl 0))), some (.inl a0), some (.inl a1), some (.inl a2), some (.inl z6), some (.inl b20), some (.inl (b9 + 1))]) rfl rfl (by omega) (by omega) rfl ?_
     refine jx_goto c1 hm 45 rfl rfl ?_
     exact ihW12 b20 (by omega) (b9 + 1) (by omega) M17 (hH17.mono (by omega) (by omega)) hF17 (by omega) (by omega)
    refine jz_le c1 hm 105 rfl rfl (fun h19 => ?_) (fun h19 => ?_)
    ·
     exact J22 b8 (by omega) (by omega)
    refine jx_iinc c1 hm (v := (b8 + 1)) (L' := [some (.inr (.inr (.inl 0))), some (.inl a0), some (.inl a1), some (.inl a2), some (.inl z6), some (.inl (b8 + 1)), some (.inl b9)]) rfl rfl (by omega) (by omega) rfl ?_
    exact J22 (b8 + 1) (by omega) (by omega)
  exact W12 (30 + 1 : Int).toNat 0 (by omega) 0 (by omega) M0 (hH0.mono (by omega) (by omega)) hF0 (by omega) (by omega)
 refine jy_ic c1 hm rfl (by decide) ?_
 exact jx_reti c2 hm rfl rfl ⟨_, rfl, (hH0.mono (by omega) (by omega)), hF0, by omega, by omega⟩
def md_X1_add_133 : List (Nat × (Nat × Nat)) := [(134, (0, 159))]
theorem ct_X1_add_133 (X : Int) (hX : 0 ≤ X ∧ X ≤ 100000000) (M0 : JM) (hH0 : HI X M0) (a0 : Int) (ha0 : 0 ≤ a0 ∧ a0 ≤ 5) (a1 : Int) (ha1 : 0 ≤ a1 ∧ a1 ≤ 5) (a2 : Int) (ha2 : 0 ≤ a2 ∧ a2 ≤ 5) (a3 : Int) (ha3 : 0 ≤ a3 ∧ a3 ≤ 99) : JOk shp PJ 1 207 [.inr (.inr (.inl 133)), .inl a0, .inl a1, .inl a2, .inl a3] M0 (jRi (fun v M' => HI X M' ∧ Fr md_X1_add_133 M0 M' ∧ 0 ≤ v ∧ v ≤ 1 )) := by
 refine ⟨jr_X1_add, pj_X1_add, fun F c1 c2 c3 => ?_⟩
 have hm := pj_X1_add
 change F 0 [some (.inr (.inr (.inl 133))), some (.inl a0), some (.inl a1), some (.inl a2), some (.inl a3), none] [] M0
 have hF0 : Fr md_X1_add_133 M0 M0 := Fr.rf _ _
 refine jx_load c1 hm rfl rfl rfl rfl ?_
 obtain ⟨z1, k2, lz1, uz1⟩ := hH0.ld (c := 133) (i := 1) (A := 0) (B := 40) (bs_27_1 _ _ (by omega) (by omega))
 refine jx_geti c1 hm rfl sh_133 rfl k2 ?_
 refine jy_ic c1 hm rfl (by decide) ?_
 refine jy_mul c1 hm (4 * z1) rfl (by omega) ?_
 refine jx_stor c1 hm (L' := [some (.inr (.inr (.inl 133))), some (.inl a0), some (.inl a1), some (.inl a2), some (.inl a3), some (.inl (4 * z1))]) rfl rfl rfl rfl rfl ?_
 refine jx_load c1 hm rfl rfl rfl rfl ?_
 refine jy_ic c1 hm rfl (by decide) ?_
 refine jy_add c1 hm (4 * z1 + 4) rfl (by omega) ?_
 refine jx_load c1 hm rfl rfl rfl rfl ?_
 refine jx_getr c1 hm rfl sh_133 rfl ?_
 refine jx_alen c1 hm (v := 160) rfl sh_134 rfl rfl ?_
 refine jc_gt c1 hm 59 rfl rfl (fun h3 => ?_) (fun h3 => ?_)
 ·
  refine jy_ic c1 hm rfl (by decide) ?_
  exact jx_retz c2 hm rfl rfl ⟨by omega, by omega⟩ ⟨_, rfl, hH0, hF0, by omega, by omega⟩
 refine jx_load c1 hm rfl rfl rfl rfl ?_
 refine jx_getr c1 hm rfl sh_133 rfl ?_
 refine jx_load c1 hm rfl rfl rfl rfl ?_
 refine jx_load c1 hm rfl rfl rfl rfl ?_
 obtain ⟨M4, e4, hH4, hF4, k4, n4, _⟩ := mup hH0 hF0 (c := 134) (i := ((4 * z1)).toNat) (v := a0) (A := 0) (B := 5) (bs_10_0 _ _ (by omega) (by omega)) ⟨by omega, by omega⟩ (jin_of 0 rfl ⟨by omega, by omega⟩)
 refine jm_iast c1 hm rfl sh_134 ⟨by omega, by omega⟩ e4 ?_
 refine jx_load c1 hm rfl rfl rfl rfl ?_
 refine jx_getr c1 hm rfl sh_133 rfl ?_
 refine jx_load c1 hm rfl rfl rfl rfl ?_
 refine jy_ic c1 hm rfl (by decide) ?_
 refine jy_add c1 hm (4 * z1 + 1) rfl (by omega) ?_
 refine jx_load c1 hm rfl rfl rfl rfl ?_
 obtain ⟨M5, e5, hH5, hF5, k5, n5, _⟩ := mup hH4 hF4 (c := 134) (i := ((4 * z1 + 1)).toNat) (v := a1) (A := 0) (B := 5) (bs_10_0 _ _ (by omega) (by omega)) ⟨by omega, by omega⟩ (jin_of 0 rfl ⟨by omega, by omega⟩)
 refine jm_iast c1 hm rfl sh_134 ⟨by omega, by omega⟩ e5 ?_
 refine jx_load c1 hm rfl rfl rfl rfl ?_
 refine jx_getr c1 hm rfl sh_133 rfl ?_
 refine jx_load c1 hm rfl rfl rfl rfl ?_
 refine jy_ic c1 hm rfl (by decide) ?_
 refine jy_add c1 hm (4 * z1 + 2) rfl (by omega) ?_
 refine jx_load c1 hm rfl rfl rfl rfl ?_
 obtain ⟨M6, e6, hH6, hF6, k6, n6, _⟩ := mup hH5 hF5 (c := 134) (i := ((4 * z1 + 2)).toNat) (v := a2) (A := 0) (B := 5) (bs_10_0 _ _ (by omega) (by omega)) ⟨by omega, by omega⟩ (jin_of 0 rfl ⟨by omega, by omega⟩)
 refine jm_iast c1 hm rfl sh_134 ⟨by omega, by omega⟩ e6 ?_
 refine jx_load c1 hm rfl rfl rfl rfl ?_
 refine jx_getr c1 hm rfl sh_133 rfl ?_
 refine jx_load c1 hm rfl rfl rfl rfl ?_
 refine jy_ic c1 hm rfl (by decide) ?_
 refine jy_add c1 hm (4 * z1 + 3) rfl (by omega) ?_
 refine jx_load c1 hm rfl rfl rfl rfl ?_
 obtain ⟨M7, e7, hH7, hF7, k7, n7, _⟩ := mup hH6 hF6 (c := 134) (i := ((4 * z1 + 3)).toNat) (v := a3) (A := 0) (B := 99) (bs_10_1 _ _ (by omega) (by omega)) ⟨by omega, by omega⟩ (jin_of 0 rfl ⟨by omega, by omega⟩)
 refine jm_iast c1 hm rfl sh_134 ⟨by omega, by omega⟩ e7 ?_
 refine jy_ic c1 hm rfl (by decide) ?_
 exact jx_retz c2 hm rfl rfl ⟨by omega, by omega⟩ ⟨_, rfl, hH7, hF7, by omega, by omega⟩
theorem ct_X2_placeOf_5 (X : Int) (hX : 0 ≤ X ∧ X ≤ 100000000) (M0 : JM) (hH0 : HI X M0) (a0 : Int64) : JOk shp PJ 1 221 [.inr (.inr (.inl 5)), .inr (.inl a0)] M0 (jRi (fun v M' => M0 = M' ∧ (-1) ≤ v ∧ v ≤ 17 )) := by
 refine ⟨jr_X2_placeOf, pj_X2_placeOf, fun F c1 c2 c3 => ?_⟩
 have hm := pj_X2_placeOf
 change F 0 [some (.inr (.inr (.inl 5))), some (.inr (.inl a0)), none, none, none] [] M0
 refine jy_ic c1 hm rfl (by decide) ?_
 refine jx_stor c1 hm (L' := [some (.inr (.inr (.inl 5))), some (.inr (.inl a0)), none, some (.inl 0), none]) rfl rfl rfl rfl rfl ?_
 have W3 : ∀ (n4 : Nat) (b1 : Int) (hb1 : 0 ≤ b1 ∧ b1 ≤ 3) (o2 : Option JV) (ho2 : o2 = none ∨ (∃ z, o2 = some (.inl z)) ∨ ∃ r, o2 = some (.inr (.inr r))), (-b1 + 3) < (n4 : Int) → F 2 [some (.inr (.inr (.inl 5))), some (.inr (.inl a0)), none, some (.inl b1), o2] [] M0 := by
  intro n4
  induction n4 with
  | zero => intros; omega
  | succ n4 ihW3 =>
   intro b1 hb1 o2 ho2 hrW3
   refine jx_load c1 hm rfl rfl rfl rfl ?_
   refine jy_ic c1 hm rfl (by decide) ?_
   refine jc_ge c1 hm 58 rfl rfl (fun h5 => ?_) (fun h5 => ?_)
   ·
    refine jy_ic c1 hm rfl (by decide) ?_
    exact jx_reti c2 hm rfl rfl ⟨_, rfl, rfl, by omega, by omega⟩
   refine jy_ic c1 hm rfl (by decide) ?_
   refine jx_stor c1 hm (L' := [some (.inr (.inr (.inl 5))), some (.inr (.inl a0)), none, some (.inl b1), some (.inl 0)]) rfl rfl rfl rfl rfl ?_
   have W7 : ∀ (n8 : Nat) (b6 : Int) (hb6 : 0 ≤ b6 ∧ b6 ≤ 6), (-b6 + 6) < (n8 : Int) → F 10 [some (.inr (.inr (.inl 5))), some (.inr (.inl a0)), none, some (.inl b1), some (.inl b6)] [] M0 := by
    intro n8
    induction n8 with
    | zero => intros; omega
    | succ n8 ihW7 =>
     intro b6 hb6 hrW7
     refine jx_load c1 hm rfl rfl rfl rfl ?_
     refine jx_load c1 hm rfl rfl rfl rfl ?_
     refine jx_getr c1 hm rfl sh_5 rfl ?_
     refine jx_load c1 hm rfl rfl rfl rfl ?_
     obtain ⟨z9, k10, lz9, uz9⟩ := hH0.ld (c := 6) (i := (b1).toNat) (A := 0) (B := 6) rfl
     refine jx_iald c1 hm rfl sh_6 ⟨by omega, by omega⟩ k10 ?_
     refine jc_ge c1 hm 52 rfl rfl (fun h11 => ?_) (fun h11 => ?_)
     ·
      refine jx_iinc c1 hm (v := (b1 + 1)) (L' := [some (.inr (.inr (.inl 5))), some (.inr (.inl a0)), none, some (.inl (b1 + 1)), some (.inl b6)]) rfl rfl (by omega) (by omega) rfl ?_
      refine jx_goto c1 hm 2 rfl rfl ?_
      exact ihW3 (b1 + 1) (by omega) (some (.inl b6)) (Or.inr (Or.inl ⟨_, rfl⟩)) (by omega)
     refine jx_load c1 hm rfl rfl rfl rfl ?_
     refine jx_getr c1 hm rfl sh_5 rfl ?_
     refine jx_load c1 hm rfl rfl rfl rfl ?_
     refine jy_bp c1 hm rfl (by decide) ?_
     refine jy_mul c1 hm (6 * b1) rfl (by omega) ?_
     refine jx_load c1 hm rfl rfl rfl rfl ?_
     refine jy_add c1 hm (6 * b1 + b6) rfl (by omega) ?_
     obtain ⟨w12, kw12⟩ : ∃ w, M0.2 7 ((6 * b1 + b6)).toNat = w := ⟨_, rfl⟩
     refine jx_lald c1 hm rfl sh_7 ⟨by omega, by omega⟩ kw12 ?_
     refine jx_load c1 hm rfl rfl rfl rfl ?_
     refine jx_lcmp c1 hm rfl (fun z13 lz13 uz13 ez13 fz13 => ?_)
     refine jz_ne c1 hm 46 rfl rfl (fun h14 => ?_) (fun h14 => ?_)
     ·
      refine jx_iinc c1 hm (v := (b6 + 1)) (L' := [some (.inr (.inr (.inl 5))), some (.inr (.inl a0)), none, some (.inl b1), some (.inl (b6 + 1))]) rfl rfl (by omega) (by omega) rfl ?_
      refine jx_goto c1 hm 10 rfl rfl ?_
      exact ihW7 (b6 + 1) (by omega) (by omega)
     refine jx_load c1 hm rfl rfl rfl rfl ?_
     refine jy_bp c1 hm rfl (by decide) ?_
     refine jy_mul c1 hm (6 * b1) rfl (by omega) ?_
     refine jx_load c1 hm rfl rfl rfl rfl ?_
     refine jy_add c1 hm (6 * b1 + b6) rfl (by omega) ?_
     exact jx_reti c2 hm rfl rfl ⟨_, rfl, rfl, by omega, by omega⟩
   exact W7 (6 + 1 : Int).toNat 0 (by omega) (by omega)
 exact W3 (3 + 1 : Int).toNat 0 (by omega) none (Or.inl rfl) (by omega)
def md_X10_takesName_1_5 : List (Nat × (Nat × Nat)) := [(1, (4, 4)), (1, (5, 5)), (1, (6, 6)), (1, (7, 7)), (1, (9, 9)), (1, (11, 11)), (1, (12, 12)), (1, (13, 13))]
theorem ct_X10_takesName_1_5 (X : Int) (hX : 0 ≤ X ∧ X ≤ 100000000) (M0 : JM) (hH0 : HI X M0) (a0 : Int) (ha0 : 0 ≤ a0 ∧ a0 ≤ 2) : JOk shp PJ 3 21 [.inr (.inr (.inl 1)), .inr (.inr (.inl 5)), .inl a0] M0 (jRi (fun v M' => HI X M' ∧ Fr md_X10_takesName_1_5 M0 M' ∧ 0 ≤ v ∧ v ≤ 1 ∧ (v = 1 → M'.1 1 11 ≤ 5))) := by
 refine ⟨jr_X10_takesName, pj_X10_takesName, fun F c1 c2 c3 => ?_⟩
 have hm := pj_X10_takesName
 change F 0 [some (.inr (.inr (.inl 1))), some (.inr (.inr (.inl 5))), some (.inl a0), none] [] M0
 have hF0 : Fr md_X10_takesName_1_5 M0 M0 := Fr.rf _ _
 refine jx_load c1 hm rfl rfl rfl rfl ?_
 obtain ⟨z1, k2, lz1, uz1⟩ := hH0.ld (c := 1) (i := 6) (A := 0) (B := 4) (bs_19_4 _ _ (by omega) (by omega))
 refine jx_geti c1 hm rfl sh_1 rfl k2 ?_
 refine jy_ic c1 hm rfl (by decide) ?_
 refine jc_ne c1 hm 16 rfl rfl (fun h3 => ?_) (fun h3 => ?_)
 ·
  refine jx_load c1 hm rfl rfl rfl rfl ?_
  refine jy_ic c1 hm rfl (by decide) ?_
  refine jx_load c1 hm rfl rfl rfl rfl ?_
  obtain ⟨z4, k5, lz4, uz4⟩ := hH0.ld (c := 1) (i := 5) (A := 0) (B := 940) (bs_19_3 _ _ (by omega) (by omega))
  refine jx_geti c1 hm rfl sh_1 rfl k5 ?_
  refine jv_i c3 hm rfl pj_X10_fails rfl rfl ⟨_, _, _, rfl, sh_1⟩ rfl ((ct_X10_fails_1 X (by omega) M0 hH0 1 ⟨by omega, by omega⟩ z4 ⟨by omega, by omega⟩).le (by decide)) (fun z6 M8 ⟨hH8, hR8, lz6, uz6, p7⟩ => ?_)
  have hF8 := hF0.tr hR8 (by decide +kernel)
  obtain ⟨z9, k10, lz9, uz9⟩ := hH8.ld (c := 1) (i := 11) (A := 0) (B := 999) (bs_19_7 _ _ (by omega) (by omega))
  exact jx_retz c2 hm rfl rfl ⟨by omega, by omega⟩ ⟨_, rfl, hH8, hF8, by omega, by omega, (by omega)⟩
 refine jx_load c1 hm rfl rfl rfl rfl ?_
 obtain ⟨z11, k12, lz11, uz11⟩ := hH0.ld (c := 1) (i := 7) (A := (-1)) (B := 23) (bs_19_5 _ _ (by omega) (by omega))
 refine jx_geti c1 hm rfl sh_1 rfl k12 ?_
 refine jy_ic c1 hm rfl (by decide) ?_
 refine jc_eq c1 hm 26 rfl rfl (fun h13 => ?_) (fun h13 => ?_)
 ·
  refine jx_load c1 hm rfl rfl rfl rfl ?_
  refine jx_load c1 hm rfl rfl rfl rfl ?_
  obtain ⟨w14, kw14⟩ : ∃ w, M0.2 1 8 = w := ⟨_, rfl⟩
  refine jx_getl c1 hm rfl sh_1 rfl kw14 ?_
  refine jv_i c3 hm rfl pj_X2_placeOf rfl rfl ⟨_, _, _, rfl, sh_5⟩ rfl ((ct_X2_placeOf_5 X (by omega) M0 hH0 w14).le (by decide)) (fun z15 _ ⟨rfl, lz15, uz15⟩ => ?_)
  refine jx_stor c1 hm (L' := [some (.inr (.inr (.inl 1))), some (.inr (.inr (.inl 5))), some (.inl a0), some (.inl z15)]) rfl rfl rfl rfl rfl ?_
  refine jx_load c1 hm rfl rfl rfl rfl ?_
  refine jy_ic c1 hm rfl (by decide) ?_
  refine jc_eq c1 hm 48 rfl rfl (fun h16 => ?_) (fun h16 => ?_)
  ·
   refine jx_load c1 hm rfl rfl rfl rfl ?_
   refine jy_ic c1 hm rfl (by decide) ?_
   refine jx_load c1 hm rfl rfl rfl rfl ?_
   obtain ⟨z17, k18, lz17, uz17⟩ := hH0.ld (c := 1) (i := 5) (A := 0) (B := 940) (bs_19_3 _ _ (by omega) (by omega))
   refine jx_geti c1 hm rfl sh_1 rfl k18 ?_
   refine jv_i c3 hm rfl pj_X10_fails rfl rfl ⟨_, _, _, rfl, sh_1⟩ rfl ((ct_X10_fails_1 X (by omega) M0 hH0 3 ⟨by omega, by omega⟩ z17 ⟨by omega, by omega⟩).le (by decide)) (fun z19 M21 ⟨hH21, hR21, lz19, uz19, p20⟩ => ?_)
   have hF21 := hF0.tr hR21 (by decide +kernel)
   obtain ⟨z22, k23, lz22, uz22⟩ := hH21.ld (c := 1) (i := 11) (A := 0) (B := 999) (bs_19_7 _ _ (by omega) (by omega))
   exact jx_retz c2 hm rfl rfl ⟨by omega, by omega⟩ ⟨_, rfl, hH21, hF21, by omega, by omega, (by omega)⟩
  refine jx_load c1 hm rfl rfl rfl rfl ?_
  refine jy_bp c1 hm rfl (by decide) ?_
  refine jy_div c1 hm rfl ⟨by omega, by omega, by omega, by omega⟩ (fun z24 ez24 lz24 uz24 => ?_)
  refine jx_load c1 hm rfl rfl rfl rfl ?_
  refine jc_eq c1 hm 58 rfl rfl (fun h25 => ?_) (fun h25 => ?_)
  ·
   refine jx_load c1 hm rfl rfl rfl rfl ?_
   refine jx_load c1 hm rfl rfl rfl rfl ?_
   refine jy_bp c1 hm rfl (by decide) ?_
   refine jy_rem c1 hm rfl ⟨by omega, by omega, by omega, by omega⟩ (fun z26 ez26 lz26 uz26 => ?_)
   obtain ⟨M27, e27, hH27, hF27, k27, n27, _⟩ := mup hH0 hF0 (c := 1) (i := 11) (v := z26) (A := 0) (B := 999) (bs_19_7 _ _ (by omega) (by omega)) ⟨by omega, by omega⟩ (jin_of 5 rfl ⟨by omega, by omega⟩)
   refine jm_puti c1 hm rfl sh_1 rfl e27 ?_
   refine jx_load c1 hm rfl rfl rfl rfl ?_
   refine jv_v c3 hm rfl pj_X10_next rfl rfl ⟨_, _, _, rfl, sh_1⟩ rfl ((ct_X10_next_1 X (by omega) M27 hH27 ).le (by decide)) (fun M28 ⟨hH28, hR28⟩ => ?_)
   have hF28 := hF27.tr hR28 (by decide +kernel)
   refine jy_ic c1 hm rfl (by decide) ?_
   have k29 : M28.1 1 11 = z26 := (hR28 1 11 (by decide +kernel)).trans k27
   exact jx_retz c2 hm rfl rfl ⟨by omega, by omega⟩ ⟨_, rfl, hH28, hF28, by omega, by omega, (by omega)⟩
  refine jx_load c1 hm rfl rfl rfl rfl ?_
  refine jy_ic c1 hm rfl (by decide) ?_
  refine jx_load c1 hm rfl rfl rfl rfl ?_
  obtain ⟨z30, k31, lz30, uz30⟩ := hH0.ld (c := 1) (i := 5) (A := 0) (B := 940) (bs_19_3 _ _ (by omega) (by omega))
  refine jx_geti c1 hm rfl sh_1 rfl k31 ?_
  refine jv_i c3 hm rfl pj_X10_fails rfl rfl ⟨_, _, _, rfl, sh_1⟩ rfl ((ct_X10_fails_1 X (by omega) M0 hH0 3 ⟨by omega, by omega⟩ z30 ⟨by omega, by omega⟩).le (by decide)) (fun z32 M34 ⟨hH34, hR34, lz32, uz32, p33⟩ => ?_)
  have hF34 := hF0.tr hR34 (by decide +kernel)
  obtain ⟨z35, k36, lz35, uz35⟩ := hH34.ld (c := 1) (i := 11) (A := 0) (B := 999) (bs_19_7 _ _ (by omega) (by omega))
  exact jx_retz c2 hm rfl rfl ⟨by omega, by omega⟩ ⟨_, rfl, hH34, hF34, by omega, by omega, (by omega)⟩
 refine jx_load c1 hm rfl rfl rfl rfl ?_
 refine jy_ic c1 hm rfl (by decide) ?_
 refine jx_load c1 hm rfl rfl rfl rfl ?_
 obtain ⟨z37, k38, lz37, uz37⟩ := hH0.ld (c := 1) (i := 5) (A := 0) (B := 940) (bs_19_3 _ _ (by omega) (by omega))
 refine jx_geti c1 hm rfl sh_1 rfl k38 ?_
 refine jv_i c3 hm rfl pj_X10_fails rfl rfl ⟨_, _, _, rfl, sh_1⟩ rfl ((ct_X10_fails_1 X (by omega) M0 hH0 1 ⟨by omega, by omega⟩ z37 ⟨by omega, by omega⟩).le (by decide)) (fun z39 M41 ⟨hH41, hR41, lz39, uz39, p40⟩ => ?_)
 have hF41 := hF0.tr hR41 (by decide +kernel)
 obtain ⟨z42, k43, lz42, uz42⟩ := hH41.ld (c := 1) (i := 11) (A := 0) (B := 999) (bs_19_7 _ _ (by omega) (by omega))
 exact jx_retz c2 hm rfl rfl ⟨by omega, by omega⟩ ⟨_, rfl, hH41, hF41, by omega, by omega, (by omega)⟩
def md_X1_readOfMan_133_1_5 : List (Nat × (Nat × Nat)) := [(1, (4, 4)), (1, (5, 5)), (1, (6, 6)), (1, (7, 7)), (1, (9, 9)), (1, (11, 11)), (1, (12, 12)), (1, (13, 13)), (134, (0, 159))]
theorem ct_X1_readOfMan_133_1_5 (X : Int) (hX : 0 ≤ X ∧ X ≤ 100000000) (M0 : JM) (hH0 : HI X M0) (a0 : Int) (ha0 : 0 ≤ a0 ∧ a0 ≤ 5) : JOk shp PJ 4 211 [.inr (.inr (.inl 133)), .inr (.inr (.inl 1)), .inr (.inr (.inl 5)), .inl a0] M0 (jRi (fun v M' => HI X M' ∧ Fr md_X1_readOfMan_133_1_5 M0 M' ∧ 0 ≤ v ∧ v ≤ 1 ∧ (M'.1 133 1 = M0.1 133 1))) := by
 refine ⟨jr_X1_readOfMan, pj_X1_readOfMan, fun F c1 c2 c3 => ?_⟩
 have hm := pj_X1_readOfMan
 change F 0 [some (.inr (.inr (.inl 133))), some (.inr (.inr (.inl 1))), some (.inr (.inr (.inl 5))), some (.inl a0), none, none, none] [] M0
 have hF0 : Fr md_X1_readOfMan_133_1_5 M0 M0 := Fr.rf _ _
 obtain ⟨z1, k2, lz1, uz1⟩ := hH0.ld (c := 133) (i := 1) (A := 0) (B := 40) (bs_27_1 _ _ (by omega) (by omega))
 refine jx_load c1 hm rfl rfl rfl rfl ?_
 obtain ⟨z3, k4, lz3, uz3⟩ := hH0.ld (c := 1) (i := 7) (A := (-1)) (B := 23) (bs_19_5 _ _ (by omega) (by omega))
 refine jx_geti c1 hm rfl sh_1 rfl k4 ?_
 refine jx_stor c1 hm (L' := [some (.inr (.inr (.inl 133))), some (.inr (.inr (.inl 1))), some (.inr (.inr (.inl 5))), some (.inl a0), some (.inl z3), none, none]) rfl rfl rfl rfl rfl ?_
 refine jx_load c1 hm rfl rfl rfl rfl ?_
 refine jy_bp c1 hm rfl (by decide) ?_
 refine jc_lt c1 hm 20 rfl rfl (fun h5 => ?_) (fun h5 => ?_)
 ·
  refine jx_load c1 hm rfl rfl rfl rfl ?_
  refine jy_ic c1 hm rfl (by decide) ?_
  refine jx_load c1 hm rfl rfl rfl rfl ?_
  obtain ⟨z6, k7, lz6, uz6⟩ := hH0.ld (c := 1) (i := 5) (A := 0) (B := 940) (bs_19_3 _ _ (by omega) (by omega))
  refine jx_geti c1 hm rfl sh_1 rfl k7 ?_
  refine jv_i c3 hm rfl pj_X10_fails rfl rfl ⟨_, _, _, rfl, sh_1⟩ rfl ((ct_X10_fails_1 X (by omega) M0 hH0 1 ⟨by omega, by omega⟩ z6 ⟨by omega, by omega⟩).le (by decide)) (fun z8 M10 ⟨hH10, hR10, lz8, uz8, p9⟩ => ?_)
  have hF10 := hF0.tr hR10 (by decide +kernel)
  have k11 : M10.1 133 1 = z1 := (hR10 133 1 (by decide +kernel)).trans k2
  exact jx_retz c2 hm rfl rfl ⟨by omega, by omega⟩ ⟨_, rfl, hH10, hF10, by omega, by omega, (by omega)⟩
 refine jx_load c1 hm rfl rfl rfl rfl ?_
 refine jy_bp c1 hm rfl (by decide) ?_
 refine jc_le c1 hm 30 rfl rfl (fun h12 => ?_) (fun h12 => ?_)
 ·
  refine jx_load c1 hm rfl rfl rfl rfl ?_
  refine jv_v c3 hm rfl pj_X10_next rfl rfl ⟨_, _, _, rfl, sh_1⟩ rfl ((ct_X10_next_1 X (by omega) M0 hH0 ).le (by decide)) (fun M13 ⟨hH13, hR13⟩ => ?_)
  have hF13 := hF0.tr hR13 (by decide +kernel)
  refine jx_load c1 hm rfl rfl rfl rfl ?_
  refine jy_bp c1 hm rfl (by decide) ?_
  refine jc_ne c1 hm 70 rfl rfl (fun h14 => ?_) (fun h14 => ?_)
  ·
   refine jx_load c1 hm rfl rfl rfl rfl ?_
   refine jy_bp c1 hm rfl (by decide) ?_
   refine jc_ne c1 hm 106 rfl rfl (fun h15 => ?_) (fun h15 => ?_)
   ·
    refine jx_load c1 hm rfl rfl rfl rfl ?_
    refine jx_load c1 hm rfl rfl rfl rfl ?_
    refine jy_ic c1 hm rfl (by decide) ?_
    refine jv_i c3 hm rfl pj_X10_takesName rfl rfl ⟨_, _, _, rfl, sh_1⟩ rfl ((ct_X10_takesName_1_5 X (by omega) M13 hH13 0 ⟨by omega, by omega⟩).le (by decide)) (fun z16 M18 ⟨hH18, hR18, lz16, uz16, p17⟩ => ?_)
    have hF18 := hF13.tr hR18 (by decide +kernel)
    obtain ⟨z19, k20, lz19, uz19⟩ := hH18.ld (c := 1) (i := 11) (A := 0) (B := 999) (bs_19_7 _ _ (by omega) (by omega))
    refine jz_ne c1 hm 117 rfl rfl (fun h21 => ?_) (fun h21 => ?_)
    ·
     refine jx_load c1 hm rfl rfl rfl rfl ?_
     refine jx_geti c1 hm rfl sh_1 rfl k20 ?_
     refine jx_stor c1 hm (L' := [some (.inr (.inr (.inl 133))), some (.inr (.inr (.inl 1))), some (.inr (.inr (.inl 5))), some (.inl a0), some (.inl z3), some (.inl z19), none]) rfl rfl rfl rfl rfl ?_
     refine jx_load c1 hm rfl rfl rfl rfl ?_
     refine jy_bp c1 hm rfl (by decide) ?_
     have J24 : ∀ (b23 : Int) (hb23 : 2 ≤ b23 ∧ b23 ≤ 3), F 135 [some (.inr (.inr (.inl 133))), some (.inr (.inr (.inl 1))), some (.inr (.inr (.inl 5))), some (.inl a0), some (.inl z3), some (.inl z19), none] [.inl b23] M18 := by
      intro b23 hb23
      refine jx_stor c1 hm (L' := [some (.inr (.inr (.inl 133))), some (.inr (.inr (.inl 1))), some (.inr (.inr (.inl 5))), some (.inl a0), some (.inl z3), some (.inl z19), some (.inl b23)]) rfl rfl rfl rfl rfl ?_
      refine jx_load c1 hm rfl rfl rfl rfl ?_
      refine jy_ic c1 hm rfl (by decide) ?_
      refine jy_bp c1 hm rfl (by decide) ?_
      refine jv_i c3 hm rfl pj_X10_takesNumber rfl rfl ⟨_, _, _, rfl, sh_1⟩ rfl ((ct_X10_takesNumber_1 X (by omega) M18 hH18 1 ⟨by omega, by omega⟩ 99 ⟨by omega, by omega⟩).le (by decide)) (fun z25 M27 ⟨hH27, hR27, lz25, uz25, p26⟩ => ?_)
      have hF27 := hF18.tr hR27 (by decide +kernel)
      obtain ⟨z28, k29, lz28, uz28⟩ := hH27.ld (c := 1) (i := 11) (A := 0) (B := 999) (bs_19_7 _ _ (by omega) (by omega))
      refine jz_eq c1 hm 167 rfl rfl (fun h30 => ?_) (fun h30 => ?_)
      ·
       refine jy_ic c1 hm rfl (by decide) ?_
       have k31 : M27.1 133 1 = z1 := (hR27 133 1 (by decide +kernel)).trans ((hR18 133 1 (by decide +kernel)).trans ((hR13 133 1 (by decide +kernel)).trans k2))
       exact jx_retz c2 hm rfl rfl ⟨by omega, by omega⟩ ⟨_, rfl, hH27, hF27, by omega, by omega, (by omega)⟩
      refine jx_load c1 hm rfl rfl rfl rfl ?_
      refine jx_load c1 hm rfl rfl rfl rfl ?_
      refine jx_load c1 hm rfl rfl rfl rfl ?_
      refine jx_load c1 hm rfl rfl rfl rfl ?_
      refine jx_load c1 hm rfl rfl rfl rfl ?_
      refine jx_geti c1 hm rfl sh_1 rfl k29 ?_
      refine jv_i c3 hm rfl pj_X1_add rfl rfl ⟨_, _, _, rfl, sh_133⟩ rfl ((ct_X1_add_133 X (by omega) M27 hH27 b23 ⟨by omega, by omega⟩ a0 ⟨by omega, by omega⟩ z19 ⟨by omega, by omega⟩ z28 ⟨by omega, by omega⟩).le (by decide)) (fun z32 M33 ⟨hH33, hR33, lz32, uz32⟩ => ?_)
      have hF33 := hF27.tr hR33 (by decide +kernel)
      refine jz_eq c1 hm 167 rfl rfl (fun h34 => ?_) (fun h34 => ?_)
      ·
       refine jy_ic c1 hm rfl (by decide) ?_
       have k35 : M33.1 133 1 = z1 := (hR33 133 1 (by decide +kernel)).trans ((hR27 133 1 (by decide +kernel)).trans ((hR18 133 1 (by decide +kernel)).trans ((hR13 133 1 (by decide +kernel)).trans k2)))
       exact jx_retz c2 hm rfl rfl ⟨by omega, by omega⟩ ⟨_, rfl, hH33, hF33, by omega, by omega, (by omega)⟩
      refine jy_ic c1 hm rfl (by decide) ?_
      refine jx_goto c1 hm 168 rfl rfl ?_
      have k36 : M33.1 133 1 = z1 := (hR33 133 1 (by decide +kernel)).trans ((hR27 133 1 (by decide +kernel)).trans ((hR18 133 1 (by decide +kernel)).trans ((hR13 133 1 (by decide +kernel)).trans k2)))
      exact jx_retz c2 hm rfl rfl ⟨by omega, by omega⟩ ⟨_, rfl, hH33, hF33, by omega, by omega, (by omega)⟩
     refine jc_ne c1 hm 134 rfl rfl (fun h22 => ?_) (fun h22 => ?_)
     ·
      refine jy_ic c1 hm rfl (by decide) ?_
      exact J24 3 (by omega)
     refine jy_ic c1 hm rfl (by decide) ?_
     refine jx_goto c1 hm 135 rfl rfl ?_
     exact J24 2 (by omega)
    refine jy_ic c1 hm rfl (by decide) ?_
    have k37 : M18.1 133 1 = z1 := (hR18 133 1 (by decide +kernel)).trans ((hR13 133 1 (by decide +kernel)).trans k2)
    exact jx_retz c2 hm rfl rfl ⟨by omega, by omega⟩ ⟨_, rfl, hH18, hF18, by omega, by omega, (by omega)⟩
   refine jx_load c1 hm rfl rfl rfl rfl ?_
   refine jx_load c1 hm rfl rfl rfl rfl ?_
   refine jy_ic c1 hm rfl (by decide) ?_
   refine jv_i c3 hm rfl pj_X10_takesName rfl rfl ⟨_, _, _, rfl, sh_1⟩ rfl ((ct_X10_takesName_1_5 X (by omega) M13 hH13 2 ⟨by omega, by omega⟩).le (by decide)) (fun z38 M40 ⟨hH40, hR40, lz38, uz38, p39⟩ => ?_)
   have hF40 := hF13.tr hR40 (by decide +kernel)
   obtain ⟨z41, k42, lz41, uz41⟩ := hH40.ld (c := 1) (i := 11) (A := 0) (B := 999) (bs_19_7 _ _ (by omega) (by omega))
   refine jz_eq c1 hm 104 rfl rfl (fun h43 => ?_) (fun h43 => ?_)
   ·
    refine jy_ic c1 hm rfl (by decide) ?_
    have k44 : M40.1 133 1 = z1 := (hR40 133 1 (by decide +kernel)).trans ((hR13 133 1 (by decide +kernel)).trans k2)
    exact jx_retz c2 hm rfl rfl ⟨by omega, by omega⟩ ⟨_, rfl, hH40, hF40, by omega, by omega, (by omega)⟩
   refine jx_load c1 hm rfl rfl rfl rfl ?_
   refine jy_ic c1 hm rfl (by decide) ?_
   refine jx_load c1 hm rfl rfl rfl rfl ?_
   refine jx_load c1 hm rfl rfl rfl rfl ?_
   refine jx_geti c1 hm rfl sh_1 rfl k42 ?_
   refine jy_ic c1 hm rfl (by decide) ?_
   refine jv_i c3 hm rfl pj_X1_add rfl rfl ⟨_, _, _, rfl, sh_133⟩ rfl ((ct_X1_add_133 X (by omega) M40 hH40 1 ⟨by omega, by omega⟩ a0 ⟨by omega, by omega⟩ z41 ⟨by omega, by omega⟩ 0 ⟨by omega, by omega⟩).le (by decide)) (fun z45 M46 ⟨hH46, hR46, lz45, uz45⟩ => ?_)
   have hF46 := hF40.tr hR46 (by decide +kernel)
   refine jz_eq c1 hm 104 rfl rfl (fun h47 => ?_) (fun h47 => ?_)
   ·
    refine jy_ic c1 hm rfl (by decide) ?_
    have k48 : M46.1 133 1 = z1 := (hR46 133 1 (by decide +kernel)).trans ((hR40 133 1 (by decide +kernel)).trans ((hR13 133 1 (by decide +kernel)).trans k2))
    exact jx_retz c2 hm rfl rfl ⟨by omega, by omega⟩ ⟨_, rfl, hH46, hF46, by omega, by omega, (by omega)⟩
   refine jy_ic c1 hm rfl (by decide) ?_
   refine jx_goto c1 hm 105 rfl rfl ?_
   have k49 : M46.1 133 1 = z1 := (hR46 133 1 (by decide +kernel)).trans ((hR40 133 1 (by decide +kernel)).trans ((hR13 133 1 (by decide +kernel)).trans k2))
   exact jx_retz c2 hm rfl rfl ⟨by omega, by omega⟩ ⟨_, rfl, hH46, hF46, by omega, by omega, (by omega)⟩
  refine jx_load c1 hm rfl rfl rfl rfl ?_
  refine jx_load c1 hm rfl rfl rfl rfl ?_
  refine jy_ic c1 hm rfl (by decide) ?_
  refine jv_i c3 hm rfl pj_X10_takesName rfl rfl ⟨_, _, _, rfl, sh_1⟩ rfl ((ct_X10_takesName_1_5 X (by omega) M13 hH13 1 ⟨by omega, by omega⟩).le (by decide)) (fun z50 M52 ⟨hH52, hR52, lz50, uz50, p51⟩ => ?_)
  have hF52 := hF13.tr hR52 (by decide +kernel)
  obtain ⟨z53, k54, lz53, uz53⟩ := hH52.ld (c := 1) (i := 11) (A := 0) (B := 999) (bs_19_7 _ _ (by omega) (by omega))
  refine jz_eq c1 hm 68 rfl rfl (fun h55 => ?_) (fun h55 => ?_)
  ·
   refine jy_ic c1 hm rfl (by decide) ?_
   have k56 : M52.1 133 1 = z1 := (hR52 133 1 (by decide +kernel)).trans ((hR13 133 1 (by decide +kernel)).trans k2)
   exact jx_retz c2 hm rfl rfl ⟨by omega, by omega⟩ ⟨_, rfl, hH52, hF52, by omega, by omega, (by omega)⟩
  refine jx_load c1 hm rfl rfl rfl rfl ?_
  refine jy_ic c1 hm rfl (by decide) ?_
  refine jx_load c1 hm rfl rfl rfl rfl ?_
  refine jx_load c1 hm rfl rfl rfl rfl ?_
  refine jx_geti c1 hm rfl sh_1 rfl k54 ?_
  refine jy_ic c1 hm rfl (by decide) ?_
  refine jv_i c3 hm rfl pj_X1_add rfl rfl ⟨_, _, _, rfl, sh_133⟩ rfl ((ct_X1_add_133 X (by omega) M52 hH52 0 ⟨by omega, by omega⟩ a0 ⟨by omega, by omega⟩ z53 ⟨by omega, by omega⟩ 0 ⟨by omega, by omega⟩).le (by decide)) (fun z57 M58 ⟨hH58, hR58, lz57, uz57⟩ => ?_)
  have hF58 := hF52.tr hR58 (by decide +kernel)
  refine jz_eq c1 hm 68 rfl rfl (fun h59 => ?_) (fun h59 => ?_)
  ·
   refine jy_ic c1 hm rfl (by decide) ?_
   have k60 : M58.1 133 1 = z1 := (hR58 133 1 (by decide +kernel)).trans ((hR52 133 1 (by decide +kernel)).trans ((hR13 133 1 (by decide +kernel)).trans k2))
   exact jx_retz c2 hm rfl rfl ⟨by omega, by omega⟩ ⟨_, rfl, hH58, hF58, by omega, by omega, (by omega)⟩
  refine jy_ic c1 hm rfl (by decide) ?_
  refine jx_goto c1 hm 69 rfl rfl ?_
  have k61 : M58.1 133 1 = z1 := (hR58 133 1 (by decide +kernel)).trans ((hR52 133 1 (by decide +kernel)).trans ((hR13 133 1 (by decide +kernel)).trans k2))
  exact jx_retz c2 hm rfl rfl ⟨by omega, by omega⟩ ⟨_, rfl, hH58, hF58, by omega, by omega, (by omega)⟩
 refine jx_load c1 hm rfl rfl rfl rfl ?_
 refine jy_ic c1 hm rfl (by decide) ?_
 refine jx_load c1 hm rfl rfl rfl rfl ?_
 obtain ⟨z62, k63, lz62, uz62⟩ := hH0.ld (c := 1) (i := 5) (A := 0) (B := 940) (bs_19_3 _ _ (by omega) (by omega))
 refine jx_geti c1 hm rfl sh_1 rfl k63 ?_
 refine jv_i c3 hm rfl pj_X10_fails rfl rfl ⟨_, _, _, rfl, sh_1⟩ rfl ((ct_X10_fails_1 X (by omega) M0 hH0 1 ⟨by omega, by omega⟩ z62 ⟨by omega, by omega⟩).le (by decide)) (fun z64 M66 ⟨hH66, hR66, lz64, uz64, p65⟩ => ?_)
 have hF66 := hF0.tr hR66 (by decide +kernel)
 have k67 : M66.1 133 1 = z1 := (hR66 133 1 (by decide +kernel)).trans k2
 exact jx_retz c2 hm rfl rfl ⟨by omega, by omega⟩ ⟨_, rfl, hH66, hF66, by omega, by omega, (by omega)⟩
def md_X1_readLine_133_1_5 : List (Nat × (Nat × Nat)) := [(1, (4, 4)), (1, (5, 5)), (1, (6, 6)), (1, (7, 7)), (1, (9, 9)), (1, (11, 11)), (1, (12, 12)), (1, (13, 13)), (134, (0, 159))]
theorem ct_X1_readLine_133_1_5 (X : Int) (hX : 0 ≤ X ∧ X ≤ 100000000) (M0 : JM) (hH0 : HI X M0)  : JOk shp PJ 5 209 [.inr (.inr (.inl 133)), .inr (.inr (.inl 1)), .inr (.inr (.inl 5))] M0 (jRi (fun v M' => HI X M' ∧ Fr md_X1_readLine_133_1_5 M0 M' ∧ 0 ≤ v ∧ v ≤ 1 ∧ (v = 1 → M'.1 133 1 ≤ 39))) := by
 refine ⟨jr_X1_readLine, pj_X1_readLine, fun F c1 c2 c3 => ?_⟩
 have hm := pj_X1_readLine
 change F 0 [some (.inr (.inr (.inl 133))), some (.inr (.inr (.inl 1))), some (.inr (.inr (.inl 5))), none, none, none] [] M0
 have hF0 : Fr md_X1_readLine_133_1_5 M0 M0 := Fr.rf _ _
 refine jx_load c1 hm rfl rfl rfl rfl ?_
 obtain ⟨z1, k2, lz1, uz1⟩ := hH0.ld (c := 1) (i := 5) (A := 0) (B := 940) (bs_19_3 _ _ (by omega) (by omega))
 refine jx_geti c1 hm rfl sh_1 rfl k2 ?_
 refine jx_stor c1 hm (L' := [some (.inr (.inr (.inl 133))), some (.inr (.inr (.inl 1))), some (.inr (.inr (.inl 5))), some (.inl z1), none, none]) rfl rfl rfl rfl rfl ?_
 refine jx_load c1 hm rfl rfl rfl rfl ?_
 obtain ⟨z3, k4, lz3, uz3⟩ := hH0.ld (c := 1) (i := 7) (A := (-1)) (B := 23) (bs_19_5 _ _ (by omega) (by omega))
 refine jx_geti c1 hm rfl sh_1 rfl k4 ?_
 refine jx_stor c1 hm (L' := [some (.inr (.inr (.inl 133))), some (.inr (.inr (.inl 1))), some (.inr (.inr (.inl 5))), some (.inl z1), some (.inl z3), none]) rfl rfl rfl rfl rfl ?_
 refine jx_load c1 hm rfl rfl rfl rfl ?_
 refine jy_bp c1 hm rfl (by decide) ?_
 have J8 : ∀ (b7 : Int) (hb7 : 0 ≤ b7 ∧ b7 ≤ 1), F 30 [some (.inr (.inr (.inl 133))), some (.inr (.inr (.inl 1))), some (.inr (.inr (.inl 5))), some (.inl z1), some (.inl z3), none] [.inl b7] M0 := by
  intro b7 hb7
  refine jx_stor c1 hm (L' := [some (.inr (.inr (.inl 133))), some (.inr (.inr (.inl 1))), some (.inr (.inr (.inl 5))), some (.inl z1), some (.inl z3), some (.inl b7)]) rfl rfl rfl rfl rfl ?_
  refine jx_load c1 hm rfl rfl rfl rfl ?_
  refine jz_eq c1 hm 48 rfl rfl (fun h9 => ?_) (fun h9 => ?_)
  ·
   refine jx_load c1 hm rfl rfl rfl rfl ?_
   obtain ⟨z10, k11, lz10, uz10⟩ := hH0.ld (c := 133) (i := 1) (A := 0) (B := 40) (bs_27_1 _ _ (by omega) (by omega))
   refine jx_geti c1 hm rfl sh_133 rfl k11 ?_
   refine jy_bp c1 hm rfl (by decide) ?_
   refine jc_lt c1 hm 64 rfl rfl (fun h12 => ?_) (fun h12 => ?_)
   ·
    refine jx_load c1 hm rfl rfl rfl rfl ?_
    refine jz_eq c1 hm 80 rfl rfl (fun h13 => ?_) (fun h13 => ?_)
    ·
     refine jx_load c1 hm rfl rfl rfl rfl ?_
     refine jv_v c3 hm rfl pj_X10_next rfl rfl ⟨_, _, _, rfl, sh_1⟩ rfl ((ct_X10_next_1 X (by omega) M0 hH0 ).le (by decide)) (fun M14 ⟨hH14, hR14⟩ => ?_)
     have hF14 := hF0.tr hR14 (by decide +kernel)
     refine jx_load c1 hm rfl rfl rfl rfl ?_
     refine jy_bp c1 hm rfl (by decide) ?_
     refine jc_ne c1 hm 100 rfl rfl (fun h15 => ?_) (fun h15 => ?_)
     ·
      refine jx_load c1 hm rfl rfl rfl rfl ?_
      refine jy_ic c1 hm rfl (by decide) ?_
      refine jy_bp c1 hm rfl (by decide) ?_
      refine jv_i c3 hm rfl pj_X10_takesNumber rfl rfl ⟨_, _, _, rfl, sh_1⟩ rfl ((ct_X10_takesNumber_1 X (by omega) M14 hH14 1 ⟨by omega, by omega⟩ 60 ⟨by omega, by omega⟩).le (by decide)) (fun z16 M18 ⟨hH18, hR18, lz16, uz16, p17⟩ => ?_)
      have hF18 := hF14.tr hR18 (by decide +kernel)
      obtain ⟨z19, k20, lz19, uz19⟩ := hH18.ld (c := 1) (i := 11) (A := 0) (B := 999) (bs_19_7 _ _ (by omega) (by omega))
      refine jz_eq c1 hm 128 rfl rfl (fun h21 => ?_) (fun h21 => ?_)
      ·
       refine jy_ic c1 hm rfl (by decide) ?_
       have k22 : M18.1 133 1 = z10 := (hR18 133 1 (by decide +kernel)).trans ((hR14 133 1 (by decide +kernel)).trans k11)
       exact jx_retz c2 hm rfl rfl ⟨by omega, by omega⟩ ⟨_, rfl, hH18, hF18, by omega, by omega, (by omega)⟩
      refine jx_load c1 hm rfl rfl rfl rfl ?_
      refine jy_ic c1 hm rfl (by decide) ?_
      refine jy_ic c1 hm rfl (by decide) ?_
      refine jy_ic c1 hm rfl (by decide) ?_
      refine jx_load c1 hm rfl rfl rfl rfl ?_
      refine jx_geti c1 hm rfl sh_1 rfl k20 ?_
      refine jv_i c3 hm rfl pj_X1_add rfl rfl ⟨_, _, _, rfl, sh_133⟩ rfl ((ct_X1_add_133 X (by omega) M18 hH18 5 ⟨by omega, by omega⟩ 0 ⟨by omega, by omega⟩ 0 ⟨by omega, by omega⟩ z19 ⟨by omega, by omega⟩).le (by decide)) (fun z23 M24 ⟨hH24, hR24, lz23, uz23⟩ => ?_)
      have hF24 := hF18.tr hR24 (by decide +kernel)
      refine jz_eq c1 hm 128 rfl rfl (fun h25 => ?_) (fun h25 => ?_)
      ·
       refine jy_ic c1 hm rfl (by decide) ?_
       have k26 : M24.1 133 1 = z10 := (hR24 133 1 (by decide +kernel)).trans ((hR18 133 1 (by decide +kernel)).trans ((hR14 133 1 (by decide +kernel)).trans k11))
       exact jx_retz c2 hm rfl rfl ⟨by omega, by omega⟩ ⟨_, rfl, hH24, hF24, by omega, by omega, (by omega)⟩
      refine jy_ic c1 hm rfl (by decide) ?_
      refine jx_goto c1 hm 129 rfl rfl ?_
      have k27 : M24.1 133 1 = z10 := (hR24 133 1 (by decide +kernel)).trans ((hR18 133 1 (by decide +kernel)).trans ((hR14 133 1 (by decide +kernel)).trans k11))
      exact jx_retz c2 hm rfl rfl ⟨by omega, by omega⟩ ⟨_, rfl, hH24, hF24, by omega, by omega, (by omega)⟩
     refine jx_load c1 hm rfl rfl rfl rfl ?_
     refine jy_ic c1 hm rfl (by decide) ?_
     refine jy_ic c1 hm rfl (by decide) ?_
     refine jy_ic c1 hm rfl (by decide) ?_
     refine jy_ic c1 hm rfl (by decide) ?_
     refine jv_i c3 hm rfl pj_X1_add rfl rfl ⟨_, _, _, rfl, sh_133⟩ rfl ((ct_X1_add_133 X (by omega) M14 hH14 4 ⟨by omega, by omega⟩ 0 ⟨by omega, by omega⟩ 0 ⟨by omega, by omega⟩ 0 ⟨by omega, by omega⟩).le (by decide)) (fun z28 M29 ⟨hH29, hR29, lz28, uz28⟩ => ?_)
     have hF29 := hF14.tr hR29 (by decide +kernel)
     have k30 : M29.1 133 1 = z10 := (hR29 133 1 (by decide +kernel)).trans ((hR14 133 1 (by decide +kernel)).trans k11)
     exact jx_retz c2 hm rfl rfl ⟨by omega, by omega⟩ ⟨_, rfl, hH29, hF29, by omega, by omega, (by omega)⟩
    exfalso; omega
   refine jx_load c1 hm rfl rfl rfl rfl ?_
   refine jy_ic c1 hm rfl (by decide) ?_
   refine jx_load c1 hm rfl rfl rfl rfl ?_
   refine jv_i c3 hm rfl pj_X10_fails rfl rfl ⟨_, _, _, rfl, sh_1⟩ rfl ((ct_X10_fails_1 X (by omega) M0 hH0 4 ⟨by omega, by omega⟩ z1 ⟨by omega, by omega⟩).le (by decide)) (fun z31 M33 ⟨hH33, hR33, lz31, uz31, p32⟩ => ?_)
   have hF33 := hF0.tr hR33 (by decide +kernel)
   have k34 : M33.1 133 1 = z10 := (hR33 133 1 (by decide +kernel)).trans k11
   exact jx_retz c2 hm rfl rfl ⟨by omega, by omega⟩ ⟨_, rfl, hH33, hF33, by omega, by omega, (by omega)⟩
  refine jx_load c1 hm rfl rfl rfl rfl ?_
  refine jx_load c1 hm rfl rfl rfl rfl ?_
  refine jy_ic c1 hm rfl (by decide) ?_
  refine jv_i c3 hm rfl pj_X10_takesName rfl rfl ⟨_, _, _, rfl, sh_1⟩ rfl ((ct_X10_takesName_1_5 X (by omega) M0 hH0 0 ⟨by omega, by omega⟩).le (by decide)) (fun z35 M37 ⟨hH37, hR37, lz35, uz35, p36⟩ => ?_)
  have hF37 := hF0.tr hR37 (by decide +kernel)
  obtain ⟨z38, k39, lz38, uz38⟩ := hH37.ld (c := 1) (i := 11) (A := 0) (B := 999) (bs_19_7 _ _ (by omega) (by omega))
  refine jz_ne c1 hm 48 rfl rfl (fun h40 => ?_) (fun h40 => ?_)
  ·
   refine jx_load c1 hm rfl rfl rfl rfl ?_
   obtain ⟨z41, k42, lz41, uz41⟩ := hH37.ld (c := 133) (i := 1) (A := 0) (B := 40) (bs_27_1 _ _ (by omega) (by omega))
   refine jx_geti c1 hm rfl sh_133 rfl k42 ?_
   refine jy_bp c1 hm rfl (by decide) ?_
   refine jc_lt c1 hm 64 rfl rfl (fun h43 => ?_) (fun h43 => ?_)
   ·
    refine jx_load c1 hm rfl rfl rfl rfl ?_
    refine jz_eq c1 hm 80 rfl rfl (fun h44 => ?_) (fun h44 => ?_)
    ·
     exfalso; omega
    refine jx_load c1 hm rfl rfl rfl rfl ?_
    refine jx_load c1 hm rfl rfl rfl rfl ?_
    refine jx_load c1 hm rfl rfl rfl rfl ?_
    refine jx_load c1 hm rfl rfl rfl rfl ?_
    refine jx_geti c1 hm rfl sh_1 rfl k39 ?_
    refine jv_i c3 hm rfl pj_X1_readOfMan rfl rfl ⟨_, _, _, rfl, sh_133⟩ rfl ((ct_X1_readOfMan_133_1_5 X (by omega) M37 hH37 z38 ⟨by omega, by omega⟩).le (by decide)) (fun z45 M47 ⟨hH47, hR47, lz45, uz45, p46⟩ => ?_)
    have hF47 := hF37.tr hR47 (by decide +kernel)
    have k48 : M47.1 133 1 = z41 := (hR47 133 1 (by decide +kernel)).trans k42
    exact jx_retz c2 hm rfl rfl ⟨by omega, by omega⟩ ⟨_, rfl, hH47, hF47, by omega, by omega, (by omega)⟩
   refine jx_load c1 hm rfl rfl rfl rfl ?_
   refine jy_ic c1 hm rfl (by decide) ?_
   refine jx_load c1 hm rfl rfl rfl rfl ?_
   refine jv_i c3 hm rfl pj_X10_fails rfl rfl ⟨_, _, _, rfl, sh_1⟩ rfl ((ct_X10_fails_1 X (by omega) M37 hH37 4 ⟨by omega, by omega⟩ z1 ⟨by omega, by omega⟩).le (by decide)) (fun z49 M51 ⟨hH51, hR51, lz49, uz49, p50⟩ => ?_)
   have hF51 := hF37.tr hR51 (by decide +kernel)
   have k52 : M51.1 133 1 = z41 := (hR51 133 1 (by decide +kernel)).trans k42
   exact jx_retz c2 hm rfl rfl ⟨by omega, by omega⟩ ⟨_, rfl, hH51, hF51, by omega, by omega, (by omega)⟩
  refine jy_ic c1 hm rfl (by decide) ?_
  obtain ⟨z53, k54, lz53, uz53⟩ := hH37.ld (c := 133) (i := 1) (A := 0) (B := 40) (bs_27_1 _ _ (by omega) (by omega))
  exact jx_retz c2 hm rfl rfl ⟨by omega, by omega⟩ ⟨_, rfl, hH37, hF37, by omega, by omega, (by omega)⟩
 refine jc_eq c1 hm 29 rfl rfl (fun h5 => ?_) (fun h5 => ?_)
 ·
  refine jy_ic c1 hm rfl (by decide) ?_
  exact J8 0 (by omega)
 refine jx_load c1 hm rfl rfl rfl rfl ?_
 refine jy_bp c1 hm rfl (by decide) ?_
 refine jc_eq c1 hm 29 rfl rfl (fun h6 => ?_) (fun h6 => ?_)
 ·
  refine jy_ic c1 hm rfl (by decide) ?_
  exact J8 0 (by omega)
 refine jy_ic c1 hm rfl (by decide) ?_
 refine jx_goto c1 hm 30 rfl rfl ?_
 exact J8 1 (by omega)
def md_X1_readLines_133_1_5 : List (Nat × (Nat × Nat)) := [(1, (4, 4)), (1, (5, 5)), (1, (6, 6)), (1, (7, 7)), (1, (9, 9)), (1, (11, 11)), (1, (12, 12)), (1, (13, 13)), (133, (1, 1)), (134, (0, 159))]
theorem ct_X1_readLines_133_1_5 (X : Int) (hX : 0 ≤ X ∧ X ≤ 100000000) (M0 : JM) (hH0 : HI X M0)  : JOk shp PJ 6 210 [.inr (.inr (.inl 133)), .inr (.inr (.inl 1)), .inr (.inr (.inl 5))] M0 (jRi (fun v M' => HI X M' ∧ Fr md_X1_readLines_133_1_5 M0 M' ∧ 0 ≤ v ∧ v ≤ 1 )) := by
 refine ⟨jr_X1_readLines, pj_X1_readLines, fun F c1 c2 c3 => ?_⟩
 have hm := pj_X1_readLines
 change F 0 [some (.inr (.inr (.inl 133))), some (.inr (.inr (.inl 1))), some (.inr (.inr (.inl 5))), none] [] M0
 have hF0 : Fr md_X1_readLines_133_1_5 M0 M0 := Fr.rf _ _
 refine jx_load c1 hm rfl rfl rfl rfl ?_
 refine jy_ic c1 hm rfl (by decide) ?_
 obtain ⟨M1, e1, hH1, hF1, k1, n1, _⟩ := mup hH0 hF0 (c := 133) (i := 1) (v := 0) (A := 0) (B := 40) (bs_27_1 _ _ (by omega) (by omega)) ⟨by omega, by omega⟩ (jin_of 8 rfl ⟨by omega, by omega⟩)
 refine jm_puti c1 hm rfl sh_133 rfl e1 ?_
 refine jy_ic c1 hm rfl (by decide) ?_
 refine jx_stor c1 hm (L' := [some (.inr (.inr (.inl 133))), some (.inr (.inr (.inl 1))), some (.inr (.inr (.inl 5))), some (.inl 0)]) rfl rfl rfl rfl rfl ?_
 have W6 : ∀ (n7 : Nat) (b2 : Int) (hb2 : 0 ≤ b2 ∧ b2 ≤ 41) (M3 : JM) (hH3 : HI (X) M3) (hF3 : Fr md_X1_readLines_133_1_5 M0 M3) (b4 : Int) (hb4 : 0 ≤ b4 ∧ b4 ≤ 40) (k5 : M3.1 133 1 = b4), (-b2 + 41) < (n7 : Int) → F 7 [some (.inr (.inr (.inl 133))), some (.inr (.inr (.inl 1))), some (.inr (.inr (.inl 5))), some (.inl b2)] [] M3 := by
  intro n7
  induction n7 with
  | zero => intros; omega
  | succ n7 ihW6 =>
   intro b2 hb2 M3 hH3 hF3 b4 hb4 k5 hrW6
   refine jx_load c1 hm rfl rfl rfl rfl ?_
   refine jy_bp c1 hm rfl (by decide) ?_
   have J30 : F 61 [some (.inr (.inr (.inl 133))), some (.inr (.inr (.inl 1))), some (.inr (.inr (.inl 5))), some (.inl b2)] [] M3 := by
    refine jx_load c1 hm rfl rfl rfl rfl ?_
    obtain ⟨z31, k32, lz31, uz31⟩ := hH3.ld (c := 1) (i := 12) (A := 0) (B := 4) (bs_19_8 _ _ (by omega) (by omega))
    refine jx_geti c1 hm rfl sh_1 rfl k32 ?_
    refine jz_ne c1 hm 72 rfl rfl (fun h33 => ?_) (fun h33 => ?_)
    ·
     refine jy_ic c1 hm rfl (by decide) ?_
     exact jx_retz c2 hm rfl rfl ⟨by omega, by omega⟩ ⟨_, rfl, hH3, hF3, by omega, by omega⟩
    refine jy_ic c1 hm rfl (by decide) ?_
    refine jx_goto c1 hm 73 rfl rfl ?_
    exact jx_retz c2 hm rfl rfl ⟨by omega, by omega⟩ ⟨_, rfl, hH3, hF3, by omega, by omega⟩
   refine jc_gt c1 hm 61 rfl rfl (fun h8 => ?_) (fun h8 => ?_)
   ·
    exact J30 
   refine jx_load c1 hm rfl rfl rfl rfl ?_
   obtain ⟨z9, k10, lz9, uz9⟩ := hH3.ld (c := 1) (i := 12) (A := 0) (B := 4) (bs_19_8 _ _ (by omega) (by omega))
   refine jx_geti c1 hm rfl sh_1 rfl k10 ?_
   refine jz_ne c1 hm 61 rfl rfl (fun h11 => ?_) (fun h11 => ?_)
   ·
    exact J30 
   refine jx_load c1 hm rfl rfl rfl rfl ?_
   obtain ⟨z12, k13, lz12, uz12⟩ := hH3.ld (c := 1) (i := 6) (A := 0) (B := 4) (bs_19_4 _ _ (by omega) (by omega))
   refine jx_geti c1 hm rfl sh_1 rfl k13 ?_
   refine jz_eq c1 hm 61 rfl rfl (fun h14 => ?_) (fun h14 => ?_)
   ·
    exact J30 
   refine jx_load c1 hm rfl rfl rfl rfl ?_
   refine jx_load c1 hm rfl rfl rfl rfl ?_
   refine jx_load c1 hm rfl rfl rfl rfl ?_
   refine jv_i c3 hm rfl pj_X1_readLine rfl rfl ⟨_, _, _, rfl, sh_133⟩ rfl ((ct_X1_readLine_133_1_5 X (by omega) M3 hH3 ).le (by decide)) (fun z15 M17 ⟨hH17, hR17, lz15, uz15, p16⟩ => ?_)
   have hF17 := hF3.tr hR17 (by decide +kernel)
   have k18 : M17.1 133 1 = b4 := (hR17 133 1 (by decide +kernel)).trans k5
   have J29 : ∀ (M25 : JM) (hH25 : HI (X) M25) (hF25 : Fr md_X1_readLines_133_1_5 M0 M25) (b27 : Int) (hb27 : 0 ≤ b27 ∧ b27 ≤ 40) (k28 : M25.1 133 1 = b27), F 55 [some (.inr (.inr (.inl 133))), some (.inr (.inr (.inl 1))), some (.inr (.inr (.inl 5))), some (.inl b2)] [] M25 := by
    intro M25 hH25 hF25 b27 hb27 k28
    refine jx_iinc c1 hm (v := (b2 + 1)) (L' := [some (.inr (.inr (.inl 133))), some (.inr (.inr (.inl 1))), some (.inr (.inr (.inl 5))), some (.inl (b2 + 1))]) rfl rfl (by omega) (by omega) rfl ?_
    refine jx_goto c1 hm 7 rfl rfl ?_
    exact ihW6 (b2 + 1) (by omega) M25 hH25 hF25 b27 (by omega) k28 (by omega)
   refine jz_eq c1 hm 55 rfl rfl (fun h19 => ?_) (fun h19 => ?_)
   ·
    exact J29 M17 hH17 hF17 b4 (by omega) k18
   refine jx_load c1 hm rfl rfl rfl rfl ?_
   refine jy_bp c1 hm rfl (by decide) ?_
   refine jv_i c3 hm rfl pj_X10_takesSign rfl rfl ⟨_, _, _, rfl, sh_1⟩ rfl ((ct_X10_takesSign_1 X (by omega) M17 hH17 59 ⟨by omega, by omega⟩).le (by decide)) (fun z20 M21 ⟨hH21, hR21, lz20, uz20⟩ => ?_)
   have hF21 := hF17.tr hR21 (by decide +kernel)
   refine jz_eq c1 hm 55 rfl rfl (fun h22 => ?_) (fun h22 => ?_)
   ·
    have k26 : M21.1 133 1 = b4 := (hR21 133 1 (by decide +kernel)).trans k18
    exact J29 M21 hH21 hF21 b4 (by omega) k26
   refine jx_load c1 hm rfl rfl rfl rfl ?_
   refine jx_dup c1 hm rfl rfl ?_
   have k23 : M21.1 133 1 = b4 := (hR21 133 1 (by decide +kernel)).trans k18
   refine jx_geti c1 hm rfl sh_133 rfl k23 ?_
   refine jy_ic c1 hm rfl (by decide) ?_
   refine jy_add c1 hm (b4 + 1) rfl (by omega) ?_
   obtain ⟨M24, e24, hH24, hF24, k24, n24, _⟩ := mup hH21 hF21 (c := 133) (i := 1) (v := (b4 + 1)) (A := 0) (B := 40) (bs_27_1 _ _ (by omega) (by omega)) ⟨by omega, by omega⟩ (jin_of 8 rfl ⟨by omega, by omega⟩)
   refine jm_puti c1 hm rfl sh_133 rfl e24 ?_
   exact J29 M24 hH24 hF24 (b4 + 1) (by omega) k24
 exact W6 (41 + 1 : Int).toNat 0 (by omega) M1 hH1 hF1 0 (by omega) k1 (by omega)
theorem ct_X11_sum_49 (X : Int) (hX : 0 ≤ X ∧ X ≤ 100000000) (M0 : JM) (hH0 : HI X M0) (a0 : Int) (ha0 : 0 ≤ a0 ∧ a0 ≤ 36) (a1 : Int) (ha1 : 1 ≤ a1 ∧ a1 ≤ 6) (a2 : Int) (ha2 : 6 ≤ a2 ∧ a2 ≤ 36) : JOk shp PJ 1 68 [.inr (.inr (.inl 49)), .inl a0, .inl a1, .inl a2] M0 (jRi (fun v M' => M0 = M' ∧ (-2147483648) ≤ v ∧ v ≤ 2147483647 )) := by
 refine ⟨jr_X11_sum, pj_X11_sum, fun F c1 c2 c3 => ?_⟩
 have hm := pj_X11_sum
 change F 0 [some (.inr (.inr (.inl 49))), some (.inl a0), some (.inl a1), some (.inl a2), none, none, none] [] M0
 refine jy_ic c1 hm rfl (by decide) ?_
 refine jx_stor c1 hm (L' := [some (.inr (.inr (.inl 49))), some (.inl a0), some (.inl a1), some (.inl a2), some (.inl 0), none, none]) rfl rfl rfl rfl rfl ?_
 refine jy_ic c1 hm rfl (by decide) ?_
 refine jx_stor c1 hm (L' := [some (.inr (.inr (.inl 49))), some (.inl a0), some (.inl a1), some (.inl a2), some (.inl 0), some (.inl 0), none]) rfl rfl rfl rfl rfl ?_
 refine jx_load c1 hm rfl rfl rfl rfl ?_
 refine jx_stor c1 hm (L' := [some (.inr (.inr (.inl 49))), some (.inl a0), some (.inl a1), some (.inl a2), some (.inl 0), some (.inl 0), some (.inl a0)]) rfl rfl rfl rfl rfl ?_
 have W4 : ∀ (n5 : Nat) (b1 : Int) (hb1 : (-2147483648) ≤ b1 ∧ b1 ≤ 2147483647) (b2 : Int) (hb2 : 0 ≤ b2 ∧ b2 ≤ 36) (b3 : Int) (hb3 : 0 ≤ b3 ∧ b3 ≤ 36), (-b2 + 36) < (n5 : Int) → F 9 [some (.inr (.inr (.inl 49))), some (.inl a0), some (.inl a1), some (.inl a2), some (.inl b1), some (.inl b2), some (.inl b3)] [] M0 := by
  intro n5
  induction n5 with
  | zero => intros; omega
  | succ n5 ihW4 =>
   intro b1 hb1 b2 hb2 b3 hb3 hrW4
   refine jx_load c1 hm rfl rfl rfl rfl ?_
   refine jx_load c1 hm rfl rfl rfl rfl ?_
   refine jc_ge c1 hm 48 rfl rfl (fun h6 => ?_) (fun h6 => ?_)
   ·
    refine jx_load c1 hm rfl rfl rfl rfl ?_
    exact jx_reti c2 hm rfl rfl ⟨_, rfl, rfl, by omega, by omega⟩
   refine jx_load c1 hm rfl rfl rfl rfl ?_
   refine jz_lt c1 hm 48 rfl rfl (fun h7 => ?_) (fun h7 => ?_)
   ·
    exfalso; omega
   refine jx_load c1 hm rfl rfl rfl rfl ?_
   refine jx_load c1 hm rfl rfl rfl rfl ?_
   refine jx_alen c1 hm (v := 6) rfl sh_49 rfl rfl ?_
   refine jc_ge c1 hm 48 rfl rfl (fun h8 => ?_) (fun h8 => ?_)
   ·
    refine jx_load c1 hm rfl rfl rfl rfl ?_
    exact jx_reti c2 hm rfl rfl ⟨_, rfl, rfl, by omega, by omega⟩
   refine jx_load c1 hm rfl rfl rfl rfl ?_
   refine jx_load c1 hm rfl rfl rfl rfl ?_
   refine jx_load c1 hm rfl rfl rfl rfl ?_
   obtain ⟨z9, k10, lz9, uz9⟩ := hH0.ld (c := 49) (i := (b3).toNat) (A := (-2147483648)) (B := 2147483647) rfl
   refine jx_iald c1 hm rfl sh_49 ⟨by omega, by omega⟩ k10 ?_
   refine jx_iopw c1 hm rfl rfl (fun z11 lz11 uz11 => ?_)
   refine jx_stor c1 hm (L' := [some (.inr (.inr (.inl 49))), some (.inl a0), some (.inl a1), some (.inl a2), some (.inl z11), some (.inl b2), some (.inl b3)]) rfl rfl rfl rfl rfl ?_
   refine jx_iinc c1 hm (v := (b2 + 1)) (L' := [some (.inr (.inr (.inl 49))), some (.inl a0), some (.inl a1), some (.inl a2), some (.inl z11), some (.inl (b2 + 1)), some (.inl b3)]) rfl rfl (by omega) (by omega) rfl ?_
   refine jx_load c1 hm rfl rfl rfl rfl ?_
   refine jx_load c1 hm rfl rfl rfl rfl ?_
   refine jy_add c1 hm (a1 + b3) rfl (by omega) ?_
   refine jx_stor c1 hm (L' := [some (.inr (.inr (.inl 49))), some (.inl a0), some (.inl a1), some (.inl a2), some (.inl z11), some (.inl (b2 + 1)), some (.inl (a1 + b3))]) rfl rfl rfl rfl rfl ?_
   refine jx_goto c1 hm 9 rfl rfl ?_
   exact ihW4 z11 (by omega) (b2 + 1) (by omega) (a1 + b3) (by omega) (by omega)
 exact W4 (36 + 1 : Int).toNat 0 (by omega) 0 (by omega) a0 (by omega) (by omega)
theorem ct_X8_allCredit_47 (X : Int) (hX : 0 ≤ X ∧ X ≤ 100000000) (M0 : JM) (hH0 : HI X M0)  : JOk shp PJ 2 261 [.inr (.inr (.inl 47))] M0 (jRi (fun v M' => M0 = M' ∧ (-2147483648) ≤ v ∧ v ≤ 2147483647 )) := by
 refine ⟨jr_X8_allCredit, pj_X8_allCredit, fun F c1 c2 c3 => ?_⟩
 have hm := pj_X8_allCredit
 change F 0 [some (.inr (.inr (.inl 47)))] [] M0
 refine jx_load c1 hm rfl rfl rfl rfl ?_
 refine jx_getr c1 hm rfl sh_47 rfl ?_
 refine jy_ic c1 hm rfl (by decide) ?_
 refine jy_ic c1 hm rfl (by decide) ?_
 refine jy_bp c1 hm rfl (by decide) ?_
 refine jt_i c3 hm rfl rfl pj_X11_sum rfl rfl rfl ((ct_X11_sum_49 X (by omega) M0 hH0 0 ⟨by omega, by omega⟩ 1 ⟨by omega, by omega⟩ 6 ⟨by omega, by omega⟩).le (by decide)) (fun z1 _ ⟨rfl, lz1, uz1⟩ => ?_)
 exact jx_reti c2 hm rfl rfl ⟨_, rfl, rfl, by omega, by omega⟩
def md_X1_live_133_4_47 : List (Nat × (Nat × Nat)) := [(23, (1, 1)), (24, (0, 5)), (47, (7, 7)), (48, (0, 5)), (49, (0, 5)), (50, (0, 5)), (51, (0, 5)), (52, (0, 35)), (53, (0, 35)), (54, (0, 35)), (133, (3, 3)), (135, (0, 3))]
theorem ct_X1_live_133_4_47 (X : Int) (hX : 0 ≤ X ∧ X ≤ 99999960) (M0 : JM) (hH0 : HI X M0)  : JOk shp PJ 11 208 [.inr (.inr (.inl 133)), .inr (.inr (.inl 4)), .inr (.inr (.inl 47))] M0 (jRi (fun v M' => HI (X + 40) M' ∧ Fr md_X1_live_133_4_47 M0 M' ∧ (-1) ≤ v ∧ v ≤ 40 )) := by
 refine ⟨jr_X1_live, pj_X1_live, fun F c1 c2 c3 => ?_⟩
 have hm := pj_X1_live
 change F 0 [some (.inr (.inr (.inl 133))), some (.inr (.inr (.inl 4))), some (.inr (.inr (.inl 47))), none, none, none, none, none] [] M0
 have hF0 : Fr md_X1_live_133_4_47 M0 M0 := Fr.rf _ _
 refine jy_ic c1 hm rfl (by decide) ?_
 refine jx_stor c1 hm (L' := [some (.inr (.inr (.inl 133))), some (.inr (.inr (.inl 4))), some (.inr (.inr (.inl 47))), some (.inl 0), none, none, none, none]) rfl rfl rfl rfl rfl ?_
 refine jy_ic c1 hm rfl (by decide) ?_
 refine jx_stor c1 hm (L' := [some (.inr (.inr (.inl 133))), some (.inr (.inr (.inl 4))), some (.inr (.inr (.inl 47))), some (.inl 0), some (.inl 0), none, none, none]) rfl rfl rfl rfl rfl ?_
 refine jy_ic c1 hm rfl (by decide) ?_
 refine jx_stor c1 hm (L' := [some (.inr (.inr (.inl 133))), some (.inr (.inr (.inl 4))), some (.inr (.inr (.inl 47))), some (.inl 0), some (.inl 0), some (.inl 0), none, none]) rfl rfl rfl rfl rfl ?_
 have W8 : ∀ (n9 : Nat) (b1 : Int) (hb1 : 0 ≤ b1 ∧ b1 ≤ 59) (b2 : Int) (hb2 : 0 ≤ b2 ∧ b2 ≤ 40) (b3 : Int) (hb3 : 0 ≤ b3 ∧ b3 ≤ 40) (o4 : Option JV) (ho4 : o4 = none ∨ (∃ z, o4 = some (.inl z)) ∨ ∃ r, o4 = some (.inr (.inr r))) (o5 : Option JV) (ho5 : o5 = none ∨ (∃ z, o5 = some (.inl z)) ∨ ∃ r, o5 = some (.inr (.inr r))) (M6 : JM) (hH6 : HI (X + b3) M6) (hF6 : Fr md_X1_live_133_4_47 M0 M6) (h7 : b2 ≤ b3), (-b3 + 40) < (n9 : Int) → F 8 [some (.inr (.inr (.inl 133))), some (.inr (.inr (.inl 4))), some (.inr (.inr (.inl 47))), some (.inl b1), some (.inl b2), some (.inl b3), o4, o5] [] M6 := by
  intro n9
  induction n9 with
  | zero => intros; omega
  | succ n9 ihW8 =>
   intro b1 hb1 b2 hb2 b3 hb3 o4 ho4 o5 ho5 M6 hH6 hF6 h7 hrW8
   refine jx_load c1 hm rfl rfl rfl rfl ?_
   refine jx_load c1 hm rfl rfl rfl rfl ?_
   obtain ⟨z10, k11, lz10, uz10⟩ := hH6.ld (c := 133) (i := 1) (A := 0) (B := 40) (bs_27_1 _ _ (by omega) (by omega))
   refine jx_geti c1 hm rfl sh_133 rfl k11 ?_
   have J41 : F 130 [some (.inr (.inr (.inl 133))), some (.inr (.inr (.inl 4))), some (.inr (.inr (.inl 47))), some (.inl b1), some (.inl b2), some (.inl b3), o4, o5] [] M6 := by
    refine jx_load c1 hm rfl rfl rfl rfl ?_
    refine jx_getr c1 hm rfl sh_133 rfl ?_
    refine jy_ic c1 hm rfl (by decide) ?_
    refine jx_load c1 hm rfl rfl rfl rfl ?_
    obtain ⟨M42, e42, hH42, hF42, k42, n42, _⟩ := mup hH6 hF6 (c := 135) (i := 0) (v := b1) (A := (-2147483648)) (B := 2147483647) rfl ⟨by omega, by omega⟩ (jin_of 11 rfl ⟨by omega, by omega⟩)
    refine jm_iast c1 hm rfl sh_135 ⟨by omega, by omega⟩ e42 ?_
    refine jx_load c1 hm rfl rfl rfl rfl ?_
    refine jx_getr c1 hm rfl sh_133 rfl ?_
    refine jy_ic c1 hm rfl (by decide) ?_
    refine jx_load c1 hm rfl rfl rfl rfl ?_
    obtain ⟨M43, e43, hH43, hF43, k43, n43, _⟩ := mup hH42 hF42 (c := 135) (i := 1) (v := b2) (A := (-2147483648)) (B := 2147483647) rfl ⟨by omega, by omega⟩ (jin_of 11 rfl ⟨by omega, by omega⟩)
    refine jm_iast c1 hm rfl sh_135 ⟨by omega, by omega⟩ e43 ?_
    refine jx_load c1 hm rfl rfl rfl rfl ?_
    refine jx_getr c1 hm rfl sh_133 rfl ?_
    refine jy_ic c1 hm rfl (by decide) ?_
    refine jx_load c1 hm rfl rfl rfl rfl ?_
    obtain ⟨z44, k45, lz44, uz44⟩ := hH43.ld (c := 47) (i := 7) (A := (-2147483648)) (B := 2147483647) rfl
    refine jx_geti c1 hm rfl sh_47 rfl k45 ?_
    obtain ⟨M46, e46, hH46, hF46, k46, n46, _⟩ := mup hH43 hF43 (c := 135) (i := 2) (v := z44) (A := (-2147483648)) (B := 2147483647) rfl ⟨by omega, by omega⟩ (jin_of 11 rfl ⟨by omega, by omega⟩)
    refine jm_iast c1 hm rfl sh_135 ⟨by omega, by omega⟩ e46 ?_
    refine jx_load c1 hm rfl rfl rfl rfl ?_
    refine jx_getr c1 hm rfl sh_133 rfl ?_
    refine jy_ic c1 hm rfl (by decide) ?_
    refine jx_load c1 hm rfl rfl rfl rfl ?_
    refine jv_i c3 hm rfl pj_X8_allCredit rfl rfl ⟨_, _, _, rfl, sh_47⟩ rfl ((ct_X8_allCredit_47 (X + b3) (by omega) M46 hH46 ).le (by decide)) (fun z47 _ ⟨rfl, lz47, uz47⟩ => ?_)
    obtain ⟨M48, e48, hH48, hF48, k48, n48, _⟩ := mup hH46 hF46 (c := 135) (i := 3) (v := z47) (A := (-2147483648)) (B := 2147483647) rfl ⟨by omega, by omega⟩ (jin_of 11 rfl ⟨by omega, by omega⟩)
    refine jm_iast c1 hm rfl sh_135 ⟨by omega, by omega⟩ e48 ?_
    refine jx_load c1 hm rfl rfl rfl rfl ?_
    refine jy_ic c1 hm rfl (by decide) ?_
    obtain ⟨M49, e49, hH49, hF49, k49, n49, _⟩ := mup hH48 hF48 (c := 133) (i := 3) (v := 4) (A := 0) (B := 4) (bs_27_3 _ _ (by omega) (by omega)) ⟨by omega, by omega⟩ (jin_of 10 rfl ⟨by omega, by omega⟩)
    refine jm_puti c1 hm rfl sh_133 rfl e49 ?_
    refine jx_load c1 hm rfl rfl rfl rfl ?_
    refine jz_ne c1 hm 178 rfl rfl (fun h50 => ?_) (fun h50 => ?_)
    ·
     refine jx_load c1 hm rfl rfl rfl rfl ?_
     exact jx_reti c2 hm rfl rfl ⟨_, rfl, (hH49.mono (by omega) (by omega)), hF49, by omega, by omega⟩
    refine jy_ic c1 hm rfl (by decide) ?_
    refine jx_goto c1 hm 180 rfl rfl ?_
    exact jx_reti c2 hm rfl rfl ⟨_, rfl, (hH49.mono (by omega) (by omega)), hF49, by omega, by omega⟩
   refine jc_ge c1 hm 130 rfl rfl (fun h12 => ?_) (fun h12 => ?_)
   ·
    exact J41 
   refine jx_load c1 hm rfl rfl rfl rfl ?_
   refine jz_ne c1 hm 130 rfl rfl (fun h13 => ?_) (fun h13 => ?_)
   ·
    exact J41 
   refine jx_load c1 hm rfl rfl rfl rfl ?_
   refine jy_ic c1 hm rfl (by decide) ?_
   refine jy_mul c1 hm (4 * b3) rfl (by omega) ?_
   refine jx_stor c1 hm (L' := [some (.inr (.inr (.inl 133))), some (.inr (.inr (.inl 4))), some (.inr (.inr (.inl 47))), some (.inl b1), some (.inl b2), some (.inl b3), some (.inl (4 * b3)), o5]) rfl rfl rfl rfl rfl ?_
   refine jx_load c1 hm rfl rfl rfl rfl ?_
   refine jx_getr c1 hm rfl sh_133 rfl ?_
   refine jx_load c1 hm rfl rfl rfl rfl ?_
   obtain ⟨z14, k15, lz14, uz14⟩ := hH6.ld (c := 134) (i := ((4 * b3)).toNat) (A := 0) (B := 5) (bs_10_0 _ _ (by omega) (by omega))
   refine jx_iald c1 hm rfl sh_134 ⟨by omega, by omega⟩ k15 ?_
   refine jx_stor c1 hm (L' := [some (.inr (.inr (.inl 133))), some (.inr (.inr (.inl 4))), some (.inr (.inr (.inl 47))), some (.inl b1), some (.inl b2), some (.inl b3), some (.inl (4 * b3)), some (.inl z14)]) rfl rfl rfl rfl rfl ?_
   refine jx_load c1 hm rfl rfl rfl rfl ?_
   refine jx_load c1 hm rfl rfl rfl rfl ?_
   refine jx_load c1 hm rfl rfl rfl rfl ?_
   refine jx_load c1 hm rfl rfl rfl rfl ?_
   refine jx_getr c1 hm rfl sh_133 rfl ?_
   refine jx_load c1 hm rfl rfl rfl rfl ?_
   refine jy_ic c1 hm rfl (by decide) ?_
   refine jy_add c1 hm (4 * b3 + 1) rfl (by omega) ?_
   obtain ⟨z16, k17, lz16, uz16⟩ := hH6.ld (c := 134) (i := ((4 * b3 + 1)).toNat) (A := 0) (B := 5) (bs_10_0 _ _ (by omega) (by omega))
   refine jx_iald c1 hm rfl sh_134 ⟨by omega, by omega⟩ k17 ?_
   refine jx_load c1 hm rfl rfl rfl rfl ?_
   refine jx_getr c1 hm rfl sh_133 rfl ?_
   refine jx_load c1 hm rfl rfl rfl rfl ?_
   refine jy_ic c1 hm rfl (by decide) ?_
   refine jy_add c1 hm (4 * b3 + 2) rfl (by omega) ?_
   obtain ⟨z18, k19, lz18, uz18⟩ := hH6.ld (c := 134) (i := ((4 * b3 + 2)).toNat) (A := 0) (B := 5) (bs_10_0 _ _ (by omega) (by omega))
   refine jx_iald c1 hm rfl sh_134 ⟨by omega, by omega⟩ k19 ?_
   refine jx_load c1 hm rfl rfl rfl rfl ?_
   refine jx_getr c1 hm rfl sh_133 rfl ?_
   refine jx_load c1 hm rfl rfl rfl rfl ?_
   refine jy_ic c1 hm rfl (by decide) ?_
   refine jy_add c1 hm (4 * b3 + 3) rfl (by omega) ?_
   obtain ⟨z20, k21, lz20, uz20⟩ := hH6.ld (c := 134) (i := ((4 * b3 + 3)).toNat) (A := 0) (B := 99) (bs_10_1 _ _ (by omega) (by omega))
   refine jx_iald c1 hm rfl sh_134 ⟨by omega, by omega⟩ k21 ?_
   refine jv_i c3 hm rfl pj_X0_whyNot rfl rfl ⟨_, _, _, rfl, sh_4⟩ rfl ((ct_X0_whyNot_4_47 (X + b3) (by omega) M6 hH6 z14 ⟨by omega, by omega⟩ z16 ⟨by omega, by omega⟩ z18 ⟨by omega, by omega⟩ z20 ⟨by omega, by omega⟩).le (by decide)) (fun z22 M23 ⟨hH23, hR23, lz22, uz22⟩ => ?_)
   have hF23 := hF6.tr hR23 (by decide +kernel)
   refine jx_stor c1 hm (L' := [some (.inr (.inr (.inl 133))), some (.inr (.inr (.inl 4))), some (.inr (.inr (.inl 47))), some (.inl z22), some (.inl b2), some (.inl b3), some (.inl (4 * b3)), some (.inl z14)]) rfl rfl rfl rfl rfl ?_
   refine jx_load c1 hm rfl rfl rfl rfl ?_
   have J40 : ∀ (b33 : Int) (hb33 : 0 ≤ b33 ∧ b33 ≤ 52) (b34 : Int) (hb34 : 0 ≤ b34 ∧ b34 ≤ 41) (M35 : JM) (hH35 : HI (X + b3 + 1) M35) (hF35 : Fr md_X1_live_133_4_47 M0 M35) (k38 : M35.1 133 1 = z10) (h39 : b34 ≤ b3 + 1), F 124 [some (.inr (.inr (.inl 133))), some (.inr (.inr (.inl 4))), some (.inr (.inr (.inl 47))), some (.inl b33), some (.inl b34), some (.inl b3), some (.inl (4 * b3)), some (.inl z14)] [] M35 := by
    intro b33 hb33 b34 hb34 M35 hH35 hF35 k38 h39
    refine jx_iinc c1 hm (v := (b3 + 1)) (L' := [some (.inr (.inr (.inl 133))), some (.inr (.inr (.inl 4))), some (.inr (.inr (.inl 47))), some (.inl b33), some (.inl b34), some (.inl (b3 + 1)), some (.inl (4 * b3)), some (.inl z14)]) rfl rfl (by omega) (by omega) rfl ?_
    refine jx_goto c1 hm 8 rfl rfl ?_
    exact ihW8 b33 (by omega) b34 (by omega) (b3 + 1) (by omega) (some (.inl (4 * b3))) (Or.inr (Or.inl ⟨_, rfl⟩)) (some (.inl z14)) (Or.inr (Or.inl ⟨_, rfl⟩)) M35 (hH35.mono (by omega) (by omega)) hF35 (by omega) (by omega)
   refine jz_ne c1 hm 116 rfl rfl (fun h24 => ?_) (fun h24 => ?_)
   ·
    refine jx_load c1 hm rfl rfl rfl rfl ?_
    refine jy_bp c1 hm rfl (by decide) ?_
    refine jx_load c1 hm rfl rfl rfl rfl ?_
    refine jy_mul c1 hm (10 * z14) rfl (by omega) ?_
    refine jy_add c1 hm (10 * z14 + z22) rfl (by omega) ?_
    refine jx_stor c1 hm (L' := [some (.inr (.inr (.inl 133))), some (.inr (.inr (.inl 4))), some (.inr (.inr (.inl 47))), some (.inl (10 * z14 + z22)), some (.inl b2), some (.inl b3), some (.inl (4 * b3)), some (.inl z14)]) rfl rfl rfl rfl rfl ?_
    have k36 : M23.1 133 1 = z10 := (hR23 133 1 (by decide +kernel)).trans k11
    exact J40 (10 * z14 + z22) (by omega) b2 (by omega) M23 (hH23.mono (by omega) (by omega)) hF23 k36 (by omega)
   refine jx_load c1 hm rfl rfl rfl rfl ?_
   refine jx_load c1 hm rfl rfl rfl rfl ?_
   refine jx_load c1 hm rfl rfl rfl rfl ?_
   refine jx_load c1 hm rfl rfl rfl rfl ?_
   refine jx_getr c1 hm rfl sh_133 rfl ?_
   refine jx_load c1 hm rfl rfl rfl rfl ?_
   refine jy_ic c1 hm rfl (by decide) ?_
   refine jy_add c1 hm (4 * b3 + 1) rfl (by omega) ?_
   obtain ⟨z25, k26, lz25, uz25⟩ := hH23.ld (c := 134) (i := ((4 * b3 + 1)).toNat) (A := 0) (B := 5) (bs_10_0 _ _ (by omega) (by omega))
   refine jx_iald c1 hm rfl sh_134 ⟨by omega, by omega⟩ k26 ?_
   refine jx_load c1 hm rfl rfl rfl rfl ?_
   refine jx_getr c1 hm rfl sh_133 rfl ?_
   refine jx_load c1 hm rfl rfl rfl rfl ?_
   refine jy_ic c1 hm rfl (by decide) ?_
   refine jy_add c1 hm (4 * b3 + 2) rfl (by omega) ?_
   obtain ⟨z27, k28, lz27, uz27⟩ := hH23.ld (c := 134) (i := ((4 * b3 + 2)).toNat) (A := 0) (B := 5) (bs_10_0 _ _ (by omega) (by omega))
   refine jx_iald c1 hm rfl sh_134 ⟨by omega, by omega⟩ k28 ?_
   refine jx_load c1 hm rfl rfl rfl rfl ?_
   refine jx_getr c1 hm rfl sh_133 rfl ?_
   refine jx_load c1 hm rfl rfl rfl rfl ?_
   refine jy_ic c1 hm rfl (by decide) ?_
   refine jy_add c1 hm (4 * b3 + 3) rfl (by omega) ?_
   obtain ⟨z29, k30, lz29, uz29⟩ := hH23.ld (c := 134) (i := ((4 * b3 + 3)).toNat) (A := 0) (B := 99) (bs_10_1 _ _ (by omega) (by omega))
   refine jx_iald c1 hm rfl sh_134 ⟨by omega, by omega⟩ k30 ?_
   refine jv_i c3 hm rfl pj_X0_perform rfl rfl ⟨_, _, _, rfl, sh_4⟩ rfl ((ct_X0_perform_4_47 (X + b3) (by omega) M23 hH23 z14 ⟨by omega, by omega⟩ z25 ⟨by omega, by omega⟩ z27 ⟨by omega, by omega⟩ z29 ⟨by omega, by omega⟩).le (by decide)) (fun z31 M32 ⟨hH32, hR32, lz31, uz31⟩ => ?_)
   have hF32 := hF23.tr hR32 (by decide +kernel)
   refine jx_pop c1 hm rfl rfl ?_
   refine jx_iinc c1 hm (v := (b2 + 1)) (L' := [some (.inr (.inr (.inl 133))), some (.inr (.inr (.inl 4))), some (.inr (.inr (.inl 47))), some (.inl z22), some (.inl (b2 + 1)), some (.inl b3), some (.inl (4 * b3)), some (.inl z14)]) rfl rfl (by omega) (by omega) rfl ?_
   refine jx_goto c1 hm 124 rfl rfl ?_
   have k37 : M32.1 133 1 = z10 := (hR32 133 1 (by decide +kernel)).trans ((hR23 133 1 (by decide +kernel)).trans k11)
   exact J40 z22 (by omega) (b2 + 1) (by omega) M32 hH32 hF32 k37 (by omega)
 exact W8 (40 + 1 : Int).toNat 0 (by omega) 0 (by omega) 0 (by omega) none (Or.inl rfl) none (Or.inl rfl) M0 (hH0.mono (by omega) (by omega)) hF0 (by omega) (by omega)
def md_X1_live_133_4_12 : List (Nat × (Nat × Nat)) := [(12, (7, 7)), (13, (0, 5)), (14, (0, 5)), (15, (0, 5)), (16, (0, 5)), (17, (0, 35)), (18, (0, 35)), (19, (0, 35)), (23, (1, 1)), (24, (0, 5)), (133, (3, 3)), (135, (0, 3))]
theorem ct_X1_live_133_4_12 (X : Int) (hX : 0 ≤ X ∧ X ≤ 99999960) (M0 : JM) (hH0 : HI X M0)  : JOk shp PJ 11 208 [.inr (.inr (.inl 133)), .inr (.inr (.inl 4)), .inr (.inr (.inl 12))] M0 (jRi (fun v M' => HI (X + 40) M' ∧ Fr md_X1_live_133_4_12 M0 M' ∧ (-1) ≤ v ∧ v ≤ 40 )) := by
 refine ⟨jr_X1_live, pj_X1_live, fun F c1 c2 c3 => ?_⟩
 have hm := pj_X1_live
 change F 0 [some (.inr (.inr (.inl 133))), some (.inr (.inr (.inl 4))), some (.inr (.inr (.inl 12))), none, none, none, none, none] [] M0
 have hF0 : Fr md_X1_live_133_4_12 M0 M0 := Fr.rf _ _
 refine jy_ic c1 hm rfl (by decide) ?_
 refine jx_stor c1 hm (L' := [some (.inr (.inr (.inl 133))), some (.inr (.inr (.inl 4))), some (.inr (.inr (.inl 12))), some (.inl 0), none, none, none, none]) rfl rfl rfl rfl rfl ?_
 refine jy_ic c1 hm rfl (by decide) ?_
 refine jx_stor c1 hm (L' := [some (.inr (.inr (.inl 133))), some (.inr (.inr (.inl 4))), some (.inr (.inr (.inl 12))), some (.inl 0), some (.inl 0), none, none, none]) rfl rfl rfl rfl rfl ?_
 refine jy_ic c1 hm rfl (by decide) ?_
 refine jx_stor c1 hm (L' := [some (.inr (.inr (.inl 133))), some (.inr (.inr (.inl 4))), some (.inr (.inr (.inl 12))), some (.inl 0), some (.inl 0), some (.inl 0), none, none]) rfl rfl rfl rfl rfl ?_
 have W8 : ∀ (n9 : Nat) (b1 : Int) (hb1 : 0 ≤ b1 ∧ b1 ≤ 59) (b2 : Int) (hb2 : 0 ≤ b2 ∧ b2 ≤ 40) (b3 : Int) (hb3 : 0 ≤ b3 ∧ b3 ≤ 40) (o4 : Option JV) (ho4 : o4 = none ∨ (∃ z, o4 = some (.inl z)) ∨ ∃ r, o4 = some (.inr (.inr r))) (o5 : Option JV) (ho5 : o5 = none ∨ (∃ z, o5 = some (.inl z)) ∨ ∃ r, o5 = some (.inr (.inr r))) (M6 : JM) (hH6 : HI (X + b3) M6) (hF6 : Fr md_X1_live_133_4_12 M0 M6) (h7 : b2 ≤ b3), (-b3 + 40) < (n9 : Int) → F 8 [some (.inr (.inr (.inl 133))), some (.inr (.inr (.inl 4))), some (.inr (.inr (.inl 12))), some (.inl b1), some (.inl b2), some (.inl b3), o4, o5] [] M6 := by
  intro n9
  induction n9 with
  | zero => intros; omega
  | succ n9 ihW8 =>
   intro b1 hb1 b2 hb2 b3 hb3 o4 ho4 o5 ho5 M6 hH6 hF6 h7 hrW8
   refine jx_load c1 hm rfl rfl rfl rfl ?_
   refine jx_load c1 hm rfl rfl rfl rfl ?_
   obtain ⟨z10, k11, lz10, uz10⟩ := hH6.ld (c := 133) (i := 1) (A := 0) (B := 40) (bs_27_1 _ _ (by omega) (by omega))
   refine jx_geti c1 hm rfl sh_133 rfl k11 ?_
   have J41 : F 130 [some (.inr (.inr (.inl 133))), some (.inr (.inr (.inl 4))), some (.inr (.inr (.inl 12))), some (.inl b1), some (.inl b2), some (.inl b3), o4, o5] [] M6 := by
    refine jx_load c1 hm rfl rfl rfl rfl ?_
    refine jx_getr c1 hm rfl sh_133 rfl ?_
    refine jy_ic c1 hm rfl (by decide) ?_
    refine jx_load c1 hm rfl rfl rfl rfl ?_
    obtain ⟨M42, e42, hH42, hF42, k42, n42, _⟩ := mup hH6 hF6 (c := 135) (i := 0) (v := b1) (A := (-2147483648)) (B := 2147483647) rfl ⟨by omega, by omega⟩ (jin_of 11 rfl ⟨by omega, by omega⟩)
    refine jm_iast c1 hm rfl sh_135 ⟨by omega, by omega⟩ e42 ?_
    refine jx_load c1 hm rfl rfl rfl rfl ?_
    refine jx_getr c1 hm rfl sh_133 rfl ?_
    refine jy_ic c1 hm rfl (by decide) ?_
    refine jx_load c1 hm rfl rfl rfl rfl ?_
    obtain ⟨M43, e43, hH43, hF43, k43, n43, _⟩ := mup hH42 hF42 (c := 135) (i := 1) (v := b2) (A := (-2147483648)) (B := 2147483647) rfl ⟨by omega, by omega⟩ (jin_of 11 rfl ⟨by omega, by omega⟩)
    refine jm_iast c1 hm rfl sh_135 ⟨by omega, by omega⟩ e43 ?_
    refine jx_load c1 hm rfl rfl rfl rfl ?_
    refine jx_getr c1 hm rfl sh_133 rfl ?_
    refine jy_ic c1 hm rfl (by decide) ?_
    refine jx_load c1 hm rfl rfl rfl rfl ?_
    obtain ⟨z44, k45, lz44, uz44⟩ := hH43.ld (c := 12) (i := 7) (A := (-2147483648)) (B := 2147483647) rfl
    refine jx_geti c1 hm rfl sh_12 rfl k45 ?_
    obtain ⟨M46, e46, hH46, hF46, k46, n46, _⟩ := mup hH43 hF43 (c := 135) (i := 2) (v := z44) (A := (-2147483648)) (B := 2147483647) rfl ⟨by omega, by omega⟩ (jin_of 11 rfl ⟨by omega, by omega⟩)
    refine jm_iast c1 hm rfl sh_135 ⟨by omega, by omega⟩ e46 ?_
    refine jx_load c1 hm rfl rfl rfl rfl ?_
    refine jx_getr c1 hm rfl sh_133 rfl ?_
    refine jy_ic c1 hm rfl (by decide) ?_
    refine jx_load c1 hm rfl rfl rfl rfl ?_
    refine jv_i c3 hm rfl pj_X8_allCredit rfl rfl ⟨_, _, _, rfl, sh_12⟩ rfl ((ct_X8_allCredit_12 (X + b3) (by omega) M46 hH46 ).le (by decide)) (fun z47 _ ⟨rfl, lz47, uz47⟩ => ?_)
    obtain ⟨M48, e48, hH48, hF48, k48, n48, _⟩ := mup hH46 hF46 (c := 135) (i := 3) (v := z47) (A := (-2147483648)) (B := 2147483647) rfl ⟨by omega, by omega⟩ (jin_of 11 rfl ⟨by omega, by omega⟩)
    refine jm_iast c1 hm rfl sh_135 ⟨by omega, by omega⟩ e48 ?_
    refine jx_load c1 hm rfl rfl rfl rfl ?_
    refine jy_ic c1 hm rfl (by decide) ?_
    obtain ⟨M49, e49, hH49, hF49, k49, n49, _⟩ := mup hH48 hF48 (c := 133) (i := 3) (v := 4) (A := 0) (B := 4) (bs_27_3 _ _ (by omega) (by omega)) ⟨by omega, by omega⟩ (jin_of 10 rfl ⟨by omega, by omega⟩)
    refine jm_puti c1 hm rfl sh_133 rfl e49 ?_
    refine jx_load c1 hm rfl rfl rfl rfl ?_
    refine jz_ne c1 hm 178 rfl rfl (fun h50 => ?_) (fun h50 => ?_)
    ·
     refine jx_load c1 hm rfl rfl rfl rfl ?_
     exact jx_reti c2 hm rfl rfl ⟨_, rfl, (hH49.mono (by omega) (by omega)), hF49, by omega, by omega⟩
    refine jy_ic c1 hm rfl (by decide) ?_
    refine jx_goto c1 hm 180 rfl rfl ?_
    exact jx_reti c2 hm rfl rfl ⟨_, rfl, (hH49.mono (by omega) (by omega)), hF49, by omega, by omega⟩
   refine jc_ge c1 hm 130 rfl rfl (fun h12 => ?_) (fun h12 => ?_)
   ·
    exact J41 
   refine jx_load c1 hm rfl rfl rfl rfl ?_
   refine jz_ne c1 hm 130 rfl rfl (fun h13 => ?_) (fun h13 => ?_)
   ·
    exact J41 
   refine jx_load c1 hm rfl rfl rfl rfl ?_
   refine jy_ic c1 hm rfl (by decide) ?_
   refine jy_mul c1 hm (4 * b3) rfl (by omega) ?_
   refine jx_stor c1 hm (L' := [some (.inr (.inr (.inl 133))), some (.inr (.inr (.inl 4))), some (.inr (.inr (.inl 12))), some (.inl b1), some (.inl b2), some (.inl b3), some (.inl (4 * b3)), o5]) rfl rfl rfl rfl rfl ?_
   refine jx_load c1 hm rfl rfl rfl rfl ?_
   refine jx_getr c1 hm rfl sh_133 rfl ?_
   refine jx_load c1 hm rfl rfl rfl rfl ?_
   obtain ⟨z14, k15, lz14, uz14⟩ := hH6.ld (c := 134) (i := ((4 * b3)).toNat) (A := 0) (B := 5) (bs_10_0 _ _ (by omega) (by omega))
   refine jx_iald c1 hm rfl sh_134 ⟨by omega, by omega⟩ k15 ?_
   refine jx_stor c1 hm (L' := [some (.inr (.inr (.inl 133))), some (.inr (.inr (.inl 4))), some (.inr (.inr (.inl 12))), some (.inl b1), some (.inl b2), some (.inl b3), some (.inl (4 * b3)), some (.inl z14)]) rfl rfl rfl rfl rfl ?_
   refine jx_load c1 hm rfl rfl rfl rfl ?_
   refine jx_load c1 hm rfl rfl rfl rfl ?_
   refine jx_load c1 hm rfl rfl rfl rfl ?_
   refine jx_load c1 hm rfl rfl rfl rfl ?_
   refine jx_getr c1 hm rfl sh_133 rfl ?_
   refine jx_load c1 hm rfl rfl rfl rfl ?_
   refine jy_ic c1 hm rfl (by decide) ?_
   refine jy_add c1 hm (4 * b3 + 1) rfl (by omega) ?_
   obtain ⟨z16, k17, lz16, uz16⟩ := hH6.ld (c := 134) (i := ((4 * b3 + 1)).toNat) (A := 0) (B := 5) (bs_10_0 _ _ (by omega) (by omega))
   refine jx_iald c1 hm rfl sh_134 ⟨by omega, by omega⟩ k17 ?_
   refine jx_load c1 hm rfl rfl rfl rfl ?_
   refine jx_getr c1 hm rfl sh_133 rfl ?_
   refine jx_load c1 hm rfl rfl rfl rfl ?_
   refine jy_ic c1 hm rfl (by decide) ?_
   refine jy_add c1 hm (4 * b3 + 2) rfl (by omega) ?_
   obtain ⟨z18, k19, lz18, uz18⟩ := hH6.ld (c := 134) (i := ((4 * b3 + 2)).toNat) (A := 0) (B := 5) (bs_10_0 _ _ (by omega) (by omega))
   refine jx_iald c1 hm rfl sh_134 ⟨by omega, by omega⟩ k19 ?_
   refine jx_load c1 hm rfl rfl rfl rfl ?_
   refine jx_getr c1 hm rfl sh_133 rfl ?_
   refine jx_load c1 hm rfl rfl rfl rfl ?_
   refine jy_ic c1 hm rfl (by decide) ?_
   refine jy_add c1 hm (4 * b3 + 3) rfl (by omega) ?_
   obtain ⟨z20, k21, lz20, uz20⟩ := hH6.ld (c := 134) (i := ((4 * b3 + 3)).toNat) (A := 0) (B := 99) (bs_10_1 _ _ (by omega) (by omega))
   refine jx_iald c1 hm rfl sh_134 ⟨by omega, by omega⟩ k21 ?_
   refine jv_i c3 hm rfl pj_X0_whyNot rfl rfl ⟨_, _, _, rfl, sh_4⟩ rfl ((ct_X0_whyNot_4_12 (X + b3) (by omega) M6 hH6 z14 ⟨by omega, by omega⟩ z16 ⟨by omega, by omega⟩ z18 ⟨by omega, by omega⟩ z20 ⟨by omega, by omega⟩).le (by decide)) (fun z22 M23 ⟨hH23, hR23, lz22, uz22⟩ => ?_)
   have hF23 := hF6.tr hR23 (by decide +kernel)
   refine jx_stor c1 hm (L' := [some (.inr (.inr (.inl 133))), some (.inr (.inr (.inl 4))), some (.inr (.inr (.inl 12))), some (.inl z22), some (.inl b2), some (.inl b3), some (.inl (4 * b3)), some (.inl z14)]) rfl rfl rfl rfl rfl ?_
   refine jx_load c1 hm rfl rfl rfl rfl ?_
   have J40 : ∀ (b33 : Int) (hb33 : 0 ≤ b33 ∧ b33 ≤ 52) (b34 : Int) (hb34 : 0 ≤ b34 ∧ b34 ≤ 41) (M35 : JM) (hH35 : HI (X + b3 + 1) M35) (hF35 : Fr md_X1_live_133_4_12 M0 M35) (k38 : M35.1 133 1 = z10) (h39 : b34 ≤ b3 + 1), F 124 [some (.inr (.inr (.inl 133))), some (.inr (.inr (.inl 4))), some (.inr (.inr (.inl 12))), some (.inl b33), some (.inl b34), some (.inl b3), some (.inl (4 * b3)), some (.inl z14)] [] M35 := by
    intro b33 hb33 b34 hb34 M35 hH35 hF35 k38 h39
    refine jx_iinc c1 hm (v := (b3 + 1)) (L' := [some (.inr (.inr (.inl 133))), some (.inr (.inr (.inl 4))), some (.inr (.inr (.inl 12))), some (.inl b33), some (.inl b34), some (.inl (b3 + 1)), some (.inl (4 * b3)), some (.inl z14)]) rfl rfl (by omega) (by omega) rfl ?_
    refine jx_goto c1 hm 8 rfl rfl ?_
    exact ihW8 b33 (by omega) b34 (by omega) (b3 + 1) (by omega) (some (.inl (4 * b3))) (Or.inr (Or.inl ⟨_, rfl⟩)) (some (.inl z14)) (Or.inr (Or.inl ⟨_, rfl⟩)) M35 (hH35.mono (by omega) (by omega)) hF35 (by omega) (by omega)
   refine jz_ne c1 hm 116 rfl rfl (fun h24 => ?_) (fun h24 => ?_)
   ·
    refine jx_load c1 hm rfl rfl rfl rfl ?_
    refine jy_bp c1 hm rfl (by decide) ?_
    refine jx_load c1 hm rfl rfl rfl rfl ?_
    refine jy_mul c1 hm (10 * z14) rfl (by omega) ?_
    refine jy_add c1 hm (10 * z14 + z22) rfl (by omega) ?_
    refine jx_stor c1 hm (L' := [some (.inr (.inr (.inl 133))), some (.inr (.inr (.inl 4))), some (.inr (.inr (.inl 12))), some (.inl (10 * z14 + z22)), some (.inl b2), some (.inl b3), some (.inl (4 * b3)), some (.inl z14)]) rfl rfl rfl rfl rfl ?_
    have k36 : M23.1 133 1 = z10 := (hR23 133 1 (by decide +kernel)).trans k11
    exact J40 (10 * z14 + z22) (by omega) b2 (by omega) M23 (hH23.mono (by omega) (by omega)) hF23 k36 (by omega)
   refine jx_load c1 hm rfl rfl rfl rfl ?_
   refine jx_load c1 hm rfl rfl rfl rfl ?_
   refine jx_load c1 hm rfl rfl rfl rfl ?_
   refine jx_load c1 hm rfl rfl rfl rfl ?_
   refine jx_getr c1 hm rfl sh_133 rfl ?_
   refine jx_load c1 hm rfl rfl rfl rfl ?_
   refine jy_ic c1 hm rfl (by decide) ?_
   refine jy_add c1 hm (4 * b3 + 1) rfl (by omega) ?_
   obtain ⟨z25, k26, lz25, uz25⟩ := hH23.ld (c := 134) (i := ((4 * b3 + 1)).toNat) (A := 0) (B := 5) (bs_10_0 _ _ (by omega) (by omega))
   refine jx_iald c1 hm rfl sh_134 ⟨by omega, by omega⟩ k26 ?_
   refine jx_load c1 hm rfl rfl rfl rfl ?_
   refine jx_getr c1 hm rfl sh_133 rfl ?_
   refine jx_load c1 hm rfl rfl rfl rfl ?_
   refine jy_ic c1 hm rfl (by decide) ?_
   refine jy_add c1 hm (4 * b3 + 2) rfl (by omega) ?_
   obtain ⟨z27, k28, lz27, uz27⟩ := hH23.ld (c := 134) (i := ((4 * b3 + 2)).toNat) (A := 0) (B := 5) (bs_10_0 _ _ (by omega) (by omega))
   refine jx_iald c1 hm rfl sh_134 ⟨by omega, by omega⟩ k28 ?_
   refine jx_load c1 hm rfl rfl rfl rfl ?_
   refine jx_getr c1 hm rfl sh_133 rfl ?_
   refine jx_load c1 hm rfl rfl rfl rfl ?_
   refine jy_ic c1 hm rfl (by decide) ?_
   refine jy_add c1 hm (4 * b3 + 3) rfl (by omega) ?_
   obtain ⟨z29, k30, lz29, uz29⟩ := hH23.ld (c := 134) (i := ((4 * b3 + 3)).toNat) (A := 0) (B := 99) (bs_10_1 _ _ (by omega) (by omega))
   refine jx_iald c1 hm rfl sh_134 ⟨by omega, by omega⟩ k30 ?_
   refine jv_i c3 hm rfl pj_X0_perform rfl rfl ⟨_, _, _, rfl, sh_4⟩ rfl ((ct_X0_perform_4_12 (X + b3) (by omega) M23 hH23 z14 ⟨by omega, by omega⟩ z25 ⟨by omega, by omega⟩ z27 ⟨by omega, by omega⟩ z29 ⟨by omega, by omega⟩).le (by decide)) (fun z31 M32 ⟨hH32, hR32, lz31, uz31⟩ => ?_)
   have hF32 := hF23.tr hR32 (by decide +kernel)
   refine jx_pop c1 hm rfl rfl ?_
   refine jx_iinc c1 hm (v := (b2 + 1)) (L' := [some (.inr (.inr (.inl 133))), some (.inr (.inr (.inl 4))), some (.inr (.inr (.inl 12))), some (.inl z22), some (.inl (b2 + 1)), some (.inl b3), some (.inl (4 * b3)), some (.inl z14)]) rfl rfl (by omega) (by omega) rfl ?_
   refine jx_goto c1 hm 124 rfl rfl ?_
   have k37 : M32.1 133 1 = z10 := (hR32 133 1 (by decide +kernel)).trans ((hR23 133 1 (by decide +kernel)).trans k11)
   exact J40 z22 (by omega) (b2 + 1) (by omega) M32 hH32 hF32 k37 (by omega)
 exact W8 (40 + 1 : Int).toNat 0 (by omega) 0 (by omega) 0 (by omega) none (Or.inl rfl) none (Or.inl rfl) M0 (hH0.mono (by omega) (by omega)) hF0 (by omega) (by omega)
def md_X11_book_0 : List (Nat × (Nat × Nat)) := [(0, (2, 2)), (0, (3, 3)), (1, (2, 2)), (1, (3, 3)), (1, (4, 4)), (1, (5, 5)), (1, (6, 6)), (1, (7, 7)), (1, (9, 9)), (1, (11, 11)), (1, (12, 12)), (1, (13, 13)), (12, (7, 7)), (13, (0, 5)), (14, (0, 5)), (15, (0, 5)), (16, (0, 5)), (17, (0, 35)), (18, (0, 35)), (19, (0, 35)), (23, (1, 1)), (24, (0, 5)), (47, (7, 7)), (48, (0, 5)), (49, (0, 5)), (50, (0, 5)), (51, (0, 5)), (52, (0, 35)), (53, (0, 35)), (54, (0, 35)), (55, (1, 1)), (55, (2, 2)), (57, (7, 7)), (58, (0, 5)), (59, (0, 5)), (60, (0, 5)), (61, (0, 5)), (62, (0, 35)), (63, (0, 35)), (64, (0, 35)), (65, (7, 7)), (66, (0, 5)), (67, (0, 5)), (68, (0, 5)), (69, (0, 5)), (70, (0, 35)), (71, (0, 35)), (72, (0, 35)), (73, (7, 7)), (74, (0, 5)), (75, (0, 5)), (76, (0, 5)), (77, (0, 5)), (78, (0, 35)), (79, (0, 35)), (80, (0, 35)), (81, (7, 7)), (82, (0, 5)), (83, (0, 5)), (84, (0, 5)), (85, (0, 5)), (86, (0, 35)), (87, (0, 35)), (88, (0, 35)), (89, (7, 7)), (90, (0, 5)), (91, (0, 5)), (92, (0, 5)), (93, (0, 5)), (94, (0, 35)), (95, (0, 35)), (96, (0, 35)), (97, (7, 7)), (98, (0, 5)), (99, (0, 5)), (100, (0, 5)), (101, (0, 5)), (102, (0, 35)), (103, (0, 35)), (104, (0, 35)), (105, (7, 7)), (106, (0, 5)), (107, (0, 5)), (108, (0, 5)), (109, (0, 5)), (110, (0, 35)), (111, (0, 35)), (112, (0, 35)), (113, (7, 7)), (114, (0, 5)), (115, (0, 5)), (116, (0, 5)), (117, (0, 5)), (118, (0, 35)), (119, (0, 35)), (120, (0, 35)), (133, (1, 1)), (133, (3, 3)), (134, (0, 159)), (135, (0, 3))]
theorem ct_X11_book_0 (X : Int) (hX : 0 ≤ X ∧ X ≤ 99999960) (M0 : JM) (hH0 : HI X M0) (a0 : Int) (ha0 : (-2147483648) ≤ a0 ∧ a0 ≤ 2147483647) : JOk shp PJ 12 25 [.inr (.inr (.inl 0)), .inl a0] M0 (jRi (fun v M' => HI (X + 40) M' ∧ Fr md_X11_book_0 M0 M' ∧ (-1000) ≤ v ∧ v ≤ 40 )) := by
 refine ⟨jr_X11_book, pj_X11_book, fun F c1 c2 c3 => ?_⟩
 have hm := pj_X11_book
 change F 0 [some (.inr (.inr (.inl 0))), some (.inl a0), none] [] M0
 have hF0 : Fr md_X11_book_0 M0 M0 := Fr.rf _ _
 refine jx_load c1 hm rfl rfl rfl rfl ?_
 refine jz_eq c1 hm 13 rfl rfl (fun h1 => ?_) (fun h1 => ?_)
 ·
  refine jx_load c1 hm rfl rfl rfl rfl ?_
  refine jy_sp c1 hm rfl (by decide) ?_
  refine jv_v c3 hm rfl pj_X11_startTokens rfl rfl ⟨_, _, _, rfl, sh_0⟩ rfl ((ct_X11_startTokens_0 X (by omega) M0 hH0 400 ⟨by omega, by omega⟩).le (by decide)) (fun M2 ⟨hH2, hR2⟩ => ?_)
  have hF2 := hF0.tr hR2 (by decide +kernel)
  refine jx_load c1 hm rfl rfl rfl rfl ?_
  refine jx_getr c1 hm rfl sh_0 rfl ?_
  refine jx_load c1 hm rfl rfl rfl rfl ?_
  refine jx_getr c1 hm rfl sh_0 rfl ?_
  refine jx_load c1 hm rfl rfl rfl rfl ?_
  refine jx_getr c1 hm rfl sh_0 rfl ?_
  refine jv_i c3 hm rfl pj_X1_readLines rfl rfl ⟨_, _, _, rfl, sh_133⟩ rfl ((ct_X1_readLines_133_1_5 X (by omega) M2 hH2 ).le (by decide)) (fun z3 M4 ⟨hH4, hR4, lz3, uz3⟩ => ?_)
  have hF4 := hF2.tr hR4 (by decide +kernel)
  refine jx_stor c1 hm (L' := [some (.inr (.inr (.inl 0))), some (.inl a0), some (.inl z3)]) rfl rfl rfl rfl rfl ?_
  refine jx_load c1 hm rfl rfl rfl rfl ?_
  refine jx_load c1 hm rfl rfl rfl rfl ?_
  refine jx_getr c1 hm rfl sh_0 rfl ?_
  obtain ⟨z5, k6, lz5, uz5⟩ := hH4.ld (c := 1) (i := 12) (A := 0) (B := 4) (bs_19_8 _ _ (by omega) (by omega))
  refine jx_geti c1 hm rfl sh_1 rfl k6 ?_
  obtain ⟨M7, e7, hH7, hF7, k7, n7, _⟩ := mup hH4 hF4 (c := 0) (i := 3) (v := z5) (A := (-2147483648)) (B := 2147483647) (bs_18_2 _ _ (by omega) (by omega)) ⟨by omega, by omega⟩ (jin_of 1 rfl ⟨by omega, by omega⟩)
  refine jm_puti c1 hm rfl sh_0 rfl e7 ?_
  refine jx_load c1 hm rfl rfl rfl rfl ?_
  refine jz_ne c1 hm 62 rfl rfl (fun h8 => ?_) (fun h8 => ?_)
  ·
   refine jx_load c1 hm rfl rfl rfl rfl ?_
   refine jy_ic c1 hm rfl (by decide) ?_
   refine jc_ne c1 hm 100 rfl rfl (fun h9 => ?_) (fun h9 => ?_)
   ·
    refine jx_load c1 hm rfl rfl rfl rfl ?_
    refine jx_getr c1 hm rfl sh_0 rfl ?_
    refine jx_load c1 hm rfl rfl rfl rfl ?_
    refine jx_getr c1 hm rfl sh_0 rfl ?_
    refine jx_getr c1 hm rfl sh_5 rfl ?_
    refine jv_v c3 hm rfl pj_X8_takeAll rfl rfl ⟨_, _, _, rfl, sh_47⟩ rfl ((ct_X8_takeAll_47_12 X (by omega) M7 hH7 ).le (by decide)) (fun M10 ⟨hH10, hR10⟩ => ?_)
    have hF10 := hF7.tr hR10 (by decide +kernel)
    refine jx_load c1 hm rfl rfl rfl rfl ?_
    refine jx_getr c1 hm rfl sh_0 rfl ?_
    refine jx_load c1 hm rfl rfl rfl rfl ?_
    refine jx_getr c1 hm rfl sh_0 rfl ?_
    refine jx_load c1 hm rfl rfl rfl rfl ?_
    refine jx_getr c1 hm rfl sh_0 rfl ?_
    refine jv_i c3 hm rfl pj_X1_live rfl rfl ⟨_, _, _, rfl, sh_133⟩ rfl ((ct_X1_live_133_4_47 X (by omega) M10 hH10 ).le (by decide)) (fun z11 M12 ⟨hH12, hR12, lz11, uz11⟩ => ?_)
    have hF12 := hF10.tr hR12 (by decide +kernel)
    exact jx_reti c2 hm rfl rfl ⟨_, rfl, hH12, hF12, by omega, by omega⟩
   exfalso; omega
  refine jy_bp c1 hm rfl (by decide) ?_
  refine jx_load c1 hm rfl rfl rfl rfl ?_
  refine jx_getr c1 hm rfl sh_0 rfl ?_
  obtain ⟨z13, k14, lz13, uz13⟩ := hH7.ld (c := 1) (i := 13) (A := 0) (B := 940) (bs_19_9 _ _ (by omega) (by omega))
  refine jx_geti c1 hm rfl sh_1 rfl k14 ?_
  refine jy_sub c1 hm (-z13 - 2) rfl (by omega) ?_
  exact jx_reti c2 hm rfl rfl ⟨_, rfl, (hH7.mono (by omega) (by omega)), hF7, by omega, by omega⟩
 refine jx_load c1 hm rfl rfl rfl rfl ?_
 refine jy_ic c1 hm rfl (by decide) ?_
 refine jc_eq c1 hm 13 rfl rfl (fun h15 => ?_) (fun h15 => ?_)
 ·
  refine jx_load c1 hm rfl rfl rfl rfl ?_
  refine jy_sp c1 hm rfl (by decide) ?_
  refine jv_v c3 hm rfl pj_X11_startTokens rfl rfl ⟨_, _, _, rfl, sh_0⟩ rfl ((ct_X11_startTokens_0 X (by omega) M0 hH0 400 ⟨by omega, by omega⟩).le (by decide)) (fun M16 ⟨hH16, hR16⟩ => ?_)
  have hF16 := hF0.tr hR16 (by decide +kernel)
  refine jx_load c1 hm rfl rfl rfl rfl ?_
  refine jx_getr c1 hm rfl sh_0 rfl ?_
  refine jx_load c1 hm rfl rfl rfl rfl ?_
  refine jx_getr c1 hm rfl sh_0 rfl ?_
  refine jx_load c1 hm rfl rfl rfl rfl ?_
  refine jx_getr c1 hm rfl sh_0 rfl ?_
  refine jv_i c3 hm rfl pj_X1_readLines rfl rfl ⟨_, _, _, rfl, sh_133⟩ rfl ((ct_X1_readLines_133_1_5 X (by omega) M16 hH16 ).le (by decide)) (fun z17 M18 ⟨hH18, hR18, lz17, uz17⟩ => ?_)
  have hF18 := hF16.tr hR18 (by decide +kernel)
  refine jx_stor c1 hm (L' := [some (.inr (.inr (.inl 0))), some (.inl a0), some (.inl z17)]) rfl rfl rfl rfl rfl ?_
  refine jx_load c1 hm rfl rfl rfl rfl ?_
  refine jx_load c1 hm rfl rfl rfl rfl ?_
  refine jx_getr c1 hm rfl sh_0 rfl ?_
  obtain ⟨z19, k20, lz19, uz19⟩ := hH18.ld (c := 1) (i := 12) (A := 0) (B := 4) (bs_19_8 _ _ (by omega) (by omega))
  refine jx_geti c1 hm rfl sh_1 rfl k20 ?_
  obtain ⟨M21, e21, hH21, hF21, k21, n21, _⟩ := mup hH18 hF18 (c := 0) (i := 3) (v := z19) (A := (-2147483648)) (B := 2147483647) (bs_18_2 _ _ (by omega) (by omega)) ⟨by omega, by omega⟩ (jin_of 1 rfl ⟨by omega, by omega⟩)
  refine jm_puti c1 hm rfl sh_0 rfl e21 ?_
  refine jx_load c1 hm rfl rfl rfl rfl ?_
  refine jz_ne c1 hm 62 rfl rfl (fun h22 => ?_) (fun h22 => ?_)
  ·
   refine jx_load c1 hm rfl rfl rfl rfl ?_
   refine jy_ic c1 hm rfl (by decide) ?_
   refine jc_ne c1 hm 100 rfl rfl (fun h23 => ?_) (fun h23 => ?_)
   ·
    exfalso; omega
   refine jx_load c1 hm rfl rfl rfl rfl ?_
   refine jx_getr c1 hm rfl sh_0 rfl ?_
   refine jx_load c1 hm rfl rfl rfl rfl ?_
   refine jx_getr c1 hm rfl sh_0 rfl ?_
   refine jx_getr c1 hm rfl sh_5 rfl ?_
   refine jv_v c3 hm rfl pj_X4_keep rfl rfl ⟨_, _, _, rfl, sh_55⟩ rfl ((ct_X4_keep_55_12 X (by omega) M21 hH21 ).le (by decide)) (fun M24 ⟨hH24, hR24⟩ => ?_)
   have hF24 := hF21.tr hR24 (by decide +kernel)
   refine jx_load c1 hm rfl rfl rfl rfl ?_
   refine jx_getr c1 hm rfl sh_0 rfl ?_
   refine jx_load c1 hm rfl rfl rfl rfl ?_
   refine jx_getr c1 hm rfl sh_0 rfl ?_
   refine jx_load c1 hm rfl rfl rfl rfl ?_
   refine jx_getr c1 hm rfl sh_0 rfl ?_
   refine jx_getr c1 hm rfl sh_5 rfl ?_
   refine jv_i c3 hm rfl pj_X1_live rfl rfl ⟨_, _, _, rfl, sh_133⟩ rfl ((ct_X1_live_133_4_12 X (by omega) M24 hH24 ).le (by decide)) (fun z25 M26 ⟨hH26, hR26, lz25, uz25⟩ => ?_)
   have hF26 := hF24.tr hR26 (by decide +kernel)
   exact jx_reti c2 hm rfl rfl ⟨_, rfl, hH26, hF26, by omega, by omega⟩
  refine jy_bp c1 hm rfl (by decide) ?_
  refine jx_load c1 hm rfl rfl rfl rfl ?_
  refine jx_getr c1 hm rfl sh_0 rfl ?_
  obtain ⟨z27, k28, lz27, uz27⟩ := hH21.ld (c := 1) (i := 13) (A := 0) (B := 940) (bs_19_9 _ _ (by omega) (by omega))
  refine jx_geti c1 hm rfl sh_1 rfl k28 ?_
  refine jy_sub c1 hm (-z27 - 2) rfl (by omega) ?_
  exact jx_reti c2 hm rfl rfl ⟨_, rfl, (hH21.mono (by omega) (by omega)), hF21, by omega, by omega⟩
 refine jy_sp c1 hm rfl (by decide) ?_
 exact jx_reti c2 hm rfl rfl ⟨_, rfl, (hH0.mono (by omega) (by omega)), hF0, by omega, by omega⟩
theorem ct_X11_told_0 (X : Int) (hX : 0 ≤ X ∧ X ≤ 100000000) (M0 : JM) (hH0 : HI X M0) (a0 : Int) (ha0 : (-2147483648) ≤ a0 ∧ a0 ≤ 2147483647) : JOk shp PJ 1 73 [.inr (.inr (.inl 0)), .inl a0] M0 (jRi (fun v M' => M0 = M' ∧ (-2147483648) ≤ v ∧ v ≤ 2147483647 )) := by
 refine ⟨jr_X11_told, pj_X11_told, fun F c1 c2 c3 => ?_⟩
 have hm := pj_X11_told
 change F 0 [some (.inr (.inr (.inl 0))), some (.inl a0)] [] M0
 refine jx_load c1 hm rfl rfl rfl rfl ?_
 refine jz_lt c1 hm 27 rfl rfl (fun h1 => ?_) (fun h1 => ?_)
 ·
  refine jy_ic c1 hm rfl (by decide) ?_
  exact jx_reti c2 hm rfl rfl ⟨_, rfl, rfl, by omega, by omega⟩
 refine jx_load c1 hm rfl rfl rfl rfl ?_
 refine jx_load c1 hm rfl rfl rfl rfl ?_
 refine jx_getr c1 hm rfl sh_0 rfl ?_
 obtain ⟨z2, k3, lz2, uz2⟩ := hH0.ld (c := 133) (i := 3) (A := 0) (B := 4) (bs_27_3 _ _ (by omega) (by omega))
 refine jx_geti c1 hm rfl sh_133 rfl k3 ?_
 refine jc_ge c1 hm 27 rfl rfl (fun h4 => ?_) (fun h4 => ?_)
 ·
  refine jy_ic c1 hm rfl (by decide) ?_
  exact jx_reti c2 hm rfl rfl ⟨_, rfl, rfl, by omega, by omega⟩
 refine jx_load c1 hm rfl rfl rfl rfl ?_
 refine jx_getr c1 hm rfl sh_0 rfl ?_
 refine jx_getr c1 hm rfl sh_133 rfl ?_
 refine jx_load c1 hm rfl rfl rfl rfl ?_
 obtain ⟨z5, k6, lz5, uz5⟩ := hH0.ld (c := 135) (i := (a0).toNat) (A := (-2147483648)) (B := 2147483647) rfl
 refine jx_iald c1 hm rfl sh_135 ⟨by omega, by omega⟩ k6 ?_
 refine jx_goto c1 hm 28 rfl rfl ?_
 exact jx_reti c2 hm rfl rfl ⟨_, rfl, rfl, by omega, by omega⟩
def md_X7_readOne_42_1_5 : List (Nat × (Nat × Nat)) := [(1, (4, 4)), (1, (5, 5)), (1, (6, 6)), (1, (7, 7)), (1, (9, 9)), (1, (11, 11)), (1, (12, 12)), (1, (13, 13)), (42, (2, 2)), (42, (3, 3)), (43, (0, 39))]
def ST_X7_readOne_42_1_5 (n : Nat) : Prop := ∀ (X : Int) (hX : 0 ≤ X ∧ X ≤ 100000000) (M0 : JM) (hH0 : HI X M0) (a0 : Int) (ha0 : 1 ≤ a0 ∧ a0 ≤ 9) (hr : 9 - a0 < (n : Int)), JOk shp PJ (2 * n + 5) 257 [.inr (.inr (.inl 42)), .inr (.inr (.inl 1)), .inr (.inr (.inl 5)), .inl a0] M0 (jRi (fun v M' => HI X M' ∧ Fr md_X7_readOne_42_1_5 M0 M' ∧ 0 ≤ v ∧ v ≤ 1 ))
def md_X7_add_42 : List (Nat × (Nat × Nat)) := [(42, (2, 2)), (43, (0, 39))]
theorem ct_X7_add_42 (X : Int) (hX : 0 ≤ X ∧ X ≤ 100000000) (M0 : JM) (hH0 : HI X M0) (a0 : Int) (ha0 : (-2147483648) ≤ a0 ∧ a0 ≤ 2147483647) (a1 : Int) (ha1 : (-2147483648) ≤ a1 ∧ a1 ≤ 2147483647) (a2 : Int) (ha2 : (-2147483648) ≤ a2 ∧ a2 ≤ 2147483647) : JOk shp PJ 1 250 [.inr (.inr (.inl 42)), .inl a0, .inl a1, .inl a2] M0 (jRi (fun v M' => HI X M' ∧ Fr md_X7_add_42 M0 M' ∧ 0 ≤ v ∧ v ≤ 1 )) := by
 refine ⟨jr_X7_add, pj_X7_add, fun F c1 c2 c3 => ?_⟩
 have hm := pj_X7_add
 change F 0 [some (.inr (.inr (.inl 42))), some (.inl a0), some (.inl a1), some (.inl a2)] [] M0
 have hF0 : Fr md_X7_add_42 M0 M0 := Fr.rf _ _
 refine jx_load c1 hm rfl rfl rfl rfl ?_
 obtain ⟨z1, k2, lz1, uz1⟩ := hH0.ld (c := 42) (i := 2) (A := 0) (B := 40) (bs_21_1 _ _ (by omega) (by omega))
 refine jx_geti c1 hm rfl sh_42 rfl k2 ?_
 refine jy_bp c1 hm rfl (by decide) ?_
 refine jc_ge c1 hm 39 rfl rfl (fun h3 => ?_) (fun h3 => ?_)
 ·
  refine jy_ic c1 hm rfl (by decide) ?_
  exact jx_retz c2 hm rfl rfl ⟨by omega, by omega⟩ ⟨_, rfl, hH0, hF0, by omega, by omega⟩
 refine jx_load c1 hm rfl rfl rfl rfl ?_
 refine jx_getr c1 hm rfl sh_42 rfl ?_
 refine jx_load c1 hm rfl rfl rfl rfl ?_
 refine jx_geti c1 hm rfl sh_42 rfl k2 ?_
 refine jx_load c1 hm rfl rfl rfl rfl ?_
 refine jx_load c1 hm rfl rfl rfl rfl ?_
 refine jy_bp c1 hm rfl (by decide) ?_
 refine jx_iopw c1 hm rfl rfl (fun z4 lz4 uz4 => ?_)
 refine jx_iopw c1 hm rfl rfl (fun z5 lz5 uz5 => ?_)
 refine jx_load c1 hm rfl rfl rfl rfl ?_
 refine jy_bp c1 hm rfl (by decide) ?_
 refine jx_iopw c1 hm rfl rfl (fun z6 lz6 uz6 => ?_)
 refine jx_iopw c1 hm rfl rfl (fun z7 lz7 uz7 => ?_)
 obtain ⟨M8, e8, hH8, hF8, k8, n8, _⟩ := mup hH0 hF0 (c := 43) (i := (z1).toNat) (v := z7) (A := (-2147483648)) (B := 2147483647) rfl ⟨by omega, by omega⟩ (jin_of 1 rfl ⟨by omega, by omega⟩)
 refine jm_iast c1 hm rfl sh_43 ⟨by omega, by omega⟩ e8 ?_
 refine jx_load c1 hm rfl rfl rfl rfl ?_
 refine jx_dup c1 hm rfl rfl ?_
 have k9 : M8.1 42 2 = z1 := (n8 42 2 (fun h => absurd h.1 (by decide))).trans k2
 refine jx_geti c1 hm rfl sh_42 rfl k9 ?_
 refine jy_ic c1 hm rfl (by decide) ?_
 refine jy_add c1 hm (z1 + 1) rfl (by omega) ?_
 obtain ⟨M10, e10, hH10, hF10, k10, n10, _⟩ := mup hH8 hF8 (c := 42) (i := 2) (v := (z1 + 1)) (A := 0) (B := 40) (bs_21_1 _ _ (by omega) (by omega)) ⟨by omega, by omega⟩ (jin_of 0 rfl ⟨by omega, by omega⟩)
 refine jm_puti c1 hm rfl sh_42 rfl e10 ?_
 refine jy_ic c1 hm rfl (by decide) ?_
 exact jx_retz c2 hm rfl rfl ⟨by omega, by omega⟩ ⟨_, rfl, hH10, hF10, by omega, by omega⟩
def md_X7_readCond_42_1_5 : List (Nat × (Nat × Nat)) := [(1, (4, 4)), (1, (5, 5)), (1, (6, 6)), (1, (7, 7)), (1, (9, 9)), (1, (11, 11)), (1, (12, 12)), (1, (13, 13)), (42, (2, 2)), (42, (3, 3)), (43, (0, 39))]
theorem ct_X7_readCond_42_1_5 (n : Nat) (hy : ST_X7_readOne_42_1_5 n) (X : Int) (hX : 0 ≤ X ∧ X ≤ 100000000) (M0 : JM) (hH0 : HI X M0) (a0 : Int) (ha0 : 1 ≤ a0 ∧ a0 ≤ 9) (hr : 9 - a0 < (n : Int)) : JOk shp PJ (2 * n + 5 + 1) 256 [.inr (.inr (.inl 42)), .inr (.inr (.inl 1)), .inr (.inr (.inl 5)), .inl a0] M0 (jRi (fun v M' => HI X M' ∧ Fr md_X7_readCond_42_1_5 M0 M' ∧ 0 ≤ v ∧ v ≤ 1 )) := by
 refine ⟨jr_X7_readCond, pj_X7_readCond, fun F c1 c2 c3 => ?_⟩
 have hm := pj_X7_readCond
 change F 0 [some (.inr (.inr (.inl 42))), some (.inr (.inr (.inl 1))), some (.inr (.inr (.inl 5))), some (.inl a0), none, none, none] [] M0
 have hF0 : Fr md_X7_readCond_42_1_5 M0 M0 := Fr.rf _ _
 refine jx_load c1 hm rfl rfl rfl rfl ?_
 refine jx_load c1 hm rfl rfl rfl rfl ?_
 refine jx_load c1 hm rfl rfl rfl rfl ?_
 refine jx_load c1 hm rfl rfl rfl rfl ?_
 refine jv_i c3 hm rfl pj_X7_readOne rfl rfl ⟨_, _, _, rfl, sh_42⟩ rfl ((hy X (by omega) M0 hH0 a0 ⟨by omega, by omega⟩ (by omega)).le (by omega)) (fun z1 M2 ⟨hH2, hR2, lz1, uz1⟩ => ?_)
 have hF2 := hF0.tr hR2 (by decide +kernel)
 refine jz_ne c1 hm 12 rfl rfl (fun h3 => ?_) (fun h3 => ?_)
 ·
  refine jy_ic c1 hm rfl (by decide) ?_
  refine jx_stor c1 hm (L' := [some (.inr (.inr (.inl 42))), some (.inr (.inr (.inl 1))), some (.inr (.inr (.inl 5))), some (.inl a0), some (.inl 0), none, none]) rfl rfl rfl rfl rfl ?_
  refine jy_ic c1 hm rfl (by decide) ?_
  refine jx_stor c1 hm (L' := [some (.inr (.inr (.inl 42))), some (.inr (.inr (.inl 1))), some (.inr (.inr (.inl 5))), some (.inl a0), some (.inl 0), some (.inl 0), none]) rfl rfl rfl rfl rfl ?_
  have W8 : ∀ (n9 : Nat) (b4 : Int) (hb4 : 0 ≤ b4 ∧ b4 ≤ 1) (b5 : Int) (hb5 : 0 ≤ b5 ∧ b5 ≤ 20) (o6 : Option JV) (ho6 : o6 = none ∨ (∃ z, o6 = some (.inl z)) ∨ ∃ r, o6 = some (.inr (.inr r))) (M7 : JM) (hH7 : HI (X) M7) (hF7 : Fr md_X7_readCond_42_1_5 M0 M7), (-b5 + 20) < (n9 : Int) → F 18 [some (.inr (.inr (.inl 42))), some (.inr (.inr (.inl 1))), some (.inr (.inr (.inl 5))), some (.inl a0), some (.inl b4), some (.inl b5), o6] [] M7 := by
   intro n9
   induction n9 with
   | zero => intros; omega
   | succ n9 ihW8 =>
    intro b4 hb4 b5 hb5 o6 ho6 M7 hH7 hF7 hrW8
    refine jx_load c1 hm rfl rfl rfl rfl ?_
    refine jy_bp c1 hm rfl (by decide) ?_
    refine jc_ge c1 hm 131 rfl rfl (fun h10 => ?_) (fun h10 => ?_)
    ·
     refine jx_load c1 hm rfl rfl rfl rfl ?_
     refine jz_eq c1 hm 145 rfl rfl (fun h11 => ?_) (fun h11 => ?_)
     ·
      refine jy_ic c1 hm rfl (by decide) ?_
      exact jx_retz c2 hm rfl rfl ⟨by omega, by omega⟩ ⟨_, rfl, hH7, hF7, by omega, by omega⟩
     refine jx_load c1 hm rfl rfl rfl rfl ?_
     refine jy_bp c1 hm rfl (by decide) ?_
     refine jy_ic c1 hm rfl (by decide) ?_
     refine jy_ic c1 hm rfl (by decide) ?_
     refine jv_i c3 hm rfl pj_X7_add rfl rfl ⟨_, _, _, rfl, sh_42⟩ rfl ((ct_X7_add_42 X (by omega) M7 hH7 13 ⟨by omega, by omega⟩ 0 ⟨by omega, by omega⟩ 0 ⟨by omega, by omega⟩).le (by omega)) (fun z12 M13 ⟨hH13, hR13, lz12, uz12⟩ => ?_)
     have hF13 := hF7.tr hR13 (by decide +kernel)
     refine jx_pop c1 hm rfl rfl ?_
     refine jy_ic c1 hm rfl (by decide) ?_
     exact jx_retz c2 hm rfl rfl ⟨by omega, by omega⟩ ⟨_, rfl, hH13, hF13, by omega, by omega⟩
    refine jx_load c1 hm rfl rfl rfl rfl ?_
    obtain ⟨z14, k15, lz14, uz14⟩ := hH7.ld (c := 1) (i := 7) (A := (-1)) (B := 23) (bs_19_5 _ _ (by omega) (by omega))
    refine jx_geti c1 hm rfl sh_1 rfl k15 ?_
    refine jy_bp c1 hm rfl (by decide) ?_
    refine jc_eq c1 hm 43 rfl rfl (fun h16 => ?_) (fun h16 => ?_)
    ·
     refine jx_load c1 hm rfl rfl rfl rfl ?_
     refine jx_geti c1 hm rfl sh_1 rfl k15 ?_
     refine jy_bp c1 hm rfl (by decide) ?_
     refine jc_ne c1 hm 56 rfl rfl (fun h17 => ?_) (fun h17 => ?_)
     ·
      exfalso; omega
     refine jy_ic c1 hm rfl (by decide) ?_
     refine jx_goto c1 hm 57 rfl rfl ?_
     refine jx_stor c1 hm (L' := [some (.inr (.inr (.inl 42))), some (.inr (.inr (.inl 1))), some (.inr (.inr (.inl 5))), some (.inl a0), some (.inl b4), some (.inl b5), some (.inl 1)]) rfl rfl rfl rfl rfl ?_
     refine jx_load c1 hm rfl rfl rfl rfl ?_
     refine jz_ne c1 hm 78 rfl rfl (fun h18 => ?_) (fun h18 => ?_)
     ·
      refine jx_load c1 hm rfl rfl rfl rfl ?_
      have J22 : ∀ (b21 : Int) (hb21 : 0 ≤ b21 ∧ b21 ≤ 1), F 93 [some (.inr (.inr (.inl 42))), some (.inr (.inr (.inl 1))), some (.inr (.inr (.inl 5))), some (.inl a0), some (.inl b4), some (.inl b5), some (.inl 1)] [.inl b21] M7 := by
       intro b21 hb21
       refine jx_stor c1 hm (L' := [some (.inr (.inr (.inl 42))), some (.inr (.inr (.inl 1))), some (.inr (.inr (.inl 5))), some (.inl a0), some (.inl b21), some (.inl b5), some (.inl 1)]) rfl rfl rfl rfl rfl ?_
       refine jx_load c1 hm rfl rfl rfl rfl ?_
       refine jv_v c3 hm rfl pj_X10_next rfl rfl ⟨_, _, _, rfl, sh_1⟩ rfl ((ct_X10_next_1 X (by omega) M7 hH7 ).le (by omega)) (fun M23 ⟨hH23, hR23⟩ => ?_)
       have hF23 := hF7.tr hR23 (by decide +kernel)
       refine jx_load c1 hm rfl rfl rfl rfl ?_
       refine jx_load c1 hm rfl rfl rfl rfl ?_
       refine jx_load c1 hm rfl rfl rfl rfl ?_
       refine jx_load c1 hm rfl rfl rfl rfl ?_
       refine jv_i c3 hm rfl pj_X7_readOne rfl rfl ⟨_, _, _, rfl, sh_42⟩ rfl ((hy X (by omega) M23 hH23 a0 ⟨by omega, by omega⟩ (by omega)).le (by omega)) (fun z24 M25 ⟨hH25, hR25, lz24, uz24⟩ => ?_)
       have hF25 := hF23.tr hR25 (by decide +kernel)
       refine jz_ne c1 hm 111 rfl rfl (fun h26 => ?_) (fun h26 => ?_)
       ·
        refine jx_load c1 hm rfl rfl rfl rfl ?_
        refine jz_eq c1 hm 125 rfl rfl (fun h27 => ?_) (fun h27 => ?_)
        ·
         exfalso; omega
        refine jx_load c1 hm rfl rfl rfl rfl ?_
        refine jy_bp c1 hm rfl (by decide) ?_
        refine jy_ic c1 hm rfl (by decide) ?_
        refine jy_ic c1 hm rfl (by decide) ?_
        refine jv_i c3 hm rfl pj_X7_add rfl rfl ⟨_, _, _, rfl, sh_42⟩ rfl ((ct_X7_add_42 X (by omega) M25 hH25 14 ⟨by omega, by omega⟩ 0 ⟨by omega, by omega⟩ 0 ⟨by omega, by omega⟩).le (by omega)) (fun z28 M29 ⟨hH29, hR29, lz28, uz28⟩ => ?_)
        have hF29 := hF25.tr hR29 (by decide +kernel)
        refine jx_pop c1 hm rfl rfl ?_
        refine jx_iinc c1 hm (v := (b5 + 1)) (L' := [some (.inr (.inr (.inl 42))), some (.inr (.inr (.inl 1))), some (.inr (.inr (.inl 5))), some (.inl a0), some (.inl b21), some (.inl (b5 + 1)), some (.inl 1)]) rfl rfl (by omega) (by omega) rfl ?_
        refine jx_goto c1 hm 18 rfl rfl ?_
        exact ihW8 b21 (by omega) (b5 + 1) (by omega) (some (.inl 1)) (Or.inr (Or.inl ⟨_, rfl⟩)) M29 hH29 hF29 (by omega)
       refine jy_ic c1 hm rfl (by decide) ?_
       exact jx_retz c2 hm rfl rfl ⟨by omega, by omega⟩ ⟨_, rfl, hH25, hF25, by omega, by omega⟩
      refine jz_ne c1 hm 88 rfl rfl (fun h19 => ?_) (fun h19 => ?_)
      ·
       refine jy_ic c1 hm rfl (by decide) ?_
       refine jx_goto c1 hm 93 rfl rfl ?_
       exact J22 1 (by omega)
      refine jx_load c1 hm rfl rfl rfl rfl ?_
      refine jz_ne c1 hm 92 rfl rfl (fun h20 => ?_) (fun h20 => ?_)
      ·
       refine jy_ic c1 hm rfl (by decide) ?_
       exact J22 0 (by omega)
      exfalso; omega
     exfalso; omega
    refine jx_load c1 hm rfl rfl rfl rfl ?_
    refine jx_geti c1 hm rfl sh_1 rfl k15 ?_
    refine jy_bp c1 hm rfl (by decide) ?_
    refine jc_ne c1 hm 131 rfl rfl (fun h30 => ?_) (fun h30 => ?_)
    ·
     refine jx_load c1 hm rfl rfl rfl rfl ?_
     refine jz_eq c1 hm 145 rfl rfl (fun h31 => ?_) (fun h31 => ?_)
     ·
      refine jy_ic c1 hm rfl (by decide) ?_
      exact jx_retz c2 hm rfl rfl ⟨by omega, by omega⟩ ⟨_, rfl, hH7, hF7, by omega, by omega⟩
     refine jx_load c1 hm rfl rfl rfl rfl ?_
     refine jy_bp c1 hm rfl (by decide) ?_
     refine jy_ic c1 hm rfl (by decide) ?_
     refine jy_ic c1 hm rfl (by decide) ?_
     refine jv_i c3 hm rfl pj_X7_add rfl rfl ⟨_, _, _, rfl, sh_42⟩ rfl ((ct_X7_add_42 X (by omega) M7 hH7 13 ⟨by omega, by omega⟩ 0 ⟨by omega, by omega⟩ 0 ⟨by omega, by omega⟩).le (by omega)) (fun z32 M33 ⟨hH33, hR33, lz32, uz32⟩ => ?_)
     have hF33 := hF7.tr hR33 (by decide +kernel)
     refine jx_pop c1 hm rfl rfl ?_
     refine jy_ic c1 hm rfl (by decide) ?_
     exact jx_retz c2 hm rfl rfl ⟨by omega, by omega⟩ ⟨_, rfl, hH33, hF33, by omega, by omega⟩
    refine jx_load c1 hm rfl rfl rfl rfl ?_
    refine jx_geti c1 hm rfl sh_1 rfl k15 ?_
    refine jy_bp c1 hm rfl (by decide) ?_
    refine jc_ne c1 hm 56 rfl rfl (fun h34 => ?_) (fun h34 => ?_)
    ·
     refine jy_ic c1 hm rfl (by decide) ?_
     refine jx_stor c1 hm (L' := [some (.inr (.inr (.inl 42))), some (.inr (.inr (.inl 1))), some (.inr (.inr (.inl 5))), some (.inl a0), some (.inl b4), some (.inl b5), some (.inl 0)]) rfl rfl rfl rfl rfl ?_
     refine jx_load c1 hm rfl rfl rfl rfl ?_
     have J42 : ∀ (M39 : JM) (hH39 : HI (X) M39) (hF39 : Fr md_X7_readCond_42_1_5 M0 M39) (k41 : M39.1 1 7 = z14), F 78 [some (.inr (.inr (.inl 42))), some (.inr (.inr (.inl 1))), some (.inr (.inr (.inl 5))), some (.inl a0), some (.inl b4), some (.inl b5), some (.inl 0)] [] M39 := by
      intro M39 hH39 hF39 k41
      refine jx_load c1 hm rfl rfl rfl rfl ?_
      have J45 : F 93 [some (.inr (.inr (.inl 42))), some (.inr (.inr (.inl 1))), some (.inr (.inr (.inl 5))), some (.inl a0), some (.inl b4), some (.inl b5), some (.inl 0)] [.inl 1] M39 := by
       refine jx_stor c1 hm (L' := [some (.inr (.inr (.inl 42))), some (.inr (.inr (.inl 1))), some (.inr (.inr (.inl 5))), some (.inl a0), some (.inl 1), some (.inl b5), some (.inl 0)]) rfl rfl rfl rfl rfl ?_
       refine jx_load c1 hm rfl rfl rfl rfl ?_
       refine jv_v c3 hm rfl pj_X10_next rfl rfl ⟨_, _, _, rfl, sh_1⟩ rfl ((ct_X10_next_1 X (by omega) M39 hH39 ).le (by omega)) (fun M46 ⟨hH46, hR46⟩ => ?_)
       have hF46 := hF39.tr hR46 (by decide +kernel)
       refine jx_load c1 hm rfl rfl rfl rfl ?_
       refine jx_load c1 hm rfl rfl rfl rfl ?_
       refine jx_load c1 hm rfl rfl rfl rfl ?_
       refine jx_load c1 hm rfl rfl rfl rfl ?_
       refine jv_i c3 hm rfl pj_X7_readOne rfl rfl ⟨_, _, _, rfl, sh_42⟩ rfl ((hy X (by omega) M46 hH46 a0 ⟨by omega, by omega⟩ (by omega)).le (by omega)) (fun z47 M48 ⟨hH48, hR48, lz47, uz47⟩ => ?_)
       have hF48 := hF46.tr hR48 (by decide +kernel)
       refine jz_ne c1 hm 111 rfl rfl (fun h49 => ?_) (fun h49 => ?_)
       ·
        refine jx_load c1 hm rfl rfl rfl rfl ?_
        refine jz_eq c1 hm 125 rfl rfl (fun h50 => ?_) (fun h50 => ?_)
        ·
         refine jx_iinc c1 hm (v := (b5 + 1)) (L' := [some (.inr (.inr (.inl 42))), some (.inr (.inr (.inl 1))), some (.inr (.inr (.inl 5))), some (.inl a0), some (.inl 1), some (.inl (b5 + 1)), some (.inl 0)]) rfl rfl (by omega) (by omega) rfl ?_
         refine jx_goto c1 hm 18 rfl rfl ?_
         exact ihW8 1 (by omega) (b5 + 1) (by omega) (some (.inl 0)) (Or.inr (Or.inl ⟨_, rfl⟩)) M48 hH48 hF48 (by omega)
        exfalso; omega
       refine jy_ic c1 hm rfl (by decide) ?_
       exact jx_retz c2 hm rfl rfl ⟨by omega, by omega⟩ ⟨_, rfl, hH48, hF48, by omega, by omega⟩
      refine jz_ne c1 hm 88 rfl rfl (fun h43 => ?_) (fun h43 => ?_)
      ·
       refine jy_ic c1 hm rfl (by decide) ?_
       refine jx_goto c1 hm 93 rfl rfl ?_
       exact J45 
      refine jx_load c1 hm rfl rfl rfl rfl ?_
      refine jz_ne c1 hm 92 rfl rfl (fun h44 => ?_) (fun h44 => ?_)
      ·
       exfalso; omega
      refine jy_ic c1 hm rfl (by decide) ?_
      refine jx_goto c1 hm 93 rfl rfl ?_
      exact J45 
     refine jz_ne c1 hm 78 rfl rfl (fun h35 => ?_) (fun h35 => ?_)
     ·
      exfalso; omega
     refine jx_load c1 hm rfl rfl rfl rfl ?_
     refine jz_eq c1 hm 78 rfl rfl (fun h36 => ?_) (fun h36 => ?_)
     ·
      exact J42 M7 hH7 hF7 k15
     refine jx_load c1 hm rfl rfl rfl rfl ?_
     refine jy_bp c1 hm rfl (by decide) ?_
     refine jy_ic c1 hm rfl (by decide) ?_
     refine jy_ic c1 hm rfl (by decide) ?_
     refine jv_i c3 hm rfl pj_X7_add rfl rfl ⟨_, _, _, rfl, sh_42⟩ rfl ((ct_X7_add_42 X (by omega) M7 hH7 13 ⟨by omega, by omega⟩ 0 ⟨by omega, by omega⟩ 0 ⟨by omega, by omega⟩).le (by omega)) (fun z37 M38 ⟨hH38, hR38, lz37, uz37⟩ => ?_)
     have hF38 := hF7.tr hR38 (by decide +kernel)
     refine jx_pop c1 hm rfl rfl ?_
     have k40 : M38.1 1 7 = z14 := (hR38 1 7 (by decide +kernel)).trans k15
     exact J42 M38 hH38 hF38 k40
    exfalso; omega
  exact W8 (20 + 1 : Int).toNat 0 (by omega) 0 (by omega) none (Or.inl rfl) M2 hH2 hF2 (by omega)
 refine jy_ic c1 hm rfl (by decide) ?_
 exact jx_retz c2 hm rfl rfl ⟨by omega, by omega⟩ ⟨_, rfl, hH2, hF2, by omega, by omega⟩
def md_X7_readPlainOne_42_1_5 : List (Nat × (Nat × Nat)) := [(1, (4, 4)), (1, (5, 5)), (1, (6, 6)), (1, (7, 7)), (1, (9, 9)), (1, (11, 11)), (1, (12, 12)), (1, (13, 13)), (42, (2, 2)), (43, (0, 39))]
theorem ct_X7_readPlainOne_42_1_5 (X : Int) (hX : 0 ≤ X ∧ X ≤ 100000000) (M0 : JM) (hH0 : HI X M0) (a0 : Int) (ha0 : 15 ≤ a0 ∧ a0 ≤ 23) : JOk shp PJ 4 258 [.inr (.inr (.inl 42)), .inr (.inr (.inl 1)), .inr (.inr (.inl 5)), .inl a0] M0 (jRi (fun v M' => HI X M' ∧ Fr md_X7_readPlainOne_42_1_5 M0 M' ∧ 0 ≤ v ∧ v ≤ 1 )) := by
 refine ⟨jr_X7_readPlainOne, pj_X7_readPlainOne, fun F c1 c2 c3 => ?_⟩
 have hm := pj_X7_readPlainOne
 change F 0 [some (.inr (.inr (.inl 42))), some (.inr (.inr (.inl 1))), some (.inr (.inr (.inl 5))), some (.inl a0), none] [] M0
 have hF0 : Fr md_X7_readPlainOne_42_1_5 M0 M0 := Fr.rf _ _
 refine jx_load c1 hm rfl rfl rfl rfl ?_
 by_cases h1 : a0 = 16
 ·
  refine jx_tswI c1 hm 32 rfl ⟨by omega, by omega⟩ (by rw [h1] <;> rfl) rfl ?_
  refine jx_load c1 hm rfl rfl rfl rfl ?_
  refine jx_load c1 hm rfl rfl rfl rfl ?_
  refine jy_ic c1 hm rfl (by decide) ?_
  refine jy_ic c1 hm rfl (by decide) ?_
  refine jv_i c3 hm rfl pj_X7_add rfl rfl ⟨_, _, _, rfl, sh_42⟩ rfl ((ct_X7_add_42 X (by omega) M0 hH0 a0 ⟨by omega, by omega⟩ 0 ⟨by omega, by omega⟩ 0 ⟨by omega, by omega⟩).le (by decide)) (fun z2 M3 ⟨hH3, hR3, lz2, uz2⟩ => ?_)
  have hF3 := hF0.tr hR3 (by decide +kernel)
  exact jx_retz c2 hm rfl rfl ⟨by omega, by omega⟩ ⟨_, rfl, hH3, hF3, by omega, by omega⟩
 by_cases h4 : a0 = 17
 ·
  refine jx_tswI c1 hm 40 rfl ⟨by omega, by omega⟩ (by rw [h4] <;> rfl) rfl ?_
  refine jx_load c1 hm rfl rfl rfl rfl ?_
  refine jx_load c1 hm rfl rfl rfl rfl ?_
  refine jy_ic c1 hm rfl (by decide) ?_
  refine jv_i c3 hm rfl pj_X10_takesName rfl rfl ⟨_, _, _, rfl, sh_1⟩ rfl ((ct_X10_takesName_1_5 X (by omega) M0 hH0 0 ⟨by omega, by omega⟩).le (by decide)) (fun z5 M7 ⟨hH7, hR7, lz5, uz5, p6⟩ => ?_)
  have hF7 := hF0.tr hR7 (by decide +kernel)
  obtain ⟨z8, k9, lz8, uz8⟩ := hH7.ld (c := 1) (i := 11) (A := 0) (B := 999) (bs_19_7 _ _ (by omega) (by omega))
  refine jz_eq c1 hm 66 rfl rfl (fun h10 => ?_) (fun h10 => ?_)
  ·
   refine jy_ic c1 hm rfl (by decide) ?_
   exact jx_retz c2 hm rfl rfl ⟨by omega, by omega⟩ ⟨_, rfl, hH7, hF7, by omega, by omega⟩
  refine jx_load c1 hm rfl rfl rfl rfl ?_
  refine jx_load c1 hm rfl rfl rfl rfl ?_
  refine jy_ic c1 hm rfl (by decide) ?_
  refine jx_load c1 hm rfl rfl rfl rfl ?_
  refine jx_geti c1 hm rfl sh_1 rfl k9 ?_
  refine jv_i c3 hm rfl pj_X7_add rfl rfl ⟨_, _, _, rfl, sh_42⟩ rfl ((ct_X7_add_42 X (by omega) M7 hH7 a0 ⟨by omega, by omega⟩ 0 ⟨by omega, by omega⟩ z8 ⟨by omega, by omega⟩).le (by decide)) (fun z11 M12 ⟨hH12, hR12, lz11, uz11⟩ => ?_)
  have hF12 := hF7.tr hR12 (by decide +kernel)
  refine jz_eq c1 hm 66 rfl rfl (fun h13 => ?_) (fun h13 => ?_)
  ·
   refine jy_ic c1 hm rfl (by decide) ?_
   exact jx_retz c2 hm rfl rfl ⟨by omega, by omega⟩ ⟨_, rfl, hH12, hF12, by omega, by omega⟩
  refine jy_ic c1 hm rfl (by decide) ?_
  refine jx_goto c1 hm 67 rfl rfl ?_
  exact jx_retz c2 hm rfl rfl ⟨by omega, by omega⟩ ⟨_, rfl, hH12, hF12, by omega, by omega⟩
 by_cases h14 : a0 = 18
 ·
  refine jx_tswI c1 hm 68 rfl ⟨by omega, by omega⟩ (by rw [h14] <;> rfl) rfl ?_
  refine jx_load c1 hm rfl rfl rfl rfl ?_
  refine jx_load c1 hm rfl rfl rfl rfl ?_
  refine jy_ic c1 hm rfl (by decide) ?_
  refine jv_i c3 hm rfl pj_X10_takesName rfl rfl ⟨_, _, _, rfl, sh_1⟩ rfl ((ct_X10_takesName_1_5 X (by omega) M0 hH0 2 ⟨by omega, by omega⟩).le (by decide)) (fun z15 M17 ⟨hH17, hR17, lz15, uz15, p16⟩ => ?_)
  have hF17 := hF0.tr hR17 (by decide +kernel)
  obtain ⟨z18, k19, lz18, uz18⟩ := hH17.ld (c := 1) (i := 11) (A := 0) (B := 999) (bs_19_7 _ _ (by omega) (by omega))
  refine jz_eq c1 hm 94 rfl rfl (fun h20 => ?_) (fun h20 => ?_)
  ·
   refine jy_ic c1 hm rfl (by decide) ?_
   exact jx_retz c2 hm rfl rfl ⟨by omega, by omega⟩ ⟨_, rfl, hH17, hF17, by omega, by omega⟩
  refine jx_load c1 hm rfl rfl rfl rfl ?_
  refine jx_load c1 hm rfl rfl rfl rfl ?_
  refine jy_ic c1 hm rfl (by decide) ?_
  refine jx_load c1 hm rfl rfl rfl rfl ?_
  refine jx_geti c1 hm rfl sh_1 rfl k19 ?_
  refine jv_i c3 hm rfl pj_X7_add rfl rfl ⟨_, _, _, rfl, sh_42⟩ rfl ((ct_X7_add_42 X (by omega) M17 hH17 a0 ⟨by omega, by omega⟩ 0 ⟨by omega, by omega⟩ z18 ⟨by omega, by omega⟩).le (by decide)) (fun z21 M22 ⟨hH22, hR22, lz21, uz21⟩ => ?_)
  have hF22 := hF17.tr hR22 (by decide +kernel)
  refine jz_eq c1 hm 94 rfl rfl (fun h23 => ?_) (fun h23 => ?_)
  ·
   refine jy_ic c1 hm rfl (by decide) ?_
   exact jx_retz c2 hm rfl rfl ⟨by omega, by omega⟩ ⟨_, rfl, hH22, hF22, by omega, by omega⟩
  refine jy_ic c1 hm rfl (by decide) ?_
  refine jx_goto c1 hm 95 rfl rfl ?_
  exact jx_retz c2 hm rfl rfl ⟨by omega, by omega⟩ ⟨_, rfl, hH22, hF22, by omega, by omega⟩
 by_cases h24 : a0 = 19
 ·
  refine jx_tswI c1 hm 96 rfl ⟨by omega, by omega⟩ (by rw [h24] <;> rfl) rfl ?_
  refine jx_load c1 hm rfl rfl rfl rfl ?_
  refine jx_load c1 hm rfl rfl rfl rfl ?_
  refine jy_ic c1 hm rfl (by decide) ?_
  refine jv_i c3 hm rfl pj_X10_takesName rfl rfl ⟨_, _, _, rfl, sh_1⟩ rfl ((ct_X10_takesName_1_5 X (by omega) M0 hH0 1 ⟨by omega, by omega⟩).le (by decide)) (fun z25 M27 ⟨hH27, hR27, lz25, uz25, p26⟩ => ?_)
  have hF27 := hF0.tr hR27 (by decide +kernel)
  obtain ⟨z28, k29, lz28, uz28⟩ := hH27.ld (c := 1) (i := 11) (A := 0) (B := 999) (bs_19_7 _ _ (by omega) (by omega))
  refine jz_eq c1 hm 122 rfl rfl (fun h30 => ?_) (fun h30 => ?_)
  ·
   refine jy_ic c1 hm rfl (by decide) ?_
   exact jx_retz c2 hm rfl rfl ⟨by omega, by omega⟩ ⟨_, rfl, hH27, hF27, by omega, by omega⟩
  refine jx_load c1 hm rfl rfl rfl rfl ?_
  refine jx_load c1 hm rfl rfl rfl rfl ?_
  refine jy_ic c1 hm rfl (by decide) ?_
  refine jx_load c1 hm rfl rfl rfl rfl ?_
  refine jx_geti c1 hm rfl sh_1 rfl k29 ?_
  refine jv_i c3 hm rfl pj_X7_add rfl rfl ⟨_, _, _, rfl, sh_42⟩ rfl ((ct_X7_add_42 X (by omega) M27 hH27 a0 ⟨by omega, by omega⟩ 0 ⟨by omega, by omega⟩ z28 ⟨by omega, by omega⟩).le (by decide)) (fun z31 M32 ⟨hH32, hR32, lz31, uz31⟩ => ?_)
  have hF32 := hF27.tr hR32 (by decide +kernel)
  refine jz_eq c1 hm 122 rfl rfl (fun h33 => ?_) (fun h33 => ?_)
  ·
   refine jy_ic c1 hm rfl (by decide) ?_
   exact jx_retz c2 hm rfl rfl ⟨by omega, by omega⟩ ⟨_, rfl, hH32, hF32, by omega, by omega⟩
  refine jy_ic c1 hm rfl (by decide) ?_
  refine jx_goto c1 hm 123 rfl rfl ?_
  exact jx_retz c2 hm rfl rfl ⟨by omega, by omega⟩ ⟨_, rfl, hH32, hF32, by omega, by omega⟩
 refine jx_tswO c1 hm 124 rfl (by omega) rfl ?_
 refine jx_load c1 hm rfl rfl rfl rfl ?_
 obtain ⟨z34, k35, lz34, uz34⟩ := hH0.ld (c := 1) (i := 9) (A := (-2147483648)) (B := 2147483647) (bs_19_6 _ _ (by omega) (by omega))
 refine jx_geti c1 hm rfl sh_1 rfl k35 ?_
 refine jx_stor c1 hm (L' := [some (.inr (.inr (.inl 42))), some (.inr (.inr (.inl 1))), some (.inr (.inr (.inl 5))), some (.inl a0), some (.inl z34)]) rfl rfl rfl rfl rfl ?_
 refine jx_load c1 hm rfl rfl rfl rfl ?_
 refine jy_bp c1 hm rfl (by decide) ?_
 refine jv_i c3 hm rfl pj_X10_isSign rfl rfl ⟨_, _, _, rfl, sh_1⟩ rfl ((ct_X10_isSign_1 X (by omega) M0 hH0 60 ⟨by omega, by omega⟩).le (by decide)) (fun z36 _ ⟨rfl, lz36, uz36⟩ => ?_)
 refine jz_ne c1 hm 167 rfl rfl (fun h37 => ?_) (fun h37 => ?_)
 ·
  refine jx_load c1 hm rfl rfl rfl rfl ?_
  refine jv_v c3 hm rfl pj_X10_next rfl rfl ⟨_, _, _, rfl, sh_1⟩ rfl ((ct_X10_next_1 X (by omega) M0 hH0 ).le (by decide)) (fun M38 ⟨hH38, hR38⟩ => ?_)
  have hF38 := hF0.tr hR38 (by decide +kernel)
  refine jx_load c1 hm rfl rfl rfl rfl ?_
  refine jy_ic c1 hm rfl (by decide) ?_
  refine jy_sp c1 hm rfl (by decide) ?_
  refine jv_i c3 hm rfl pj_X10_takesNumber rfl rfl ⟨_, _, _, rfl, sh_1⟩ rfl ((ct_X10_takesNumber_1 X (by omega) M38 hH38 0 ⟨by omega, by omega⟩ 999 ⟨by omega, by omega⟩).le (by decide)) (fun z39 M41 ⟨hH41, hR41, lz39, uz39, p40⟩ => ?_)
  have hF41 := hF38.tr hR41 (by decide +kernel)
  obtain ⟨z42, k43, lz42, uz42⟩ := hH41.ld (c := 1) (i := 11) (A := 0) (B := 999) (bs_19_7 _ _ (by omega) (by omega))
  refine jz_eq c1 hm 200 rfl rfl (fun h44 => ?_) (fun h44 => ?_)
  ·
   refine jy_ic c1 hm rfl (by decide) ?_
   exact jx_retz c2 hm rfl rfl ⟨by omega, by omega⟩ ⟨_, rfl, hH41, hF41, by omega, by omega⟩
  refine jx_load c1 hm rfl rfl rfl rfl ?_
  refine jx_load c1 hm rfl rfl rfl rfl ?_
  refine jx_load c1 hm rfl rfl rfl rfl ?_
  refine jx_load c1 hm rfl rfl rfl rfl ?_
  refine jx_geti c1 hm rfl sh_1 rfl k43 ?_
  refine jv_i c3 hm rfl pj_X7_add rfl rfl ⟨_, _, _, rfl, sh_42⟩ rfl ((ct_X7_add_42 X (by omega) M41 hH41 a0 ⟨by omega, by omega⟩ z34 ⟨by omega, by omega⟩ z42 ⟨by omega, by omega⟩).le (by decide)) (fun z45 M46 ⟨hH46, hR46, lz45, uz45⟩ => ?_)
  have hF46 := hF41.tr hR46 (by decide +kernel)
  refine jz_eq c1 hm 200 rfl rfl (fun h47 => ?_) (fun h47 => ?_)
  ·
   refine jy_ic c1 hm rfl (by decide) ?_
   exact jx_retz c2 hm rfl rfl ⟨by omega, by omega⟩ ⟨_, rfl, hH46, hF46, by omega, by omega⟩
  refine jy_ic c1 hm rfl (by decide) ?_
  refine jx_goto c1 hm 201 rfl rfl ?_
  exact jx_retz c2 hm rfl rfl ⟨by omega, by omega⟩ ⟨_, rfl, hH46, hF46, by omega, by omega⟩
 refine jx_load c1 hm rfl rfl rfl rfl ?_
 refine jy_bp c1 hm rfl (by decide) ?_
 refine jv_i c3 hm rfl pj_X10_isSign rfl rfl ⟨_, _, _, rfl, sh_1⟩ rfl ((ct_X10_isSign_1 X (by omega) M0 hH0 61 ⟨by omega, by omega⟩).le (by decide)) (fun z48 _ ⟨rfl, lz48, uz48⟩ => ?_)
 refine jz_ne c1 hm 167 rfl rfl (fun h49 => ?_) (fun h49 => ?_)
 ·
  refine jx_load c1 hm rfl rfl rfl rfl ?_
  refine jv_v c3 hm rfl pj_X10_next rfl rfl ⟨_, _, _, rfl, sh_1⟩ rfl ((ct_X10_next_1 X (by omega) M0 hH0 ).le (by decide)) (fun M50 ⟨hH50, hR50⟩ => ?_)
  have hF50 := hF0.tr hR50 (by decide +kernel)
  refine jx_load c1 hm rfl rfl rfl rfl ?_
  refine jy_ic c1 hm rfl (by decide) ?_
  refine jy_sp c1 hm rfl (by decide) ?_
  refine jv_i c3 hm rfl pj_X10_takesNumber rfl rfl ⟨_, _, _, rfl, sh_1⟩ rfl ((ct_X10_takesNumber_1 X (by omega) M50 hH50 0 ⟨by omega, by omega⟩ 999 ⟨by omega, by omega⟩).le (by decide)) (fun z51 M53 ⟨hH53, hR53, lz51, uz51, p52⟩ => ?_)
  have hF53 := hF50.tr hR53 (by decide +kernel)
  obtain ⟨z54, k55, lz54, uz54⟩ := hH53.ld (c := 1) (i := 11) (A := 0) (B := 999) (bs_19_7 _ _ (by omega) (by omega))
  refine jz_eq c1 hm 200 rfl rfl (fun h56 => ?_) (fun h56 => ?_)
  ·
   refine jy_ic c1 hm rfl (by decide) ?_
   exact jx_retz c2 hm rfl rfl ⟨by omega, by omega⟩ ⟨_, rfl, hH53, hF53, by omega, by omega⟩
  refine jx_load c1 hm rfl rfl rfl rfl ?_
  refine jx_load c1 hm rfl rfl rfl rfl ?_
  refine jx_load c1 hm rfl rfl rfl rfl ?_
  refine jx_load c1 hm rfl rfl rfl rfl ?_
  refine jx_geti c1 hm rfl sh_1 rfl k55 ?_
  refine jv_i c3 hm rfl pj_X7_add rfl rfl ⟨_, _, _, rfl, sh_42⟩ rfl ((ct_X7_add_42 X (by omega) M53 hH53 a0 ⟨by omega, by omega⟩ z34 ⟨by omega, by omega⟩ z54 ⟨by omega, by omega⟩).le (by decide)) (fun z57 M58 ⟨hH58, hR58, lz57, uz57⟩ => ?_)
  have hF58 := hF53.tr hR58 (by decide +kernel)
  refine jz_eq c1 hm 200 rfl rfl (fun h59 => ?_) (fun h59 => ?_)
  ·
   refine jy_ic c1 hm rfl (by decide) ?_
   exact jx_retz c2 hm rfl rfl ⟨by omega, by omega⟩ ⟨_, rfl, hH58, hF58, by omega, by omega⟩
  refine jy_ic c1 hm rfl (by decide) ?_
  refine jx_goto c1 hm 201 rfl rfl ?_
  exact jx_retz c2 hm rfl rfl ⟨by omega, by omega⟩ ⟨_, rfl, hH58, hF58, by omega, by omega⟩
 refine jx_load c1 hm rfl rfl rfl rfl ?_
 refine jy_bp c1 hm rfl (by decide) ?_
 refine jv_i c3 hm rfl pj_X10_isSign rfl rfl ⟨_, _, _, rfl, sh_1⟩ rfl ((ct_X10_isSign_1 X (by omega) M0 hH0 62 ⟨by omega, by omega⟩).le (by decide)) (fun z60 _ ⟨rfl, lz60, uz60⟩ => ?_)
 refine jz_ne c1 hm 167 rfl rfl (fun h61 => ?_) (fun h61 => ?_)
 ·
  refine jx_load c1 hm rfl rfl rfl rfl ?_
  refine jv_v c3 hm rfl pj_X10_next rfl rfl ⟨_, _, _, rfl, sh_1⟩ rfl ((ct_X10_next_1 X (by omega) M0 hH0 ).le (by decide)) (fun M62 ⟨hH62, hR62⟩ => ?_)
  have hF62 := hF0.tr hR62 (by decide +kernel)
  refine jx_load c1 hm rfl rfl rfl rfl ?_
  refine jy_ic c1 hm rfl (by decide) ?_
  refine jy_sp c1 hm rfl (by decide) ?_
  refine jv_i c3 hm rfl pj_X10_takesNumber rfl rfl ⟨_, _, _, rfl, sh_1⟩ rfl ((ct_X10_takesNumber_1 X (by omega) M62 hH62 0 ⟨by omega, by omega⟩ 999 ⟨by omega, by omega⟩).le (by decide)) (fun z63 M65 ⟨hH65, hR65, lz63, uz63, p64⟩ => ?_)
  have hF65 := hF62.tr hR65 (by decide +kernel)
  obtain ⟨z66, k67, lz66, uz66⟩ := hH65.ld (c := 1) (i := 11) (A := 0) (B := 999) (bs_19_7 _ _ (by omega) (by omega))
  refine jz_eq c1 hm 200 rfl rfl (fun h68 => ?_) (fun h68 => ?_)
  ·
   refine jy_ic c1 hm rfl (by decide) ?_
   exact jx_retz c2 hm rfl rfl ⟨by omega, by omega⟩ ⟨_, rfl, hH65, hF65, by omega, by omega⟩
  refine jx_load c1 hm rfl rfl rfl rfl ?_
  refine jx_load c1 hm rfl rfl rfl rfl ?_
  refine jx_load c1 hm rfl rfl rfl rfl ?_
  refine jx_load c1 hm rfl rfl rfl rfl ?_
  refine jx_geti c1 hm rfl sh_1 rfl k67 ?_
  refine jv_i c3 hm rfl pj_X7_add rfl rfl ⟨_, _, _, rfl, sh_42⟩ rfl ((ct_X7_add_42 X (by omega) M65 hH65 a0 ⟨by omega, by omega⟩ z34 ⟨by omega, by omega⟩ z66 ⟨by omega, by omega⟩).le (by decide)) (fun z69 M70 ⟨hH70, hR70, lz69, uz69⟩ => ?_)
  have hF70 := hF65.tr hR70 (by decide +kernel)
  refine jz_eq c1 hm 200 rfl rfl (fun h71 => ?_) (fun h71 => ?_)
  ·
   refine jy_ic c1 hm rfl (by decide) ?_
   exact jx_retz c2 hm rfl rfl ⟨by omega, by omega⟩ ⟨_, rfl, hH70, hF70, by omega, by omega⟩
  refine jy_ic c1 hm rfl (by decide) ?_
  refine jx_goto c1 hm 201 rfl rfl ?_
  exact jx_retz c2 hm rfl rfl ⟨by omega, by omega⟩ ⟨_, rfl, hH70, hF70, by omega, by omega⟩
 refine jx_load c1 hm rfl rfl rfl rfl ?_
 refine jy_ic c1 hm rfl (by decide) ?_
 refine jx_load c1 hm rfl rfl rfl rfl ?_
 obtain ⟨z72, k73, lz72, uz72⟩ := hH0.ld (c := 1) (i := 5) (A := 0) (B := 940) (bs_19_3 _ _ (by omega) (by omega))
 refine jx_geti c1 hm rfl sh_1 rfl k73 ?_
 refine jv_i c3 hm rfl pj_X10_fails rfl rfl ⟨_, _, _, rfl, sh_1⟩ rfl ((ct_X10_fails_1 X (by omega) M0 hH0 1 ⟨by omega, by omega⟩ z72 ⟨by omega, by omega⟩).le (by decide)) (fun z74 M76 ⟨hH76, hR76, lz74, uz74, p75⟩ => ?_)
 have hF76 := hF0.tr hR76 (by decide +kernel)
 exact jx_retz c2 hm rfl rfl ⟨by omega, by omega⟩ ⟨_, rfl, hH76, hF76, by omega, by omega⟩
theorem ct_X7_readOne_42_1_5 : ∀ n : Nat, ST_X7_readOne_42_1_5 n := by
 intro n
 induction n with
 | zero =>
  unfold ST_X7_readOne_42_1_5
  intros; omega
 | succ n ih =>
  unfold ST_X7_readOne_42_1_5
  intro X hX M0 hH0 a0 ha0 hr
  refine ⟨jr_X7_readOne, pj_X7_readOne, fun F c1 c2 c3 => ?_⟩
  have hm := pj_X7_readOne
  change F 0 [some (.inr (.inr (.inl 42))), some (.inr (.inr (.inl 1))), some (.inr (.inr (.inl 5))), some (.inl a0), none, none] [] M0
  have hF0 : Fr md_X7_readOne_42_1_5 M0 M0 := Fr.rf _ _
  refine jx_load c1 hm rfl rfl rfl rfl ?_
  refine jy_bp c1 hm rfl (by decide) ?_
  refine jv_i c3 hm rfl pj_X10_isSign rfl rfl ⟨_, _, _, rfl, sh_1⟩ rfl ((ct_X10_isSign_1 X (by omega) M0 hH0 40 ⟨by omega, by omega⟩).le (by omega)) (fun z1 _ ⟨rfl, lz1, uz1⟩ => ?_)
  refine jx_stor c1 hm (L' := [some (.inr (.inr (.inl 42))), some (.inr (.inr (.inl 1))), some (.inr (.inr (.inl 5))), some (.inl a0), some (.inl z1), none]) rfl rfl rfl rfl rfl ?_
  refine jx_load c1 hm rfl rfl rfl rfl ?_
  refine jz_ne c1 hm 41 rfl rfl (fun h2 => ?_) (fun h2 => ?_)
  ·
   refine jx_load c1 hm rfl rfl rfl rfl ?_
   obtain ⟨z3, k4, lz3, uz3⟩ := hH0.ld (c := 42) (i := 3) (A := 0) (B := 20) (bs_21_2 _ _ (by omega) (by omega))
   refine jx_geti c1 hm rfl sh_42 rfl k4 ?_
   refine jy_bp c1 hm rfl (by decide) ?_
   refine jc_ge c1 hm 56 rfl rfl (fun h5 => ?_) (fun h5 => ?_)
   ·
    refine jx_load c1 hm rfl rfl rfl rfl ?_
    refine jy_ic c1 hm rfl (by decide) ?_
    refine jx_load c1 hm rfl rfl rfl rfl ?_
    obtain ⟨z6, k7, lz6, uz6⟩ := hH0.ld (c := 1) (i := 5) (A := 0) (B := 940) (bs_19_3 _ _ (by omega) (by omega))
    refine jx_geti c1 hm rfl sh_1 rfl k7 ?_
    refine jv_i c3 hm rfl pj_X10_fails rfl rfl ⟨_, _, _, rfl, sh_1⟩ rfl ((ct_X10_fails_1 X (by omega) M0 hH0 4 ⟨by omega, by omega⟩ z6 ⟨by omega, by omega⟩).le (by omega)) (fun z8 M10 ⟨hH10, hR10, lz8, uz8, p9⟩ => ?_)
    have hF10 := hF0.tr hR10 (by decide +kernel)
    exact jx_retz c2 hm rfl rfl ⟨by omega, by omega⟩ ⟨_, rfl, hH10, hF10, by omega, by omega⟩
   refine jx_load c1 hm rfl rfl rfl rfl ?_
   refine jy_bp c1 hm rfl (by decide) ?_
   refine jc_le c1 hm 66 rfl rfl (fun h11 => ?_) (fun h11 => ?_)
   ·
    refine jx_load c1 hm rfl rfl rfl rfl ?_
    refine jx_dup c1 hm rfl rfl ?_
    refine jx_geti c1 hm rfl sh_42 rfl k4 ?_
    refine jy_ic c1 hm rfl (by decide) ?_
    refine jy_add c1 hm (z3 + 1) rfl (by omega) ?_
    obtain ⟨M12, e12, hH12, hF12, k12, n12, _⟩ := mup hH0 hF0 (c := 42) (i := 3) (v := (z3 + 1)) (A := 0) (B := 20) (bs_21_2 _ _ (by omega) (by omega)) ⟨by omega, by omega⟩ (jin_of 9 rfl ⟨by omega, by omega⟩)
    refine jm_puti c1 hm rfl sh_42 rfl e12 ?_
    refine jx_load c1 hm rfl rfl rfl rfl ?_
    obtain ⟨z13, k14, lz13, uz13⟩ := hH12.ld (c := 1) (i := 7) (A := (-1)) (B := 23) (bs_19_5 _ _ (by omega) (by omega))
    refine jx_geti c1 hm rfl sh_1 rfl k14 ?_
    refine jx_stor c1 hm (L' := [some (.inr (.inr (.inl 42))), some (.inr (.inr (.inl 1))), some (.inr (.inr (.inl 5))), some (.inl a0), some (.inl z1), some (.inl z13)]) rfl rfl rfl rfl rfl ?_
    refine jx_load c1 hm rfl rfl rfl rfl ?_
    refine jv_v c3 hm rfl pj_X10_next rfl rfl ⟨_, _, _, rfl, sh_1⟩ rfl ((ct_X10_next_1 X (by omega) M12 hH12 ).le (by omega)) (fun M15 ⟨hH15, hR15⟩ => ?_)
    have hF15 := hF12.tr hR15 (by decide +kernel)
    refine jx_load c1 hm rfl rfl rfl rfl ?_
    refine jz_eq c1 hm 118 rfl rfl (fun h16 => ?_) (fun h16 => ?_)
    ·
     exfalso; omega
    refine jx_load c1 hm rfl rfl rfl rfl ?_
    refine jx_load c1 hm rfl rfl rfl rfl ?_
    refine jx_load c1 hm rfl rfl rfl rfl ?_
    refine jx_load c1 hm rfl rfl rfl rfl ?_
    refine jy_ic c1 hm rfl (by decide) ?_
    refine jy_add c1 hm (a0 + 1) rfl (by omega) ?_
    refine jv_i c3 hm rfl pj_X7_readCond rfl rfl ⟨_, _, _, rfl, sh_42⟩ rfl ((ct_X7_readCond_42_1_5 n ih X (by omega) M15 hH15 (a0 + 1) ⟨by omega, by omega⟩ (by omega)).le (by omega)) (fun z17 M18 ⟨hH18, hR18, lz17, uz17⟩ => ?_)
    have hF18 := hF15.tr hR18 (by decide +kernel)
    refine jz_eq c1 hm 116 rfl rfl (fun h19 => ?_) (fun h19 => ?_)
    ·
     refine jy_ic c1 hm rfl (by decide) ?_
     exact jx_retz c2 hm rfl rfl ⟨by omega, by omega⟩ ⟨_, rfl, hH18, hF18, by omega, by omega⟩
    refine jx_load c1 hm rfl rfl rfl rfl ?_
    refine jy_bp c1 hm rfl (by decide) ?_
    refine jv_i c3 hm rfl pj_X10_takesSign rfl rfl ⟨_, _, _, rfl, sh_1⟩ rfl ((ct_X10_takesSign_1 X (by omega) M18 hH18 41 ⟨by omega, by omega⟩).le (by omega)) (fun z20 M21 ⟨hH21, hR21, lz20, uz20⟩ => ?_)
    have hF21 := hF18.tr hR21 (by decide +kernel)
    refine jz_eq c1 hm 116 rfl rfl (fun h22 => ?_) (fun h22 => ?_)
    ·
     refine jy_ic c1 hm rfl (by decide) ?_
     exact jx_retz c2 hm rfl rfl ⟨by omega, by omega⟩ ⟨_, rfl, hH21, hF21, by omega, by omega⟩
    refine jy_ic c1 hm rfl (by decide) ?_
    refine jx_goto c1 hm 117 rfl rfl ?_
    exact jx_retz c2 hm rfl rfl ⟨by omega, by omega⟩ ⟨_, rfl, hH21, hF21, by omega, by omega⟩
   refine jx_load c1 hm rfl rfl rfl rfl ?_
   refine jy_ic c1 hm rfl (by decide) ?_
   refine jx_load c1 hm rfl rfl rfl rfl ?_
   obtain ⟨z23, k24, lz23, uz23⟩ := hH0.ld (c := 1) (i := 5) (A := 0) (B := 940) (bs_19_3 _ _ (by omega) (by omega))
   refine jx_geti c1 hm rfl sh_1 rfl k24 ?_
   refine jv_i c3 hm rfl pj_X10_fails rfl rfl ⟨_, _, _, rfl, sh_1⟩ rfl ((ct_X10_fails_1 X (by omega) M0 hH0 4 ⟨by omega, by omega⟩ z23 ⟨by omega, by omega⟩).le (by omega)) (fun z25 M27 ⟨hH27, hR27, lz25, uz25, p26⟩ => ?_)
   have hF27 := hF0.tr hR27 (by decide +kernel)
   exact jx_retz c2 hm rfl rfl ⟨by omega, by omega⟩ ⟨_, rfl, hH27, hF27, by omega, by omega⟩
  refine jx_load c1 hm rfl rfl rfl rfl ?_
  obtain ⟨z28, k29, lz28, uz28⟩ := hH0.ld (c := 1) (i := 7) (A := (-1)) (B := 23) (bs_19_5 _ _ (by omega) (by omega))
  refine jx_geti c1 hm rfl sh_1 rfl k29 ?_
  refine jy_bp c1 hm rfl (by decide) ?_
  refine jc_lt c1 hm 31 rfl rfl (fun h30 => ?_) (fun h30 => ?_)
  ·
   refine jx_load c1 hm rfl rfl rfl rfl ?_
   refine jy_ic c1 hm rfl (by decide) ?_
   refine jx_load c1 hm rfl rfl rfl rfl ?_
   obtain ⟨z31, k32, lz31, uz31⟩ := hH0.ld (c := 1) (i := 5) (A := 0) (B := 940) (bs_19_3 _ _ (by omega) (by omega))
   refine jx_geti c1 hm rfl sh_1 rfl k32 ?_
   refine jv_i c3 hm rfl pj_X10_fails rfl rfl ⟨_, _, _, rfl, sh_1⟩ rfl ((ct_X10_fails_1 X (by omega) M0 hH0 1 ⟨by omega, by omega⟩ z31 ⟨by omega, by omega⟩).le (by omega)) (fun z33 M35 ⟨hH35, hR35, lz33, uz33, p34⟩ => ?_)
   have hF35 := hF0.tr hR35 (by decide +kernel)
   exact jx_retz c2 hm rfl rfl ⟨by omega, by omega⟩ ⟨_, rfl, hH35, hF35, by omega, by omega⟩
  refine jx_load c1 hm rfl rfl rfl rfl ?_
  refine jx_geti c1 hm rfl sh_1 rfl k29 ?_
  refine jy_bp c1 hm rfl (by decide) ?_
  refine jc_le c1 hm 41 rfl rfl (fun h36 => ?_) (fun h36 => ?_)
  ·
   refine jx_load c1 hm rfl rfl rfl rfl ?_
   obtain ⟨z37, k38, lz37, uz37⟩ := hH0.ld (c := 42) (i := 3) (A := 0) (B := 20) (bs_21_2 _ _ (by omega) (by omega))
   refine jx_geti c1 hm rfl sh_42 rfl k38 ?_
   refine jy_bp c1 hm rfl (by decide) ?_
   refine jc_ge c1 hm 56 rfl rfl (fun h39 => ?_) (fun h39 => ?_)
   ·
    refine jx_load c1 hm rfl rfl rfl rfl ?_
    refine jy_ic c1 hm rfl (by decide) ?_
    refine jx_load c1 hm rfl rfl rfl rfl ?_
    obtain ⟨z40, k41, lz40, uz40⟩ := hH0.ld (c := 1) (i := 5) (A := 0) (B := 940) (bs_19_3 _ _ (by omega) (by omega))
    refine jx_geti c1 hm rfl sh_1 rfl k41 ?_
    refine jv_i c3 hm rfl pj_X10_fails rfl rfl ⟨_, _, _, rfl, sh_1⟩ rfl ((ct_X10_fails_1 X (by omega) M0 hH0 4 ⟨by omega, by omega⟩ z40 ⟨by omega, by omega⟩).le (by omega)) (fun z42 M44 ⟨hH44, hR44, lz42, uz42, p43⟩ => ?_)
    have hF44 := hF0.tr hR44 (by decide +kernel)
    exact jx_retz c2 hm rfl rfl ⟨by omega, by omega⟩ ⟨_, rfl, hH44, hF44, by omega, by omega⟩
   refine jx_load c1 hm rfl rfl rfl rfl ?_
   refine jy_bp c1 hm rfl (by decide) ?_
   refine jc_le c1 hm 66 rfl rfl (fun h45 => ?_) (fun h45 => ?_)
   ·
    refine jx_load c1 hm rfl rfl rfl rfl ?_
    refine jx_dup c1 hm rfl rfl ?_
    refine jx_geti c1 hm rfl sh_42 rfl k38 ?_
    refine jy_ic c1 hm rfl (by decide) ?_
    refine jy_add c1 hm (z37 + 1) rfl (by omega) ?_
    obtain ⟨M46, e46, hH46, hF46, k46, n46, _⟩ := mup hH0 hF0 (c := 42) (i := 3) (v := (z37 + 1)) (A := 0) (B := 20) (bs_21_2 _ _ (by omega) (by omega)) ⟨by omega, by omega⟩ (jin_of 9 rfl ⟨by omega, by omega⟩)
    refine jm_puti c1 hm rfl sh_42 rfl e46 ?_
    refine jx_load c1 hm rfl rfl rfl rfl ?_
    have k47 : M46.1 1 7 = z28 := (n46 1 7 (fun h => absurd h.1 (by decide))).trans k29
    refine jx_geti c1 hm rfl sh_1 rfl k47 ?_
    refine jx_stor c1 hm (L' := [some (.inr (.inr (.inl 42))), some (.inr (.inr (.inl 1))), some (.inr (.inr (.inl 5))), some (.inl a0), some (.inl z1), some (.inl z28)]) rfl rfl rfl rfl rfl ?_
    refine jx_load c1 hm rfl rfl rfl rfl ?_
    refine jv_v c3 hm rfl pj_X10_next rfl rfl ⟨_, _, _, rfl, sh_1⟩ rfl ((ct_X10_next_1 X (by omega) M46 hH46 ).le (by omega)) (fun M48 ⟨hH48, hR48⟩ => ?_)
    have hF48 := hF46.tr hR48 (by decide +kernel)
    refine jx_load c1 hm rfl rfl rfl rfl ?_
    refine jz_eq c1 hm 118 rfl rfl (fun h49 => ?_) (fun h49 => ?_)
    ·
     refine jx_load c1 hm rfl rfl rfl rfl ?_
     refine jy_bp c1 hm rfl (by decide) ?_
     refine jc_ne c1 hm 154 rfl rfl (fun h50 => ?_) (fun h50 => ?_)
     ·
      refine jx_load c1 hm rfl rfl rfl rfl ?_
      refine jx_load c1 hm rfl rfl rfl rfl ?_
      refine jx_load c1 hm rfl rfl rfl rfl ?_
      refine jx_load c1 hm rfl rfl rfl rfl ?_
      refine jv_i c3 hm rfl pj_X7_readPlainOne rfl rfl ⟨_, _, _, rfl, sh_42⟩ rfl ((ct_X7_readPlainOne_42_1_5 X (by omega) M48 hH48 z28 ⟨by omega, by omega⟩).le (by omega)) (fun z51 M52 ⟨hH52, hR52, lz51, uz51⟩ => ?_)
      have hF52 := hF48.tr hR52 (by decide +kernel)
      exact jx_retz c2 hm rfl rfl ⟨by omega, by omega⟩ ⟨_, rfl, hH52, hF52, by omega, by omega⟩
     refine jx_load c1 hm rfl rfl rfl rfl ?_
     refine jx_load c1 hm rfl rfl rfl rfl ?_
     refine jx_load c1 hm rfl rfl rfl rfl ?_
     refine jx_load c1 hm rfl rfl rfl rfl ?_
     refine jy_ic c1 hm rfl (by decide) ?_
     refine jy_add c1 hm (a0 + 1) rfl (by omega) ?_
     refine jv_i c3 hm rfl pj_X7_readOne rfl rfl ⟨_, _, _, rfl, sh_42⟩ rfl ((ih X (by omega) M48 hH48 (a0 + 1) ⟨by omega, by omega⟩ (by omega)).le (by omega)) (fun z53 M54 ⟨hH54, hR54, lz53, uz53⟩ => ?_)
     have hF54 := hF48.tr hR54 (by decide +kernel)
     refine jz_eq c1 hm 152 rfl rfl (fun h55 => ?_) (fun h55 => ?_)
     ·
      refine jy_ic c1 hm rfl (by decide) ?_
      exact jx_retz c2 hm rfl rfl ⟨by omega, by omega⟩ ⟨_, rfl, hH54, hF54, by omega, by omega⟩
     refine jx_load c1 hm rfl rfl rfl rfl ?_
     refine jx_load c1 hm rfl rfl rfl rfl ?_
     refine jy_ic c1 hm rfl (by decide) ?_
     refine jy_ic c1 hm rfl (by decide) ?_
     refine jv_i c3 hm rfl pj_X7_add rfl rfl ⟨_, _, _, rfl, sh_42⟩ rfl ((ct_X7_add_42 X (by omega) M54 hH54 z28 ⟨by omega, by omega⟩ 0 ⟨by omega, by omega⟩ 0 ⟨by omega, by omega⟩).le (by omega)) (fun z56 M57 ⟨hH57, hR57, lz56, uz56⟩ => ?_)
     have hF57 := hF54.tr hR57 (by decide +kernel)
     refine jz_eq c1 hm 152 rfl rfl (fun h58 => ?_) (fun h58 => ?_)
     ·
      refine jy_ic c1 hm rfl (by decide) ?_
      exact jx_retz c2 hm rfl rfl ⟨by omega, by omega⟩ ⟨_, rfl, hH57, hF57, by omega, by omega⟩
     refine jy_ic c1 hm rfl (by decide) ?_
     refine jx_goto c1 hm 153 rfl rfl ?_
     exact jx_retz c2 hm rfl rfl ⟨by omega, by omega⟩ ⟨_, rfl, hH57, hF57, by omega, by omega⟩
    exfalso; omega
   refine jx_load c1 hm rfl rfl rfl rfl ?_
   refine jy_ic c1 hm rfl (by decide) ?_
   refine jx_load c1 hm rfl rfl rfl rfl ?_
   obtain ⟨z59, k60, lz59, uz59⟩ := hH0.ld (c := 1) (i := 5) (A := 0) (B := 940) (bs_19_3 _ _ (by omega) (by omega))
   refine jx_geti c1 hm rfl sh_1 rfl k60 ?_
   refine jv_i c3 hm rfl pj_X10_fails rfl rfl ⟨_, _, _, rfl, sh_1⟩ rfl ((ct_X10_fails_1 X (by omega) M0 hH0 4 ⟨by omega, by omega⟩ z59 ⟨by omega, by omega⟩).le (by omega)) (fun z61 M63 ⟨hH63, hR63, lz61, uz61, p62⟩ => ?_)
   have hF63 := hF0.tr hR63 (by decide +kernel)
   exact jx_retz c2 hm rfl rfl ⟨by omega, by omega⟩ ⟨_, rfl, hH63, hF63, by omega, by omega⟩
  exfalso; omega
def md_X7_readWhole_42_1_5 : List (Nat × (Nat × Nat)) := [(1, (4, 4)), (1, (5, 5)), (1, (6, 6)), (1, (7, 7)), (1, (9, 9)), (1, (11, 11)), (1, (12, 12)), (1, (13, 13)), (42, (2, 2)), (42, (3, 3)), (43, (0, 39))]
theorem ct_X7_readWhole_42_1_5 (X : Int) (hX : 0 ≤ X ∧ X ≤ 100000000) (M0 : JM) (hH0 : HI X M0)  : JOk shp PJ 25 259 [.inr (.inr (.inl 42)), .inr (.inr (.inl 1)), .inr (.inr (.inl 5))] M0 (jRi (fun v M' => HI X M' ∧ Fr md_X7_readWhole_42_1_5 M0 M' ∧ 0 ≤ v ∧ v ≤ 1 )) := by
 refine ⟨jr_X7_readWhole, pj_X7_readWhole, fun F c1 c2 c3 => ?_⟩
 have hm := pj_X7_readWhole
 change F 0 [some (.inr (.inr (.inl 42))), some (.inr (.inr (.inl 1))), some (.inr (.inr (.inl 5)))] [] M0
 have hF0 : Fr md_X7_readWhole_42_1_5 M0 M0 := Fr.rf _ _
 refine jx_load c1 hm rfl rfl rfl rfl ?_
 refine jv_v c3 hm rfl pj_X7_clear rfl rfl ⟨_, _, _, rfl, sh_42⟩ rfl ((ct_X7_clear_42 X (by omega) M0 hH0 ).le (by decide)) (fun M1 ⟨hH1, hR1⟩ => ?_)
 have hF1 := hF0.tr hR1 (by decide +kernel)
 refine jx_load c1 hm rfl rfl rfl rfl ?_
 refine jx_load c1 hm rfl rfl rfl rfl ?_
 refine jx_load c1 hm rfl rfl rfl rfl ?_
 refine jy_ic c1 hm rfl (by decide) ?_
 refine jv_i c3 hm rfl pj_X7_readCond rfl rfl ⟨_, _, _, rfl, sh_42⟩ rfl ((ct_X7_readCond_42_1_5 9 (ct_X7_readOne_42_1_5 9) X (by omega) M1 hH1 1 ⟨by omega, by omega⟩ (by omega)).le (by decide)) (fun z2 M3 ⟨hH3, hR3, lz2, uz2⟩ => ?_)
 have hF3 := hF1.tr hR3 (by decide +kernel)
 refine jz_ne c1 hm 16 rfl rfl (fun h4 => ?_) (fun h4 => ?_)
 ·
  refine jx_load c1 hm rfl rfl rfl rfl ?_
  obtain ⟨z5, k6, lz5, uz5⟩ := hH3.ld (c := 1) (i := 6) (A := 0) (B := 4) (bs_19_4 _ _ (by omega) (by omega))
  refine jx_geti c1 hm rfl sh_1 rfl k6 ?_
  refine jz_eq c1 hm 35 rfl rfl (fun h7 => ?_) (fun h7 => ?_)
  ·
   refine jy_ic c1 hm rfl (by decide) ?_
   refine jx_goto c1 hm 40 rfl rfl ?_
   exact jx_retz c2 hm rfl rfl ⟨by omega, by omega⟩ ⟨_, rfl, hH3, hF3, by omega, by omega⟩
  refine jx_load c1 hm rfl rfl rfl rfl ?_
  refine jy_ic c1 hm rfl (by decide) ?_
  refine jx_load c1 hm rfl rfl rfl rfl ?_
  obtain ⟨z8, k9, lz8, uz8⟩ := hH3.ld (c := 1) (i := 5) (A := 0) (B := 940) (bs_19_3 _ _ (by omega) (by omega))
  refine jx_geti c1 hm rfl sh_1 rfl k9 ?_
  refine jv_i c3 hm rfl pj_X10_fails rfl rfl ⟨_, _, _, rfl, sh_1⟩ rfl ((ct_X10_fails_1 X (by omega) M3 hH3 1 ⟨by omega, by omega⟩ z8 ⟨by omega, by omega⟩).le (by decide)) (fun z10 M12 ⟨hH12, hR12, lz10, uz10, p11⟩ => ?_)
  have hF12 := hF3.tr hR12 (by decide +kernel)
  refine jz_eq c1 hm 39 rfl rfl (fun h13 => ?_) (fun h13 => ?_)
  ·
   refine jy_ic c1 hm rfl (by decide) ?_
   exact jx_retz c2 hm rfl rfl ⟨by omega, by omega⟩ ⟨_, rfl, hH12, hF12, by omega, by omega⟩
  exfalso; omega
 refine jy_ic c1 hm rfl (by decide) ?_
 exact jx_retz c2 hm rfl rfl ⟨by omega, by omega⟩ ⟨_, rfl, hH3, hF3, by omega, by omega⟩
def md_X11_sentence_0 : List (Nat × (Nat × Nat)) := [(0, (2, 2)), (0, (3, 3)), (1, (2, 2)), (1, (3, 3)), (1, (4, 4)), (1, (5, 5)), (1, (6, 6)), (1, (7, 7)), (1, (9, 9)), (1, (11, 11)), (1, (12, 12)), (1, (13, 13)), (20, (2, 2)), (20, (3, 3)), (21, (0, 39)), (42, (2, 2)), (42, (3, 3)), (43, (0, 39))]
theorem ct_X11_sentence_0 (X : Int) (hX : 0 ≤ X ∧ X ≤ 100000000) (M0 : JM) (hH0 : HI X M0)  : JOk shp PJ 26 64 [.inr (.inr (.inl 0))] M0 (jRi (fun v M' => HI X M' ∧ Fr md_X11_sentence_0 M0 M' ∧ (-941) ≤ v ∧ v ≤ 20 )) := by
 refine ⟨jr_X11_sentence, pj_X11_sentence, fun F c1 c2 c3 => ?_⟩
 have hm := pj_X11_sentence
 change F 0 [some (.inr (.inr (.inl 0))), none] [] M0
 have hF0 : Fr md_X11_sentence_0 M0 M0 := Fr.rf _ _
 refine jx_load c1 hm rfl rfl rfl rfl ?_
 refine jy_sp c1 hm rfl (by decide) ?_
 refine jv_v c3 hm rfl pj_X11_startTokens rfl rfl ⟨_, _, _, rfl, sh_0⟩ rfl ((ct_X11_startTokens_0 X (by omega) M0 hH0 200 ⟨by omega, by omega⟩).le (by decide)) (fun M1 ⟨hH1, hR1⟩ => ?_)
 have hF1 := hF0.tr hR1 (by decide +kernel)
 refine jx_load c1 hm rfl rfl rfl rfl ?_
 refine jx_getr c1 hm rfl sh_0 rfl ?_
 refine jx_getr c1 hm rfl sh_27 rfl ?_
 refine jx_load c1 hm rfl rfl rfl rfl ?_
 refine jx_getr c1 hm rfl sh_0 rfl ?_
 refine jx_load c1 hm rfl rfl rfl rfl ?_
 refine jx_getr c1 hm rfl sh_0 rfl ?_
 refine jv_i c3 hm rfl pj_X7_readWhole rfl rfl ⟨_, _, _, rfl, sh_42⟩ rfl ((ct_X7_readWhole_42_1_5 X (by omega) M1 hH1 ).le (by decide)) (fun z2 M3 ⟨hH3, hR3, lz2, uz2⟩ => ?_)
 have hF3 := hF1.tr hR3 (by decide +kernel)
 refine jx_stor c1 hm (L' := [some (.inr (.inr (.inl 0))), some (.inl z2)]) rfl rfl rfl rfl rfl ?_
 refine jx_load c1 hm rfl rfl rfl rfl ?_
 refine jx_load c1 hm rfl rfl rfl rfl ?_
 refine jx_getr c1 hm rfl sh_0 rfl ?_
 obtain ⟨z4, k5, lz4, uz4⟩ := hH3.ld (c := 1) (i := 12) (A := 0) (B := 4) (bs_19_8 _ _ (by omega) (by omega))
 refine jx_geti c1 hm rfl sh_1 rfl k5 ?_
 obtain ⟨M6, e6, hH6, hF6, k6, n6, _⟩ := mup hH3 hF3 (c := 0) (i := 3) (v := z4) (A := (-2147483648)) (B := 2147483647) (bs_18_2 _ _ (by omega) (by omega)) ⟨by omega, by omega⟩ (jin_of 1 rfl ⟨by omega, by omega⟩)
 refine jm_puti c1 hm rfl sh_0 rfl e6 ?_
 refine jx_load c1 hm rfl rfl rfl rfl ?_
 refine jz_ne c1 hm 51 rfl rfl (fun h7 => ?_) (fun h7 => ?_)
 ·
  refine jx_load c1 hm rfl rfl rfl rfl ?_
  refine jx_getr c1 hm rfl sh_0 rfl ?_
  refine jx_getr c1 hm rfl sh_5 rfl ?_
  refine jx_load c1 hm rfl rfl rfl rfl ?_
  refine jx_getr c1 hm rfl sh_0 rfl ?_
  refine jx_getr c1 hm rfl sh_27 rfl ?_
  refine jv_v c3 hm rfl pj_X7_takeAll rfl rfl ⟨_, _, _, rfl, sh_20⟩ rfl ((ct_X7_takeAll_20_42 X (by omega) M6 hH6 ).le (by decide)) (fun M8 ⟨hH8, hR8⟩ => ?_)
  have hF8 := hF6.tr hR8 (by decide +kernel)
  refine jx_load c1 hm rfl rfl rfl rfl ?_
  refine jx_getr c1 hm rfl sh_0 rfl ?_
  refine jx_getr c1 hm rfl sh_5 rfl ?_
  obtain ⟨z9, k10, lz9, uz9⟩ := hH8.ld (c := 20) (i := 3) (A := 0) (B := 20) (bs_21_2 _ _ (by omega) (by omega))
  refine jx_geti c1 hm rfl sh_20 rfl k10 ?_
  exact jx_reti c2 hm rfl rfl ⟨_, rfl, hH8, hF8, by omega, by omega⟩
 refine jy_ic c1 hm rfl (by decide) ?_
 refine jx_load c1 hm rfl rfl rfl rfl ?_
 refine jx_getr c1 hm rfl sh_0 rfl ?_
 obtain ⟨z11, k12, lz11, uz11⟩ := hH6.ld (c := 1) (i := 13) (A := 0) (B := 940) (bs_19_9 _ _ (by omega) (by omega))
 refine jx_geti c1 hm rfl sh_1 rfl k12 ?_
 refine jy_sub c1 hm (-z11 - 1) rfl (by omega) ?_
 exact jx_reti c2 hm rfl rfl ⟨_, rfl, hH6, hF6, by omega, by omega⟩
theorem ct_X7_holds (X : Int) (hX : 0 ≤ X ∧ X ≤ 100000000) (M0 : JM) (hH0 : HI X M0) (a0 : Int) (ha0 : (-2147483648) ≤ a0 ∧ a0 ≤ 2147483647) (a1 : Int) (ha1 : (-2147483648) ≤ a1 ∧ a1 ≤ 2147483647) (a2 : Int) (ha2 : (-2147483648) ≤ a2 ∧ a2 ≤ 2147483647) : JOk shp PJ 1 252 [.inl a0, .inl a1, .inl a2] M0 (jRi (fun v M' => M0 = M' ∧ 0 ≤ v ∧ v ≤ 1 )) := by
 refine ⟨jr_X7_holds, pj_X7_holds, fun F c1 c2 c3 => ?_⟩
 have hm := pj_X7_holds
 change F 0 [some (.inl a0), some (.inl a1), some (.inl a2)] [] M0
 refine jx_load c1 hm rfl rfl rfl rfl ?_
 refine jy_bp c1 hm rfl (by decide) ?_
 refine jc_ne c1 hm 19 rfl rfl (fun h1 => ?_) (fun h1 => ?_)
 ·
  refine jx_load c1 hm rfl rfl rfl rfl ?_
  refine jy_bp c1 hm rfl (by decide) ?_
  refine jc_ne c1 hm 38 rfl rfl (fun h2 => ?_) (fun h2 => ?_)
  ·
   refine jx_load c1 hm rfl rfl rfl rfl ?_
   refine jx_load c1 hm rfl rfl rfl rfl ?_
   refine jc_ne c1 hm 47 rfl rfl (fun h3 => ?_) (fun h3 => ?_)
   ·
    refine jy_ic c1 hm rfl (by decide) ?_
    exact jx_retz c2 hm rfl rfl ⟨by omega, by omega⟩ ⟨_, rfl, rfl, by omega, by omega⟩
   refine jy_ic c1 hm rfl (by decide) ?_
   refine jx_goto c1 hm 48 rfl rfl ?_
   exact jx_retz c2 hm rfl rfl ⟨by omega, by omega⟩ ⟨_, rfl, rfl, by omega, by omega⟩
  refine jx_load c1 hm rfl rfl rfl rfl ?_
  refine jx_load c1 hm rfl rfl rfl rfl ?_
  refine jc_le c1 hm 34 rfl rfl (fun h4 => ?_) (fun h4 => ?_)
  ·
   refine jy_ic c1 hm rfl (by decide) ?_
   refine jx_goto c1 hm 48 rfl rfl ?_
   exact jx_retz c2 hm rfl rfl ⟨by omega, by omega⟩ ⟨_, rfl, rfl, by omega, by omega⟩
  refine jy_ic c1 hm rfl (by decide) ?_
  refine jx_goto c1 hm 48 rfl rfl ?_
  exact jx_retz c2 hm rfl rfl ⟨by omega, by omega⟩ ⟨_, rfl, rfl, by omega, by omega⟩
 refine jx_load c1 hm rfl rfl rfl rfl ?_
 refine jx_load c1 hm rfl rfl rfl rfl ?_
 refine jc_ge c1 hm 15 rfl rfl (fun h5 => ?_) (fun h5 => ?_)
 ·
  refine jy_ic c1 hm rfl (by decide) ?_
  refine jx_goto c1 hm 48 rfl rfl ?_
  exact jx_retz c2 hm rfl rfl ⟨by omega, by omega⟩ ⟨_, rfl, rfl, by omega, by omega⟩
 refine jy_ic c1 hm rfl (by decide) ?_
 refine jx_goto c1 hm 48 rfl rfl ?_
 exact jx_retz c2 hm rfl rfl ⟨by omega, by omega⟩ ⟨_, rfl, rfl, by omega, by omega⟩
theorem ct_X7_isSo_5 (X : Int) (hX : 0 ≤ X ∧ X ≤ 100000000) (M0 : JM) (hH0 : HI X M0) (a0 : Int) (ha0 : (-2147483648) ≤ a0 ∧ a0 ≤ 2147483647) (a1 : Int) (ha1 : 0 ≤ a1 ∧ a1 ≤ 5) : JOk shp PJ 3 253 [.inr (.inr (.inl 5)), .inl a0, .inl a1] M0 (jRi (fun v M' => M0 = M' ∧ 0 ≤ v ∧ v ≤ 1 )) := by
 refine ⟨jr_X7_isSo, pj_X7_isSo, fun F c1 c2 c3 => ?_⟩
 have hm := pj_X7_isSo
 change F 0 [some (.inr (.inr (.inl 5))), some (.inl a0), some (.inl a1), none, none, none, none] [] M0
 refine jx_load c1 hm rfl rfl rfl rfl ?_
 refine jx_getr c1 hm rfl sh_5 rfl ?_
 refine jx_stor c1 hm (L' := [some (.inr (.inr (.inl 5))), some (.inl a0), some (.inl a1), some (.inr (.inr (.inl 12))), none, none, none]) rfl rfl rfl rfl rfl ?_
 refine jx_load c1 hm rfl rfl rfl rfl ?_
 refine jy_bp c1 hm rfl (by decide) ?_
 refine jy_ush c1 hm rfl (by omega) (fun z1 lz1 uz1 => ?_)
 refine jx_stor c1 hm (L' := [some (.inr (.inr (.inl 5))), some (.inl a0), some (.inl a1), some (.inr (.inr (.inl 12))), some (.inl z1), none, none]) rfl rfl rfl rfl rfl ?_
 refine jx_load c1 hm rfl rfl rfl rfl ?_
 refine jy_bp c1 hm rfl (by decide) ?_
 refine jy_ush c1 hm rfl (by omega) (fun z2 lz2 uz2 => ?_)
 refine jy_sp c1 hm rfl (by decide) ?_
 refine jy_anr c1 hm rfl ⟨by omega, by omega⟩ (fun z3 lz3 uz3 => ?_)
 refine jx_stor c1 hm (L' := [some (.inr (.inr (.inl 5))), some (.inl a0), some (.inl a1), some (.inr (.inr (.inl 12))), some (.inl z1), some (.inl z3), none]) rfl rfl rfl rfl rfl ?_
 refine jx_load c1 hm rfl rfl rfl rfl ?_
 refine jy_bp c1 hm rfl (by decide) ?_
 refine jy_mul c1 hm (6 * a1) rfl (by omega) ?_
 refine jx_load c1 hm rfl rfl rfl rfl ?_
 refine jy_ic c1 hm rfl (by decide) ?_
 refine jx_min c1 hm rfl rfl (fun z4 lz4 uz4 ez4 => ?_)
 refine jy_add c1 hm (6 * a1 + z4) rfl (by omega) ?_
 refine jx_stor c1 hm (L' := [some (.inr (.inr (.inl 5))), some (.inl a0), some (.inl a1), some (.inr (.inr (.inl 12))), some (.inl z1), some (.inl z3), some (.inl (6 * a1 + z4))]) rfl rfl rfl rfl rfl ?_
 refine jx_load c1 hm rfl rfl rfl rfl ?_
 refine jy_sp c1 hm rfl (by decide) ?_
 refine jy_anr c1 hm rfl ⟨by omega, by omega⟩ (fun z5 lz5 uz5 => ?_)
 by_cases h6 : z5 = 16
 ·
  refine jx_tswI c1 hm 80 rfl ⟨by omega, by omega⟩ (by rw [h6] <;> rfl) rfl ?_
  refine jx_load c1 hm rfl rfl rfl rfl ?_
  refine jx_getr c1 hm rfl sh_12 rfl ?_
  refine jx_load c1 hm rfl rfl rfl rfl ?_
  obtain ⟨z7, k8, lz7, uz7⟩ := hH0.ld (c := 13) (i := (a1).toNat) (A := (-2147483648)) (B := 2147483647) rfl
  refine jx_iald c1 hm rfl sh_13 ⟨by omega, by omega⟩ k8 ?_
  refine jx_load c1 hm rfl rfl rfl rfl ?_
  refine jx_getr c1 hm rfl sh_5 rfl ?_
  refine jx_load c1 hm rfl rfl rfl rfl ?_
  obtain ⟨z9, k10, lz9, uz9⟩ := hH0.ld (c := 8) (i := (a1).toNat) (A := 0) (B := 99) rfl
  refine jx_iald c1 hm rfl sh_8 ⟨by omega, by omega⟩ k10 ?_
  refine jc_ne c1 hm 99 rfl rfl (fun h11 => ?_) (fun h11 => ?_)
  ·
   refine jy_ic c1 hm rfl (by decide) ?_
   exact jx_retz c2 hm rfl rfl ⟨by omega, by omega⟩ ⟨_, rfl, rfl, by omega, by omega⟩
  refine jy_ic c1 hm rfl (by decide) ?_
  refine jx_goto c1 hm 100 rfl rfl ?_
  exact jx_retz c2 hm rfl rfl ⟨by omega, by omega⟩ ⟨_, rfl, rfl, by omega, by omega⟩
 by_cases h12 : z5 = 17
 ·
  refine jx_tswI c1 hm 101 rfl ⟨by omega, by omega⟩ (by rw [h12] <;> rfl) rfl ?_
  refine jx_load c1 hm rfl rfl rfl rfl ?_
  refine jx_getr c1 hm rfl sh_12 rfl ?_
  refine jx_load c1 hm rfl rfl rfl rfl ?_
  obtain ⟨z13, k14, lz13, uz13⟩ := hH0.ld (c := 17) (i := ((6 * a1 + z4)).toNat) (A := (-2147483648)) (B := 2147483647) rfl
  refine jx_iald c1 hm rfl sh_17 ⟨by omega, by omega⟩ k14 ?_
  refine jz_le c1 hm 115 rfl rfl (fun h15 => ?_) (fun h15 => ?_)
  ·
   refine jy_ic c1 hm rfl (by decide) ?_
   exact jx_retz c2 hm rfl rfl ⟨by omega, by omega⟩ ⟨_, rfl, rfl, by omega, by omega⟩
  refine jy_ic c1 hm rfl (by decide) ?_
  refine jx_goto c1 hm 116 rfl rfl ?_
  exact jx_retz c2 hm rfl rfl ⟨by omega, by omega⟩ ⟨_, rfl, rfl, by omega, by omega⟩
 by_cases h16 : z5 = 18
 ·
  refine jx_tswI c1 hm 117 rfl ⟨by omega, by omega⟩ (by rw [h16] <;> rfl) rfl ?_
  refine jx_load c1 hm rfl rfl rfl rfl ?_
  refine jx_getr c1 hm rfl sh_12 rfl ?_
  refine jx_load c1 hm rfl rfl rfl rfl ?_
  obtain ⟨z17, k18, lz17, uz17⟩ := hH0.ld (c := 19) (i := ((6 * a1 + z4)).toNat) (A := (-2147483648)) (B := 2147483647) rfl
  refine jx_iald c1 hm rfl sh_19 ⟨by omega, by omega⟩ k18 ?_
  refine jz_le c1 hm 131 rfl rfl (fun h19 => ?_) (fun h19 => ?_)
  ·
   refine jy_ic c1 hm rfl (by decide) ?_
   exact jx_retz c2 hm rfl rfl ⟨by omega, by omega⟩ ⟨_, rfl, rfl, by omega, by omega⟩
  refine jy_ic c1 hm rfl (by decide) ?_
  refine jx_goto c1 hm 132 rfl rfl ?_
  exact jx_retz c2 hm rfl rfl ⟨by omega, by omega⟩ ⟨_, rfl, rfl, by omega, by omega⟩
 by_cases h20 : z5 = 19
 ·
  refine jx_tswI c1 hm 133 rfl ⟨by omega, by omega⟩ (by rw [h20] <;> rfl) rfl ?_
  refine jx_load c1 hm rfl rfl rfl rfl ?_
  refine jx_getr c1 hm rfl sh_12 rfl ?_
  refine jx_load c1 hm rfl rfl rfl rfl ?_
  obtain ⟨z21, k22, lz21, uz21⟩ := hH0.ld (c := 18) (i := ((6 * a1 + z4)).toNat) (A := 0) (B := 1 * X) rfl
  refine jx_iald c1 hm rfl sh_18 ⟨by omega, by omega⟩ k22 ?_
  refine jz_le c1 hm 147 rfl rfl (fun h23 => ?_) (fun h23 => ?_)
  ·
   refine jy_ic c1 hm rfl (by decide) ?_
   exact jx_retz c2 hm rfl rfl ⟨by omega, by omega⟩ ⟨_, rfl, rfl, by omega, by omega⟩
  refine jy_ic c1 hm rfl (by decide) ?_
  refine jx_goto c1 hm 148 rfl rfl ?_
  exact jx_retz c2 hm rfl rfl ⟨by omega, by omega⟩ ⟨_, rfl, rfl, by omega, by omega⟩
 by_cases h24 : z5 = 20
 ·
  refine jx_tswI c1 hm 149 rfl ⟨by omega, by omega⟩ (by rw [h24] <;> rfl) rfl ?_
  refine jx_load c1 hm rfl rfl rfl rfl ?_
  refine jx_getr c1 hm rfl sh_12 rfl ?_
  refine jx_load c1 hm rfl rfl rfl rfl ?_
  obtain ⟨z25, k26, lz25, uz25⟩ := hH0.ld (c := 13) (i := (a1).toNat) (A := (-2147483648)) (B := 2147483647) rfl
  refine jx_iald c1 hm rfl sh_13 ⟨by omega, by omega⟩ k26 ?_
  refine jx_load c1 hm rfl rfl rfl rfl ?_
  refine jx_load c1 hm rfl rfl rfl rfl ?_
  refine jt_i c3 hm rfl rfl pj_X7_holds rfl rfl rfl ((ct_X7_holds X (by omega) M0 hH0 z25 ⟨by omega, by omega⟩ z3 ⟨by omega, by omega⟩ z1 ⟨by omega, by omega⟩).le (by decide)) (fun z27 _ ⟨rfl, lz27, uz27⟩ => ?_)
  exact jx_retz c2 hm rfl rfl ⟨by omega, by omega⟩ ⟨_, rfl, rfl, by omega, by omega⟩
 by_cases h28 : z5 = 21
 ·
  refine jx_tswI c1 hm 163 rfl ⟨by omega, by omega⟩ (by rw [h28] <;> rfl) rfl ?_
  refine jx_load c1 hm rfl rfl rfl rfl ?_
  refine jx_getr c1 hm rfl sh_12 rfl ?_
  refine jx_load c1 hm rfl rfl rfl rfl ?_
  obtain ⟨z29, k30, lz29, uz29⟩ := hH0.ld (c := 14) (i := (a1).toNat) (A := (-2147483648)) (B := 2147483647) rfl
  refine jx_iald c1 hm rfl sh_14 ⟨by omega, by omega⟩ k30 ?_
  refine jx_load c1 hm rfl rfl rfl rfl ?_
  refine jx_load c1 hm rfl rfl rfl rfl ?_
  refine jt_i c3 hm rfl rfl pj_X7_holds rfl rfl rfl ((ct_X7_holds X (by omega) M0 hH0 z29 ⟨by omega, by omega⟩ z3 ⟨by omega, by omega⟩ z1 ⟨by omega, by omega⟩).le (by decide)) (fun z31 _ ⟨rfl, lz31, uz31⟩ => ?_)
  exact jx_retz c2 hm rfl rfl ⟨by omega, by omega⟩ ⟨_, rfl, rfl, by omega, by omega⟩
 by_cases h32 : z5 = 22
 ·
  refine jx_tswI c1 hm 177 rfl ⟨by omega, by omega⟩ (by rw [h32] <;> rfl) rfl ?_
  refine jx_load c1 hm rfl rfl rfl rfl ?_
  refine jx_load c1 hm rfl rfl rfl rfl ?_
  refine jv_i c3 hm rfl pj_X8_allOwedBy rfl rfl ⟨_, _, _, rfl, sh_12⟩ rfl ((ct_X8_allOwedBy_12 X (by omega) M0 hH0 a1 ⟨by omega, by omega⟩).le (by decide)) (fun z33 _ ⟨rfl, lz33, uz33⟩ => ?_)
  refine jx_load c1 hm rfl rfl rfl rfl ?_
  refine jx_load c1 hm rfl rfl rfl rfl ?_
  refine jt_i c3 hm rfl rfl pj_X7_holds rfl rfl rfl ((ct_X7_holds X (by omega) M0 hH0 z33 ⟨by omega, by omega⟩ z3 ⟨by omega, by omega⟩ z1 ⟨by omega, by omega⟩).le (by decide)) (fun z34 _ ⟨rfl, lz34, uz34⟩ => ?_)
  exact jx_retz c2 hm rfl rfl ⟨by omega, by omega⟩ ⟨_, rfl, rfl, by omega, by omega⟩
 refine jx_tswO c1 hm 190 rfl (by omega) rfl ?_
 refine jx_load c1 hm rfl rfl rfl rfl ?_
 refine jx_load c1 hm rfl rfl rfl rfl ?_
 refine jx_load c1 hm rfl rfl rfl rfl ?_
 refine jt_i c3 hm rfl rfl pj_X7_holds rfl rfl rfl ((ct_X7_holds X (by omega) M0 hH0 a1 ⟨by omega, by omega⟩ z3 ⟨by omega, by omega⟩ z1 ⟨by omega, by omega⟩).le (by decide)) (fun z35 _ ⟨rfl, lz35, uz35⟩ => ?_)
 exact jx_retz c2 hm rfl rfl ⟨by omega, by omega⟩ ⟨_, rfl, rfl, by omega, by omega⟩
theorem ct_X7_menOfOne_5 (X : Int) (hX : 0 ≤ X ∧ X ≤ 100000000) (M0 : JM) (hH0 : HI X M0) (a0 : Int) (ha0 : (-2147483648) ≤ a0 ∧ a0 ≤ 2147483647) : JOk shp PJ 4 255 [.inr (.inr (.inl 5)), .inl a0] M0 (jRi (fun v M' => M0 = M' ∧ (-2147483648) ≤ v ∧ v ≤ 2147483647 )) := by
 refine ⟨jr_X7_menOfOne, pj_X7_menOfOne, fun F c1 c2 c3 => ?_⟩
 have hm := pj_X7_menOfOne
 change F 0 [some (.inr (.inr (.inl 5))), some (.inl a0), none, none] [] M0
 refine jy_ic c1 hm rfl (by decide) ?_
 refine jx_stor c1 hm (L' := [some (.inr (.inr (.inl 5))), some (.inl a0), some (.inl 0), none]) rfl rfl rfl rfl rfl ?_
 refine jy_ic c1 hm rfl (by decide) ?_
 refine jx_stor c1 hm (L' := [some (.inr (.inr (.inl 5))), some (.inl a0), some (.inl 0), some (.inl 0)]) rfl rfl rfl rfl rfl ?_
 have W3 : ∀ (n4 : Nat) (b1 : Int) (hb1 : (-2147483648) ≤ b1 ∧ b1 ≤ 2147483647) (b2 : Int) (hb2 : 0 ≤ b2 ∧ b2 ≤ 6), (-b2 + 6) < (n4 : Int) → F 4 [some (.inr (.inr (.inl 5))), some (.inl a0), some (.inl b1), some (.inl b2)] [] M0 := by
  intro n4
  induction n4 with
  | zero => intros; omega
  | succ n4 ihW3 =>
   intro b1 hb1 b2 hb2 hrW3
   refine jx_load c1 hm rfl rfl rfl rfl ?_
   refine jx_load c1 hm rfl rfl rfl rfl ?_
   refine jv_i c3 hm rfl pj_X2_men rfl rfl ⟨_, _, _, rfl, sh_5⟩ rfl ((ct_X2_men_5 X (by omega) M0 hH0 ).le (by decide)) (fun z5 _ ⟨rfl, lz5, uz5⟩ => ?_)
   refine jc_ge c1 hm 33 rfl rfl (fun h6 => ?_) (fun h6 => ?_)
   ·
    refine jx_load c1 hm rfl rfl rfl rfl ?_
    exact jx_reti c2 hm rfl rfl ⟨_, rfl, rfl, by omega, by omega⟩
   refine jx_load c1 hm rfl rfl rfl rfl ?_
   refine jx_load c1 hm rfl rfl rfl rfl ?_
   refine jx_load c1 hm rfl rfl rfl rfl ?_
   refine jt_i c3 hm rfl rfl pj_X7_isSo rfl rfl rfl ((ct_X7_isSo_5 X (by omega) M0 hH0 a0 ⟨by omega, by omega⟩ b2 ⟨by omega, by omega⟩).le (by decide)) (fun z7 _ ⟨rfl, lz7, uz7⟩ => ?_)
   have J12 : ∀ (b11 : Int) (hb11 : (-2147483648) ≤ b11 ∧ b11 ≤ 2147483647), F 27 [some (.inr (.inr (.inl 5))), some (.inl a0), some (.inl b11), some (.inl b2)] [] M0 := by
    intro b11 hb11
    refine jx_iinc c1 hm (v := (b2 + 1)) (L' := [some (.inr (.inr (.inl 5))), some (.inl a0), some (.inl b11), some (.inl (b2 + 1))]) rfl rfl (by omega) (by omega) rfl ?_
    refine jx_goto c1 hm 4 rfl rfl ?_
    exact ihW3 b11 (by omega) (b2 + 1) (by omega) (by omega)
   refine jz_eq c1 hm 27 rfl rfl (fun h8 => ?_) (fun h8 => ?_)
   ·
    exact J12 b1 (by omega)
   refine jx_load c1 hm rfl rfl rfl rfl ?_
   refine jy_ic c1 hm rfl (by decide) ?_
   refine jx_load c1 hm rfl rfl rfl rfl ?_
   refine jy_sh1 c1 hm rfl ⟨by omega, by omega⟩ (fun z9 lz9 uz9 => ?_)
   refine jx_iopw c1 hm rfl rfl (fun z10 lz10 uz10 => ?_)
   refine jx_stor c1 hm (L' := [some (.inr (.inr (.inl 5))), some (.inl a0), some (.inl z10), some (.inl b2)]) rfl rfl rfl rfl rfl ?_
   exact J12 z10 (by omega)
 exact W3 (6 + 1 : Int).toNat 0 (by omega) 0 (by omega) (by omega)
def md_X7_menOf_20_5 : List (Nat × (Nat × Nat)) := [(22, (0, 19))]
theorem ct_X7_menOf_20_5 (X : Int) (hX : 0 ≤ X ∧ X ≤ 100000000) (M0 : JM) (hH0 : HI X M0)  : JOk shp PJ 5 254 [.inr (.inr (.inl 20)), .inr (.inr (.inl 5))] M0 (jRi (fun v M' => HI X M' ∧ Fr md_X7_menOf_20_5 M0 M' ∧ (-2147483648) ≤ v ∧ v ≤ 2147483647 )) := by
 refine ⟨jr_X7_menOf, pj_X7_menOf, fun F c1 c2 c3 => ?_⟩
 have hm := pj_X7_menOf
 change F 0 [some (.inr (.inr (.inl 20))), some (.inr (.inr (.inl 5))), none, none, none, none, none, none] [] M0
 have hF0 : Fr md_X7_menOf_20_5 M0 M0 := Fr.rf _ _
 refine jy_ic c1 hm rfl (by decide) ?_
 refine jx_load c1 hm rfl rfl rfl rfl ?_
 refine jv_i c3 hm rfl pj_X2_men rfl rfl ⟨_, _, _, rfl, sh_5⟩ rfl ((ct_X2_men_5 X (by omega) M0 hH0 ).le (by decide)) (fun z1 _ ⟨rfl, lz1, uz1⟩ => ?_)
 refine jy_sh1 c1 hm rfl ⟨by omega, by omega⟩ (fun z2 lz2 uz2 => ?_)
 refine jy_ic c1 hm rfl (by decide) ?_
 refine jy_sub c1 hm (z2 - 1) rfl (by omega) ?_
 refine jx_stor c1 hm (L' := [some (.inr (.inr (.inl 20))), some (.inr (.inr (.inl 5))), some (.inl (z2 - 1)), none, none, none, none, none]) rfl rfl rfl rfl rfl ?_
 refine jy_ic c1 hm rfl (by decide) ?_
 refine jx_stor c1 hm (L' := [some (.inr (.inr (.inl 20))), some (.inr (.inr (.inl 5))), some (.inl (z2 - 1)), some (.inl 0), none, none, none, none]) rfl rfl rfl rfl rfl ?_
 refine jy_ic c1 hm rfl (by decide) ?_
 refine jx_stor c1 hm (L' := [some (.inr (.inr (.inl 20))), some (.inr (.inr (.inl 5))), some (.inl (z2 - 1)), some (.inl 0), some (.inl 0), none, none, none]) rfl rfl rfl rfl rfl ?_
 have W9 : ∀ (n10 : Nat) (b3 : Int) (hb3 : 0 ≤ b3 ∧ b3 ≤ 20) (b4 : Int) (hb4 : 0 ≤ b4 ∧ b4 ≤ 40) (o5 : Option JV) (ho5 : o5 = none ∨ (∃ z, o5 = some (.inl z)) ∨ ∃ r, o5 = some (.inr (.inr r))) (o6 : Option JV) (ho6 : o6 = none ∨ (∃ z, o6 = some (.inl z)) ∨ ∃ r, o6 = some (.inr (.inr r))) (o7 : Option JV) (ho7 : o7 = none ∨ (∃ z, o7 = some (.inl z)) ∨ ∃ r, o7 = some (.inr (.inr r))) (M8 : JM) (hH8 : HI (X) M8) (hF8 : Fr md_X7_menOf_20_5 M0 M8), (-b4 + 40) < (n10 : Int) → F 14 [some (.inr (.inr (.inl 20))), some (.inr (.inr (.inl 5))), some (.inl (z2 - 1)), some (.inl b3), some (.inl b4), o5, o6, o7] [] M8 := by
  intro n10
  induction n10 with
  | zero => intros; omega
  | succ n10 ihW9 =>
   intro b3 hb3 b4 hb4 o5 ho5 o6 ho6 o7 ho7 M8 hH8 hF8 hrW9
   refine jx_load c1 hm rfl rfl rfl rfl ?_
   refine jx_load c1 hm rfl rfl rfl rfl ?_
   obtain ⟨z11, k12, lz11, uz11⟩ := hH8.ld (c := 20) (i := 2) (A := 0) (B := 40) (bs_21_1 _ _ (by omega) (by omega))
   refine jx_geti c1 hm rfl sh_20 rfl k12 ?_
   refine jc_ge c1 hm 166 rfl rfl (fun h13 => ?_) (fun h13 => ?_)
   ·
    refine jx_load c1 hm rfl rfl rfl rfl ?_
    refine jy_ic c1 hm rfl (by decide) ?_
    refine jc_lt c1 hm 180 rfl rfl (fun h51 => ?_) (fun h51 => ?_)
    ·
     refine jy_ic c1 hm rfl (by decide) ?_
     exact jx_reti c2 hm rfl rfl ⟨_, rfl, hH8, hF8, by omega, by omega⟩
    refine jx_load c1 hm rfl rfl rfl rfl ?_
    refine jx_getr c1 hm rfl sh_20 rfl ?_
    refine jy_ic c1 hm rfl (by decide) ?_
    obtain ⟨z52, k53, lz52, uz52⟩ := hH8.ld (c := 22) (i := 0) (A := (-2147483648)) (B := 2147483647) rfl
    refine jx_iald c1 hm rfl sh_22 ⟨by omega, by omega⟩ k53 ?_
    refine jx_goto c1 hm 181 rfl rfl ?_
    exact jx_reti c2 hm rfl rfl ⟨_, rfl, hH8, hF8, by omega, by omega⟩
   refine jx_load c1 hm rfl rfl rfl rfl ?_
   refine jx_getr c1 hm rfl sh_20 rfl ?_
   refine jx_load c1 hm rfl rfl rfl rfl ?_
   obtain ⟨z14, k15, lz14, uz14⟩ := hH8.ld (c := 21) (i := (b4).toNat) (A := (-2147483648)) (B := 2147483647) rfl
   refine jx_iald c1 hm rfl sh_21 ⟨by omega, by omega⟩ k15 ?_
   refine jy_sp c1 hm rfl (by decide) ?_
   refine jy_anr c1 hm rfl ⟨by omega, by omega⟩ (fun z16 lz16 uz16 => ?_)
   refine jx_stor c1 hm (L' := [some (.inr (.inr (.inl 20))), some (.inr (.inr (.inl 5))), some (.inl (z2 - 1)), some (.inl b3), some (.inl b4), some (.inl z16), o6, o7]) rfl rfl rfl rfl rfl ?_
   refine jx_load c1 hm rfl rfl rfl rfl ?_
   refine jy_bp c1 hm rfl (by decide) ?_
   have J50 : ∀ (b46 : Int) (hb46 : 0 ≤ b46 ∧ b46 ≤ 20) (o47 : Option JV) (ho47 : o47 = none ∨ (∃ z, o47 = some (.inl z)) ∨ ∃ r, o47 = some (.inr (.inr r))) (o48 : Option JV) (ho48 : o48 = none ∨ (∃ z, o48 = some (.inl z)) ∨ ∃ r, o48 = some (.inr (.inr r))) (M49 : JM) (hH49 : HI (X) M49) (hF49 : Fr md_X7_menOf_20_5 M0 M49), F 160 [some (.inr (.inr (.inl 20))), some (.inr (.inr (.inl 5))), some (.inl (z2 - 1)), some (.inl b46), some (.inl b4), some (.inl z16), o47, o48] [] M49 := by
    intro b46 hb46 o47 ho47 o48 ho48 M49 hH49 hF49
    refine jx_iinc c1 hm (v := (b4 + 1)) (L' := [some (.inr (.inr (.inl 20))), some (.inr (.inr (.inl 5))), some (.inl (z2 - 1)), some (.inl b46), some (.inl (b4 + 1)), some (.inl z16), o47, o48]) rfl rfl (by omega) (by omega) rfl ?_
    refine jx_goto c1 hm 14 rfl rfl ?_
    exact ihW9 b46 (by omega) (b4 + 1) (by omega) (some (.inl z16)) (Or.inr (Or.inl ⟨_, rfl⟩)) o47 ho47 o48 ho48 M49 hH49 hF49 (by omega)
   refine jc_ne c1 hm 63 rfl rfl (fun h17 => ?_) (fun h17 => ?_)
   ·
    refine jx_load c1 hm rfl rfl rfl rfl ?_
    refine jy_bp c1 hm rfl (by decide) ?_
    refine jc_eq c1 hm 77 rfl rfl (fun h18 => ?_) (fun h18 => ?_)
    ·
     refine jx_load c1 hm rfl rfl rfl rfl ?_
     refine jy_ic c1 hm rfl (by decide) ?_
     refine jc_lt c1 hm 160 rfl rfl (fun h19 => ?_) (fun h19 => ?_)
     ·
      exact J50 b3 (by omega) o6 ho6 o7 ho7 M8 hH8 hF8
     refine jx_iinc c1 hm (v := (b3 - 1)) (L' := [some (.inr (.inr (.inl 20))), some (.inr (.inr (.inl 5))), some (.inl (z2 - 1)), some (.inl (b3 - 1)), some (.inl b4), some (.inl z16), o6, o7]) rfl rfl (by omega) (by omega) rfl ?_
     refine jx_load c1 hm rfl rfl rfl rfl ?_
     refine jx_getr c1 hm rfl sh_20 rfl ?_
     refine jx_load c1 hm rfl rfl rfl rfl ?_
     obtain ⟨z20, k21, lz20, uz20⟩ := hH8.ld (c := 22) (i := ((b3 - 1)).toNat) (A := (-2147483648)) (B := 2147483647) rfl
     refine jx_iald c1 hm rfl sh_22 ⟨by omega, by omega⟩ k21 ?_
     refine jx_stor c1 hm (L' := [some (.inr (.inr (.inl 20))), some (.inr (.inr (.inl 5))), some (.inl (z2 - 1)), some (.inl (b3 - 1)), some (.inl b4), some (.inl z16), some (.inl z20), o7]) rfl rfl rfl rfl rfl ?_
     refine jx_load c1 hm rfl rfl rfl rfl ?_
     refine jx_getr c1 hm rfl sh_20 rfl ?_
     refine jx_load c1 hm rfl rfl rfl rfl ?_
     refine jy_ic c1 hm rfl (by decide) ?_
     refine jy_sub c1 hm (b3 - 2) rfl (by omega) ?_
     obtain ⟨z22, k23, lz22, uz22⟩ := hH8.ld (c := 22) (i := ((b3 - 2)).toNat) (A := (-2147483648)) (B := 2147483647) rfl
     refine jx_iald c1 hm rfl sh_22 ⟨by omega, by omega⟩ k23 ?_
     refine jx_stor c1 hm (L' := [some (.inr (.inr (.inl 20))), some (.inr (.inr (.inl 5))), some (.inl (z2 - 1)), some (.inl (b3 - 1)), some (.inl b4), some (.inl z16), some (.inl z20), some (.inl z22)]) rfl rfl rfl rfl rfl ?_
     refine jx_load c1 hm rfl rfl rfl rfl ?_
     refine jx_getr c1 hm rfl sh_20 rfl ?_
     refine jx_load c1 hm rfl rfl rfl rfl ?_
     refine jy_ic c1 hm rfl (by decide) ?_
     refine jy_sub c1 hm (b3 - 2) rfl (by omega) ?_
     refine jx_load c1 hm rfl rfl rfl rfl ?_
     refine jy_bp c1 hm rfl (by decide) ?_
     refine jc_ne c1 hm 125 rfl rfl (fun h24 => ?_) (fun h24 => ?_)
     ·
      exfalso; omega
     refine jx_load c1 hm rfl rfl rfl rfl ?_
     refine jx_load c1 hm rfl rfl rfl rfl ?_
     refine jx_iopw c1 hm rfl rfl (fun z25 lz25 uz25 => ?_)
     refine jx_goto c1 hm 130 rfl rfl ?_
     obtain ⟨M26, e26, hH26, hF26, k26, n26, _⟩ := mup hH8 hF8 (c := 22) (i := ((b3 - 2)).toNat) (v := z25) (A := (-2147483648)) (B := 2147483647) rfl ⟨by omega, by omega⟩ (jin_of 0 rfl ⟨by omega, by omega⟩)
     refine jm_iast c1 hm rfl sh_22 ⟨by omega, by omega⟩ e26 ?_
     refine jx_goto c1 hm 160 rfl rfl ?_
     exact J50 (b3 - 1) (by omega) (some (.inl z20)) (Or.inr (Or.inl ⟨_, rfl⟩)) (some (.inl z22)) (Or.inr (Or.inl ⟨_, rfl⟩)) M26 hH26 hF26
    refine jx_load c1 hm rfl rfl rfl rfl ?_
    refine jy_bp c1 hm rfl (by decide) ?_
    refine jc_ne c1 hm 134 rfl rfl (fun h27 => ?_) (fun h27 => ?_)
    ·
     refine jx_load c1 hm rfl rfl rfl rfl ?_
     refine jy_bp c1 hm rfl (by decide) ?_
     refine jc_ge c1 hm 160 rfl rfl (fun h28 => ?_) (fun h28 => ?_)
     ·
      exact J50 b3 (by omega) o6 ho6 o7 ho7 M8 hH8 hF8
     refine jx_load c1 hm rfl rfl rfl rfl ?_
     refine jx_getr c1 hm rfl sh_20 rfl ?_
     refine jx_load c1 hm rfl rfl rfl rfl ?_
     refine jx_load c1 hm rfl rfl rfl rfl ?_
     refine jx_load c1 hm rfl rfl rfl rfl ?_
     refine jx_getr c1 hm rfl sh_20 rfl ?_
     refine jx_load c1 hm rfl rfl rfl rfl ?_
     obtain ⟨z29, k30, lz29, uz29⟩ := hH8.ld (c := 21) (i := (b4).toNat) (A := (-2147483648)) (B := 2147483647) rfl
     refine jx_iald c1 hm rfl sh_21 ⟨by omega, by omega⟩ k30 ?_
     refine jt_i c3 hm rfl rfl pj_X7_menOfOne rfl rfl rfl ((ct_X7_menOfOne_5 X (by omega) M8 hH8 z29 ⟨by omega, by omega⟩).le (by decide)) (fun z31 _ ⟨rfl, lz31, uz31⟩ => ?_)
     obtain ⟨M32, e32, hH32, hF32, k32, n32, _⟩ := mup hH8 hF8 (c := 22) (i := (b3).toNat) (v := z31) (A := (-2147483648)) (B := 2147483647) rfl ⟨by omega, by omega⟩ (jin_of 0 rfl ⟨by omega, by omega⟩)
     refine jm_iast c1 hm rfl sh_22 ⟨by omega, by omega⟩ e32 ?_
     refine jx_iinc c1 hm (v := (b3 + 1)) (L' := [some (.inr (.inr (.inl 20))), some (.inr (.inr (.inl 5))), some (.inl (z2 - 1)), some (.inl (b3 + 1)), some (.inl b4), some (.inl z16), o6, o7]) rfl rfl (by omega) (by omega) rfl ?_
     exact J50 (b3 + 1) (by omega) o6 ho6 o7 ho7 M32 hH32 hF32
    refine jx_load c1 hm rfl rfl rfl rfl ?_
    refine jy_ic c1 hm rfl (by decide) ?_
    refine jc_lt c1 hm 160 rfl rfl (fun h33 => ?_) (fun h33 => ?_)
    ·
     exact J50 b3 (by omega) o6 ho6 o7 ho7 M8 hH8 hF8
    refine jx_iinc c1 hm (v := (b3 - 1)) (L' := [some (.inr (.inr (.inl 20))), some (.inr (.inr (.inl 5))), some (.inl (z2 - 1)), some (.inl (b3 - 1)), some (.inl b4), some (.inl z16), o6, o7]) rfl rfl (by omega) (by omega) rfl ?_
    refine jx_load c1 hm rfl rfl rfl rfl ?_
    refine jx_getr c1 hm rfl sh_20 rfl ?_
    refine jx_load c1 hm rfl rfl rfl rfl ?_
    obtain ⟨z34, k35, lz34, uz34⟩ := hH8.ld (c := 22) (i := ((b3 - 1)).toNat) (A := (-2147483648)) (B := 2147483647) rfl
    refine jx_iald c1 hm rfl sh_22 ⟨by omega, by omega⟩ k35 ?_
    refine jx_stor c1 hm (L' := [some (.inr (.inr (.inl 20))), some (.inr (.inr (.inl 5))), some (.inl (z2 - 1)), some (.inl (b3 - 1)), some (.inl b4), some (.inl z16), some (.inl z34), o7]) rfl rfl rfl rfl rfl ?_
    refine jx_load c1 hm rfl rfl rfl rfl ?_
    refine jx_getr c1 hm rfl sh_20 rfl ?_
    refine jx_load c1 hm rfl rfl rfl rfl ?_
    refine jy_ic c1 hm rfl (by decide) ?_
    refine jy_sub c1 hm (b3 - 2) rfl (by omega) ?_
    obtain ⟨z36, k37, lz36, uz36⟩ := hH8.ld (c := 22) (i := ((b3 - 2)).toNat) (A := (-2147483648)) (B := 2147483647) rfl
    refine jx_iald c1 hm rfl sh_22 ⟨by omega, by omega⟩ k37 ?_
    refine jx_stor c1 hm (L' := [some (.inr (.inr (.inl 20))), some (.inr (.inr (.inl 5))), some (.inl (z2 - 1)), some (.inl (b3 - 1)), some (.inl b4), some (.inl z16), some (.inl z34), some (.inl z36)]) rfl rfl rfl rfl rfl ?_
    refine jx_load c1 hm rfl rfl rfl rfl ?_
    refine jx_getr c1 hm rfl sh_20 rfl ?_
    refine jx_load c1 hm rfl rfl rfl rfl ?_
    refine jy_ic c1 hm rfl (by decide) ?_
    refine jy_sub c1 hm (b3 - 2) rfl (by omega) ?_
    refine jx_load c1 hm rfl rfl rfl rfl ?_
    refine jy_bp c1 hm rfl (by decide) ?_
    refine jc_ne c1 hm 125 rfl rfl (fun h38 => ?_) (fun h38 => ?_)
    ·
     refine jx_load c1 hm rfl rfl rfl rfl ?_
     refine jx_load c1 hm rfl rfl rfl rfl ?_
     refine jx_iopw c1 hm rfl rfl (fun z39 lz39 uz39 => ?_)
     obtain ⟨M40, e40, hH40, hF40, k40, n40, _⟩ := mup hH8 hF8 (c := 22) (i := ((b3 - 2)).toNat) (v := z39) (A := (-2147483648)) (B := 2147483647) rfl ⟨by omega, by omega⟩ (jin_of 0 rfl ⟨by omega, by omega⟩)
     refine jm_iast c1 hm rfl sh_22 ⟨by omega, by omega⟩ e40 ?_
     refine jx_goto c1 hm 160 rfl rfl ?_
     exact J50 (b3 - 1) (by omega) (some (.inl z34)) (Or.inr (Or.inl ⟨_, rfl⟩)) (some (.inl z36)) (Or.inr (Or.inl ⟨_, rfl⟩)) M40 hH40 hF40
    exfalso; omega
   refine jx_load c1 hm rfl rfl rfl rfl ?_
   refine jy_ic c1 hm rfl (by decide) ?_
   refine jc_lt c1 hm 160 rfl rfl (fun h41 => ?_) (fun h41 => ?_)
   ·
    exact J50 b3 (by omega) o6 ho6 o7 ho7 M8 hH8 hF8
   refine jx_load c1 hm rfl rfl rfl rfl ?_
   refine jx_getr c1 hm rfl sh_20 rfl ?_
   refine jx_load c1 hm rfl rfl rfl rfl ?_
   refine jy_ic c1 hm rfl (by decide) ?_
   refine jy_sub c1 hm (b3 - 1) rfl (by omega) ?_
   refine jx_dup2 c1 hm rfl rfl rfl ?_
   obtain ⟨z42, k43, lz42, uz42⟩ := hH8.ld (c := 22) (i := ((b3 - 1)).toNat) (A := (-2147483648)) (B := 2147483647) rfl
   refine jx_iald c1 hm rfl sh_22 ⟨by omega, by omega⟩ k43 ?_
   refine jx_load c1 hm rfl rfl rfl rfl ?_
   refine jx_iopw c1 hm rfl rfl (fun z44 lz44 uz44 => ?_)
   obtain ⟨M45, e45, hH45, hF45, k45, n45, _⟩ := mup hH8 hF8 (c := 22) (i := ((b3 - 1)).toNat) (v := z44) (A := (-2147483648)) (B := 2147483647) rfl ⟨by omega, by omega⟩ (jin_of 0 rfl ⟨by omega, by omega⟩)
   refine jm_iast c1 hm rfl sh_22 ⟨by omega, by omega⟩ e45 ?_
   refine jx_goto c1 hm 160 rfl rfl ?_
   exact J50 b3 (by omega) o6 ho6 o7 ho7 M45 hH45 hF45
 exact W9 (40 + 1 : Int).toNat 0 (by omega) 0 (by omega) none (Or.inl rfl) none (Or.inl rfl) none (Or.inl rfl) M0 hH0 hF0 (by omega)
theorem ct_J6_bitCount_0f7a4 (X : Int) (hX : 0 ≤ X ∧ X ≤ 100000000) (M0 : JM) (hH0 : HI X M0) (a0 : Int) (ha0 : (-2147483648) ≤ a0 ∧ a0 ≤ 2147483647) : JOk shp PJ 1 0 [.inl a0] M0 (jRi (fun v M' => M0 = M' ∧ 0 ≤ v ∧ v ≤ 63 )) := by
 refine ⟨jr_J6_bitCount_0f7a4, pj_J6_bitCount_0f7a4, fun F c1 c2 c3 => ?_⟩
 have hm := pj_J6_bitCount_0f7a4
 change F 0 [some (.inl a0)] [] M0
 refine jx_load c1 hm rfl rfl rfl rfl ?_
 refine jx_load c1 hm rfl rfl rfl rfl ?_
 refine jy_ic c1 hm rfl (by decide) ?_
 refine jx_iopw c1 hm rfl rfl (fun z1 lz1 uz1 => ?_)
 refine jx_ldcw c1 hm (v := 1431655765) rfl rfl (by decide) ?_
 refine jy_anr c1 hm rfl ⟨by omega, by omega⟩ (fun z2 lz2 uz2 => ?_)
 refine jx_iopw c1 hm rfl rfl (fun z3 lz3 uz3 => ?_)
 refine jx_stor c1 hm (L' := [some (.inl z3)]) rfl rfl rfl rfl rfl ?_
 refine jx_load c1 hm rfl rfl rfl rfl ?_
 refine jx_ldcw c1 hm (v := 858993459) rfl rfl (by decide) ?_
 refine jy_anr c1 hm rfl ⟨by omega, by omega⟩ (fun z4 lz4 uz4 => ?_)
 refine jx_load c1 hm rfl rfl rfl rfl ?_
 refine jy_ic c1 hm rfl (by decide) ?_
 refine jx_iopw c1 hm rfl rfl (fun z5 lz5 uz5 => ?_)
 refine jx_ldcw c1 hm (v := 858993459) rfl rfl (by decide) ?_
 refine jy_anr c1 hm rfl ⟨by omega, by omega⟩ (fun z6 lz6 uz6 => ?_)
 refine jy_add c1 hm (z4 + z6) rfl (by omega) ?_
 refine jx_stor c1 hm (L' := [some (.inl (z4 + z6))]) rfl rfl rfl rfl rfl ?_
 refine jx_load c1 hm rfl rfl rfl rfl ?_
 refine jx_load c1 hm rfl rfl rfl rfl ?_
 refine jy_ic c1 hm rfl (by decide) ?_
 refine jx_iopw c1 hm rfl rfl (fun z7 lz7 uz7 => ?_)
 refine jx_iopw c1 hm rfl rfl (fun z8 lz8 uz8 => ?_)
 refine jx_ldcw c1 hm (v := 252645135) rfl rfl (by decide) ?_
 refine jy_anr c1 hm rfl ⟨by omega, by omega⟩ (fun z9 lz9 uz9 => ?_)
 refine jx_stor c1 hm (L' := [some (.inl z9)]) rfl rfl rfl rfl rfl ?_
 refine jx_load c1 hm rfl rfl rfl rfl ?_
 refine jx_load c1 hm rfl rfl rfl rfl ?_
 refine jy_bp c1 hm rfl (by decide) ?_
 refine jy_ush c1 hm rfl (by omega) (fun z10 lz10 uz10 => ?_)
 refine jx_iopw c1 hm rfl rfl (fun z11 lz11 uz11 => ?_)
 refine jx_stor c1 hm (L' := [some (.inl z11)]) rfl rfl rfl rfl rfl ?_
 refine jx_load c1 hm rfl rfl rfl rfl ?_
 refine jx_load c1 hm rfl rfl rfl rfl ?_
 refine jy_bp c1 hm rfl (by decide) ?_
 refine jy_ush c1 hm rfl (by omega) (fun z12 lz12 uz12 => ?_)
 refine jx_iopw c1 hm rfl rfl (fun z13 lz13 uz13 => ?_)
 refine jx_stor c1 hm (L' := [some (.inl z13)]) rfl rfl rfl rfl rfl ?_
 refine jx_load c1 hm rfl rfl rfl rfl ?_
 refine jy_bp c1 hm rfl (by decide) ?_
 refine jy_anr c1 hm rfl ⟨by omega, by omega⟩ (fun z14 lz14 uz14 => ?_)
 exact jx_reti c2 hm rfl rfl ⟨_, rfl, rfl, by omega, by omega⟩
