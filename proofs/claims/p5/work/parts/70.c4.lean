/-! Contracts of the class (by wip/q/wlk.py). -/
def md_X11_said_0 : List (Nat × (Nat × Nat)) := [(22, (0, 19))]
theorem ct_X11_said_0 (X : Int) (hX : 0 ≤ X ∧ X ≤ 100000000) (M0 : JM) (hH0 : HI X M0) (a0 : Int) (ha0 : (-2147483648) ≤ a0 ∧ a0 ≤ 2147483647) : JOk shp PJ 6 63 [.inr (.inr (.inl 0)), .inl a0] M0 (jRi (fun v M' => HI X M' ∧ Fr md_X11_said_0 M0 M' ∧ (-1) ≤ v ∧ v ≤ 63 )) := by
 refine ⟨jr_X11_said, pj_X11_said, fun F c1 c2 c3 => ?_⟩
 have hm := pj_X11_said
 change F 0 [some (.inr (.inr (.inl 0))), some (.inl a0), none, none, none] [] M0
 have hF0 : Fr md_X11_said_0 M0 M0 := Fr.rf _ _
 refine jx_load c1 hm rfl rfl rfl rfl ?_
 refine jx_getr c1 hm rfl sh_0 rfl ?_
 refine jx_getr c1 hm rfl sh_5 rfl ?_
 obtain ⟨z1, k2, lz1, uz1⟩ := hH0.ld (c := 20) (i := 2) (A := 0) (B := 40) (bs_21_1 _ _ (by omega) (by omega))
 refine jx_geti c1 hm rfl sh_20 rfl k2 ?_
 refine jz_ne c1 hm 15 rfl rfl (fun h3 => ?_) (fun h3 => ?_)
 ·
  refine jx_load c1 hm rfl rfl rfl rfl ?_
  refine jx_getr c1 hm rfl sh_0 rfl ?_
  refine jx_getr c1 hm rfl sh_5 rfl ?_
  refine jx_load c1 hm rfl rfl rfl rfl ?_
  refine jx_getr c1 hm rfl sh_0 rfl ?_
  refine jv_i c3 hm rfl pj_X7_menOf rfl rfl ⟨_, _, _, rfl, sh_20⟩ rfl ((ct_X7_menOf_20_5 X (by omega) M0 hH0 ).le (by decide)) (fun z4 M5 ⟨hH5, hR5, lz4, uz4⟩ => ?_)
  have hF5 := hF0.tr hR5 (by decide +kernel)
  refine jx_stor c1 hm (L' := [some (.inr (.inr (.inl 0))), some (.inl a0), some (.inl z4), none, none]) rfl rfl rfl rfl rfl ?_
  refine jx_load c1 hm rfl rfl rfl rfl ?_
  refine jy_ic c1 hm rfl (by decide) ?_
  refine jc_ne c1 hm 40 rfl rfl (fun h6 => ?_) (fun h6 => ?_)
  ·
   refine jx_load c1 hm rfl rfl rfl rfl ?_
   refine jx_stor c1 hm (L' := [some (.inr (.inr (.inl 0))), some (.inl a0), some (.inl z4), some (.inl a0), none]) rfl rfl rfl rfl rfl ?_
   refine jy_ic c1 hm rfl (by decide) ?_
   refine jx_stor c1 hm (L' := [some (.inr (.inr (.inl 0))), some (.inl a0), some (.inl z4), some (.inl a0), some (.inl 0)]) rfl rfl rfl rfl rfl ?_
   have W9 : ∀ (n10 : Nat) (b7 : Int) (hb7 : (-2147483648) ≤ b7 ∧ b7 ≤ 2147483647) (b8 : Int) (hb8 : 0 ≤ b8 ∧ b8 ≤ 6), (-b8 + 6) < (n10 : Int) → F 45 [some (.inr (.inr (.inl 0))), some (.inl a0), some (.inl z4), some (.inl b7), some (.inl b8)] [] M5 := by
    intro n10
    induction n10 with
    | zero => intros; omega
    | succ n10 ihW9 =>
     intro b7 hb7 b8 hb8 hrW9
     refine jx_load c1 hm rfl rfl rfl rfl ?_
     refine jy_bp c1 hm rfl (by decide) ?_
     refine jc_ge c1 hm 82 rfl rfl (fun h11 => ?_) (fun h11 => ?_)
     ·
      refine jy_ic c1 hm rfl (by decide) ?_
      exact jx_reti c2 hm rfl rfl ⟨_, rfl, hH5, hF5, by omega, by omega⟩
     refine jx_load c1 hm rfl rfl rfl rfl ?_
     refine jz_lt c1 hm 82 rfl rfl (fun h12 => ?_) (fun h12 => ?_)
     ·
      refine jy_ic c1 hm rfl (by decide) ?_
      exact jx_reti c2 hm rfl rfl ⟨_, rfl, hH5, hF5, by omega, by omega⟩
     refine jx_load c1 hm rfl rfl rfl rfl ?_
     refine jx_load c1 hm rfl rfl rfl rfl ?_
     refine jx_iopw c1 hm rfl rfl (fun z13 lz13 uz13 => ?_)
     refine jy_ic c1 hm rfl (by decide) ?_
     refine jy_anr c1 hm rfl ⟨by omega, by omega⟩ (fun z14 lz14 uz14 => ?_)
     refine jy_ic c1 hm rfl (by decide) ?_
     refine jc_ne c1 hm 76 rfl rfl (fun h15 => ?_) (fun h15 => ?_)
     ·
      refine jx_iinc c1 hm (v := (b8 + 1)) (L' := [some (.inr (.inr (.inl 0))), some (.inl a0), some (.inl z4), some (.inl b7), some (.inl (b8 + 1))]) rfl rfl (by omega) (by omega) rfl ?_
      refine jx_goto c1 hm 45 rfl rfl ?_
      exact ihW9 b7 (by omega) (b8 + 1) (by omega) (by omega)
     refine jx_load c1 hm rfl rfl rfl rfl ?_
     refine jz_ne c1 hm 73 rfl rfl (fun h16 => ?_) (fun h16 => ?_)
     ·
      refine jx_iinc c1 hm (v := (b7 - 1)) (L' := [some (.inr (.inr (.inl 0))), some (.inl a0), some (.inl z4), some (.inl (b7 - 1)), some (.inl b8)]) rfl rfl (by omega) (by omega) rfl ?_
      refine jx_iinc c1 hm (v := (b8 + 1)) (L' := [some (.inr (.inr (.inl 0))), some (.inl a0), some (.inl z4), some (.inl (b7 - 1)), some (.inl (b8 + 1))]) rfl rfl (by omega) (by omega) rfl ?_
      refine jx_goto c1 hm 45 rfl rfl ?_
      exact ihW9 (b7 - 1) (by omega) (b8 + 1) (by omega) (by omega)
     refine jx_load c1 hm rfl rfl rfl rfl ?_
     exact jx_reti c2 hm rfl rfl ⟨_, rfl, hH5, hF5, by omega, by omega⟩
   exact W9 (6 + 1 : Int).toNat a0 (by omega) 0 (by omega) (by omega)
  refine jx_load c1 hm rfl rfl rfl rfl ?_
  refine jt_i c3 hm rfl rfl pj_J6_bitCount_0f7a4 rfl rfl rfl ((ct_J6_bitCount_0f7a4 X (by omega) M5 hH5 z4 ⟨by omega, by omega⟩).le (by decide)) (fun z17 _ ⟨rfl, lz17, uz17⟩ => ?_)
  exact jx_reti c2 hm rfl rfl ⟨_, rfl, hH5, hF5, by omega, by omega⟩
 refine jy_ic c1 hm rfl (by decide) ?_
 exact jx_reti c2 hm rfl rfl ⟨_, rfl, hH0, hF0, by omega, by omega⟩
def md_X11_copyRow_6_138 : List (Nat × (Nat × Nat)) := [(138, (0, 2))]
theorem ct_X11_copyRow_6_138 (X : Int) (hX : 0 ≤ X ∧ X ≤ 100000000) (M0 : JM) (hH0 : HI X M0)  : JOk shp PJ 1 29 [.inr (.inr (.inl 6)), .inr (.inr (.inl 138))] M0 (jRv (fun M' => HI X M' ∧ Fr md_X11_copyRow_6_138 M0 M' )) := by
 refine ⟨jr_X11_copyRow, pj_X11_copyRow, fun F c1 c2 c3 => ?_⟩
 have hm := pj_X11_copyRow
 change F 0 [some (.inr (.inr (.inl 6))), some (.inr (.inr (.inl 138)))] [] M0
 have hF0 : Fr md_X11_copyRow_6_138 M0 M0 := Fr.rf _ _
 refine jx_load c1 hm rfl rfl rfl rfl ?_
 refine jy_ic c1 hm rfl (by decide) ?_
 refine jx_load c1 hm rfl rfl rfl rfl ?_
 refine jy_ic c1 hm rfl (by decide) ?_
 refine jx_load c1 hm rfl rfl rfl rfl ?_
 refine jx_alen c1 hm (v := 3) rfl sh_6 rfl rfl ?_
 refine jx_load c1 hm rfl rfl rfl rfl ?_
 refine jx_alen c1 hm (v := 3) rfl sh_138 rfl rfl ?_
 refine jx_min c1 hm rfl rfl (fun z1 lz1 uz1 ez1 => ?_)
 obtain ⟨M2, e2, hH2, hF2, n2, _⟩ := mcp hH0 hF0 (c1 := 6) (c2 := 138) (n := z1) (fun _ _ => rfl) (fun j hj => jin_of 0 rfl ⟨by omega, by omega⟩)
 refine jm_acpi c1 hm rfl rfl sh_6 sh_138 ⟨by omega, by omega, by omega⟩ e2 ?_
 exact jx_retv c2 hm rfl rfl ⟨rfl, hH2, hF2⟩
def md_X11_copyRow_8_140 : List (Nat × (Nat × Nat)) := [(140, (0, 5))]
theorem ct_X11_copyRow_8_140 (X : Int) (hX : 0 ≤ X ∧ X ≤ 100000000) (M0 : JM) (hH0 : HI X M0)  : JOk shp PJ 1 29 [.inr (.inr (.inl 8)), .inr (.inr (.inl 140))] M0 (jRv (fun M' => HI X M' ∧ Fr md_X11_copyRow_8_140 M0 M' )) := by
 refine ⟨jr_X11_copyRow, pj_X11_copyRow, fun F c1 c2 c3 => ?_⟩
 have hm := pj_X11_copyRow
 change F 0 [some (.inr (.inr (.inl 8))), some (.inr (.inr (.inl 140)))] [] M0
 have hF0 : Fr md_X11_copyRow_8_140 M0 M0 := Fr.rf _ _
 refine jx_load c1 hm rfl rfl rfl rfl ?_
 refine jy_ic c1 hm rfl (by decide) ?_
 refine jx_load c1 hm rfl rfl rfl rfl ?_
 refine jy_ic c1 hm rfl (by decide) ?_
 refine jx_load c1 hm rfl rfl rfl rfl ?_
 refine jx_alen c1 hm (v := 6) rfl sh_8 rfl rfl ?_
 refine jx_load c1 hm rfl rfl rfl rfl ?_
 refine jx_alen c1 hm (v := 6) rfl sh_140 rfl rfl ?_
 refine jx_min c1 hm rfl rfl (fun z1 lz1 uz1 ez1 => ?_)
 obtain ⟨M2, e2, hH2, hF2, n2, _⟩ := mcp hH0 hF0 (c1 := 8) (c2 := 140) (n := z1) (fun _ _ => rfl) (fun j hj => jin_of 0 rfl ⟨by omega, by omega⟩)
 refine jm_acpi c1 hm rfl rfl sh_8 sh_140 ⟨by omega, by omega, by omega⟩ e2 ?_
 exact jx_retv c2 hm rfl rfl ⟨rfl, hH2, hF2⟩
def md_X11_copyRow_10_142 : List (Nat × (Nat × Nat)) := [(142, (0, 35))]
theorem ct_X11_copyRow_10_142 (X : Int) (hX : 0 ≤ X ∧ X ≤ 100000000) (M0 : JM) (hH0 : HI X M0)  : JOk shp PJ 1 29 [.inr (.inr (.inl 10)), .inr (.inr (.inl 142))] M0 (jRv (fun M' => HI X M' ∧ Fr md_X11_copyRow_10_142 M0 M' )) := by
 refine ⟨jr_X11_copyRow, pj_X11_copyRow, fun F c1 c2 c3 => ?_⟩
 have hm := pj_X11_copyRow
 change F 0 [some (.inr (.inr (.inl 10))), some (.inr (.inr (.inl 142)))] [] M0
 have hF0 : Fr md_X11_copyRow_10_142 M0 M0 := Fr.rf _ _
 refine jx_load c1 hm rfl rfl rfl rfl ?_
 refine jy_ic c1 hm rfl (by decide) ?_
 refine jx_load c1 hm rfl rfl rfl rfl ?_
 refine jy_ic c1 hm rfl (by decide) ?_
 refine jx_load c1 hm rfl rfl rfl rfl ?_
 refine jx_alen c1 hm (v := 36) rfl sh_10 rfl rfl ?_
 refine jx_load c1 hm rfl rfl rfl rfl ?_
 refine jx_alen c1 hm (v := 36) rfl sh_142 rfl rfl ?_
 refine jx_min c1 hm rfl rfl (fun z1 lz1 uz1 ez1 => ?_)
 obtain ⟨M2, e2, hH2, hF2, n2, _⟩ := mcp hH0 hF0 (c1 := 10) (c2 := 142) (n := z1) (fun _ _ => rfl) (fun j hj => jin_of 0 rfl ⟨by omega, by omega⟩)
 refine jm_acpi c1 hm rfl rfl sh_10 sh_142 ⟨by omega, by omega, by omega⟩ e2 ?_
 exact jx_retv c2 hm rfl rfl ⟨rfl, hH2, hF2⟩
def md_X11_copyRow_11_143 : List (Nat × (Nat × Nat)) := [(143, (0, 5))]
theorem ct_X11_copyRow_11_143 (X : Int) (hX : 0 ≤ X ∧ X ≤ 100000000) (M0 : JM) (hH0 : HI X M0)  : JOk shp PJ 1 29 [.inr (.inr (.inl 11)), .inr (.inr (.inl 143))] M0 (jRv (fun M' => HI X M' ∧ Fr md_X11_copyRow_11_143 M0 M' )) := by
 refine ⟨jr_X11_copyRow, pj_X11_copyRow, fun F c1 c2 c3 => ?_⟩
 have hm := pj_X11_copyRow
 change F 0 [some (.inr (.inr (.inl 11))), some (.inr (.inr (.inl 143)))] [] M0
 have hF0 : Fr md_X11_copyRow_11_143 M0 M0 := Fr.rf _ _
 refine jx_load c1 hm rfl rfl rfl rfl ?_
 refine jy_ic c1 hm rfl (by decide) ?_
 refine jx_load c1 hm rfl rfl rfl rfl ?_
 refine jy_ic c1 hm rfl (by decide) ?_
 refine jx_load c1 hm rfl rfl rfl rfl ?_
 refine jx_alen c1 hm (v := 6) rfl sh_11 rfl rfl ?_
 refine jx_load c1 hm rfl rfl rfl rfl ?_
 refine jx_alen c1 hm (v := 6) rfl sh_143 rfl rfl ?_
 refine jx_min c1 hm rfl rfl (fun z1 lz1 uz1 ez1 => ?_)
 obtain ⟨M2, e2, hH2, hF2, n2, _⟩ := mcp hH0 hF0 (c1 := 11) (c2 := 143) (n := z1) (fun _ _ => rfl) (fun j hj => jin_of 0 rfl ⟨by omega, by omega⟩)
 refine jm_acpi c1 hm rfl rfl sh_11 sh_143 ⟨by omega, by omega, by omega⟩ e2 ?_
 exact jx_retv c2 hm rfl rfl ⟨rfl, hH2, hF2⟩
def md_X11_copyRow_13_145 : List (Nat × (Nat × Nat)) := [(145, (0, 5))]
theorem ct_X11_copyRow_13_145 (X : Int) (hX : 0 ≤ X ∧ X ≤ 100000000) (M0 : JM) (hH0 : HI X M0)  : JOk shp PJ 1 29 [.inr (.inr (.inl 13)), .inr (.inr (.inl 145))] M0 (jRv (fun M' => HI X M' ∧ Fr md_X11_copyRow_13_145 M0 M' )) := by
 refine ⟨jr_X11_copyRow, pj_X11_copyRow, fun F c1 c2 c3 => ?_⟩
 have hm := pj_X11_copyRow
 change F 0 [some (.inr (.inr (.inl 13))), some (.inr (.inr (.inl 145)))] [] M0
 have hF0 : Fr md_X11_copyRow_13_145 M0 M0 := Fr.rf _ _
 refine jx_load c1 hm rfl rfl rfl rfl ?_
 refine jy_ic c1 hm rfl (by decide) ?_
 refine jx_load c1 hm rfl rfl rfl rfl ?_
 refine jy_ic c1 hm rfl (by decide) ?_
 refine jx_load c1 hm rfl rfl rfl rfl ?_
 refine jx_alen c1 hm (v := 6) rfl sh_13 rfl rfl ?_
 refine jx_load c1 hm rfl rfl rfl rfl ?_
 refine jx_alen c1 hm (v := 6) rfl sh_145 rfl rfl ?_
 refine jx_min c1 hm rfl rfl (fun z1 lz1 uz1 ez1 => ?_)
 obtain ⟨M2, e2, hH2, hF2, n2, _⟩ := mcp hH0 hF0 (c1 := 13) (c2 := 145) (n := z1) (fun _ _ => rfl) (fun j hj => jin_of 0 rfl ⟨by omega, by omega⟩)
 refine jm_acpi c1 hm rfl rfl sh_13 sh_145 ⟨by omega, by omega, by omega⟩ e2 ?_
 exact jx_retv c2 hm rfl rfl ⟨rfl, hH2, hF2⟩
def md_X11_copyRow_14_146 : List (Nat × (Nat × Nat)) := [(146, (0, 5))]
theorem ct_X11_copyRow_14_146 (X : Int) (hX : 0 ≤ X ∧ X ≤ 100000000) (M0 : JM) (hH0 : HI X M0)  : JOk shp PJ 1 29 [.inr (.inr (.inl 14)), .inr (.inr (.inl 146))] M0 (jRv (fun M' => HI X M' ∧ Fr md_X11_copyRow_14_146 M0 M' )) := by
 refine ⟨jr_X11_copyRow, pj_X11_copyRow, fun F c1 c2 c3 => ?_⟩
 have hm := pj_X11_copyRow
 change F 0 [some (.inr (.inr (.inl 14))), some (.inr (.inr (.inl 146)))] [] M0
 have hF0 : Fr md_X11_copyRow_14_146 M0 M0 := Fr.rf _ _
 refine jx_load c1 hm rfl rfl rfl rfl ?_
 refine jy_ic c1 hm rfl (by decide) ?_
 refine jx_load c1 hm rfl rfl rfl rfl ?_
 refine jy_ic c1 hm rfl (by decide) ?_
 refine jx_load c1 hm rfl rfl rfl rfl ?_
 refine jx_alen c1 hm (v := 6) rfl sh_14 rfl rfl ?_
 refine jx_load c1 hm rfl rfl rfl rfl ?_
 refine jx_alen c1 hm (v := 6) rfl sh_146 rfl rfl ?_
 refine jx_min c1 hm rfl rfl (fun z1 lz1 uz1 ez1 => ?_)
 obtain ⟨M2, e2, hH2, hF2, n2, _⟩ := mcp hH0 hF0 (c1 := 14) (c2 := 146) (n := z1) (fun _ _ => rfl) (fun j hj => jin_of 0 rfl ⟨by omega, by omega⟩)
 refine jm_acpi c1 hm rfl rfl sh_14 sh_146 ⟨by omega, by omega, by omega⟩ e2 ?_
 exact jx_retv c2 hm rfl rfl ⟨rfl, hH2, hF2⟩
def md_X11_copyRow_15_147 : List (Nat × (Nat × Nat)) := [(147, (0, 5))]
theorem ct_X11_copyRow_15_147 (X : Int) (hX : 0 ≤ X ∧ X ≤ 100000000) (M0 : JM) (hH0 : HI X M0)  : JOk shp PJ 1 29 [.inr (.inr (.inl 15)), .inr (.inr (.inl 147))] M0 (jRv (fun M' => HI X M' ∧ Fr md_X11_copyRow_15_147 M0 M' )) := by
 refine ⟨jr_X11_copyRow, pj_X11_copyRow, fun F c1 c2 c3 => ?_⟩
 have hm := pj_X11_copyRow
 change F 0 [some (.inr (.inr (.inl 15))), some (.inr (.inr (.inl 147)))] [] M0
 have hF0 : Fr md_X11_copyRow_15_147 M0 M0 := Fr.rf _ _
 refine jx_load c1 hm rfl rfl rfl rfl ?_
 refine jy_ic c1 hm rfl (by decide) ?_
 refine jx_load c1 hm rfl rfl rfl rfl ?_
 refine jy_ic c1 hm rfl (by decide) ?_
 refine jx_load c1 hm rfl rfl rfl rfl ?_
 refine jx_alen c1 hm (v := 6) rfl sh_15 rfl rfl ?_
 refine jx_load c1 hm rfl rfl rfl rfl ?_
 refine jx_alen c1 hm (v := 6) rfl sh_147 rfl rfl ?_
 refine jx_min c1 hm rfl rfl (fun z1 lz1 uz1 ez1 => ?_)
 obtain ⟨M2, e2, hH2, hF2, n2, _⟩ := mcp hH0 hF0 (c1 := 15) (c2 := 147) (n := z1) (fun _ _ => rfl) (fun j hj => jin_of 0 rfl ⟨by omega, by omega⟩)
 refine jm_acpi c1 hm rfl rfl sh_15 sh_147 ⟨by omega, by omega, by omega⟩ e2 ?_
 exact jx_retv c2 hm rfl rfl ⟨rfl, hH2, hF2⟩
def md_X11_copyRow_16_148 : List (Nat × (Nat × Nat)) := [(148, (0, 5))]
theorem ct_X11_copyRow_16_148 (X : Int) (hX : 0 ≤ X ∧ X ≤ 100000000) (M0 : JM) (hH0 : HI X M0)  : JOk shp PJ 1 29 [.inr (.inr (.inl 16)), .inr (.inr (.inl 148))] M0 (jRv (fun M' => HI X M' ∧ Fr md_X11_copyRow_16_148 M0 M' )) := by
 refine ⟨jr_X11_copyRow, pj_X11_copyRow, fun F c1 c2 c3 => ?_⟩
 have hm := pj_X11_copyRow
 change F 0 [some (.inr (.inr (.inl 16))), some (.inr (.inr (.inl 148)))] [] M0
 have hF0 : Fr md_X11_copyRow_16_148 M0 M0 := Fr.rf _ _
 refine jx_load c1 hm rfl rfl rfl rfl ?_
 refine jy_ic c1 hm rfl (by decide) ?_
 refine jx_load c1 hm rfl rfl rfl rfl ?_
 refine jy_ic c1 hm rfl (by decide) ?_
 refine jx_load c1 hm rfl rfl rfl rfl ?_
 refine jx_alen c1 hm (v := 6) rfl sh_16 rfl rfl ?_
 refine jx_load c1 hm rfl rfl rfl rfl ?_
 refine jx_alen c1 hm (v := 6) rfl sh_148 rfl rfl ?_
 refine jx_min c1 hm rfl rfl (fun z1 lz1 uz1 ez1 => ?_)
 obtain ⟨M2, e2, hH2, hF2, n2, _⟩ := mcp hH0 hF0 (c1 := 16) (c2 := 148) (n := z1) (fun _ _ => rfl) (fun j hj => jin_of 0 rfl ⟨by omega, by omega⟩)
 refine jm_acpi c1 hm rfl rfl sh_16 sh_148 ⟨by omega, by omega, by omega⟩ e2 ?_
 exact jx_retv c2 hm rfl rfl ⟨rfl, hH2, hF2⟩
def md_X11_copyRow_17_149 : List (Nat × (Nat × Nat)) := [(149, (0, 35))]
theorem ct_X11_copyRow_17_149 (X : Int) (hX : 0 ≤ X ∧ X ≤ 100000000) (M0 : JM) (hH0 : HI X M0)  : JOk shp PJ 1 29 [.inr (.inr (.inl 17)), .inr (.inr (.inl 149))] M0 (jRv (fun M' => HI X M' ∧ Fr md_X11_copyRow_17_149 M0 M' )) := by
 refine ⟨jr_X11_copyRow, pj_X11_copyRow, fun F c1 c2 c3 => ?_⟩
 have hm := pj_X11_copyRow
 change F 0 [some (.inr (.inr (.inl 17))), some (.inr (.inr (.inl 149)))] [] M0
 have hF0 : Fr md_X11_copyRow_17_149 M0 M0 := Fr.rf _ _
 refine jx_load c1 hm rfl rfl rfl rfl ?_
 refine jy_ic c1 hm rfl (by decide) ?_
 refine jx_load c1 hm rfl rfl rfl rfl ?_
 refine jy_ic c1 hm rfl (by decide) ?_
 refine jx_load c1 hm rfl rfl rfl rfl ?_
 refine jx_alen c1 hm (v := 36) rfl sh_17 rfl rfl ?_
 refine jx_load c1 hm rfl rfl rfl rfl ?_
 refine jx_alen c1 hm (v := 36) rfl sh_149 rfl rfl ?_
 refine jx_min c1 hm rfl rfl (fun z1 lz1 uz1 ez1 => ?_)
 obtain ⟨M2, e2, hH2, hF2, n2, _⟩ := mcp hH0 hF0 (c1 := 17) (c2 := 149) (n := z1) (fun _ _ => rfl) (fun j hj => jin_of 0 rfl ⟨by omega, by omega⟩)
 refine jm_acpi c1 hm rfl rfl sh_17 sh_149 ⟨by omega, by omega, by omega⟩ e2 ?_
 exact jx_retv c2 hm rfl rfl ⟨rfl, hH2, hF2⟩
def md_X11_copyRow_18_150 : List (Nat × (Nat × Nat)) := [(150, (0, 35))]
theorem ct_X11_copyRow_18_150 (X : Int) (hX : 0 ≤ X ∧ X ≤ 100000000) (M0 : JM) (hH0 : HI X M0)  : JOk shp PJ 1 29 [.inr (.inr (.inl 18)), .inr (.inr (.inl 150))] M0 (jRv (fun M' => HI X M' ∧ Fr md_X11_copyRow_18_150 M0 M' )) := by
 refine ⟨jr_X11_copyRow, pj_X11_copyRow, fun F c1 c2 c3 => ?_⟩
 have hm := pj_X11_copyRow
 change F 0 [some (.inr (.inr (.inl 18))), some (.inr (.inr (.inl 150)))] [] M0
 have hF0 : Fr md_X11_copyRow_18_150 M0 M0 := Fr.rf _ _
 refine jx_load c1 hm rfl rfl rfl rfl ?_
 refine jy_ic c1 hm rfl (by decide) ?_
 refine jx_load c1 hm rfl rfl rfl rfl ?_
 refine jy_ic c1 hm rfl (by decide) ?_
 refine jx_load c1 hm rfl rfl rfl rfl ?_
 refine jx_alen c1 hm (v := 36) rfl sh_18 rfl rfl ?_
 refine jx_load c1 hm rfl rfl rfl rfl ?_
 refine jx_alen c1 hm (v := 36) rfl sh_150 rfl rfl ?_
 refine jx_min c1 hm rfl rfl (fun z1 lz1 uz1 ez1 => ?_)
 obtain ⟨M2, e2, hH2, hF2, n2, _⟩ := mcp hH0 hF0 (c1 := 18) (c2 := 150) (n := z1) (fun _ _ => rfl) (fun j hj => jin_of 0 rfl ⟨by omega, by omega⟩)
 refine jm_acpi c1 hm rfl rfl sh_18 sh_150 ⟨by omega, by omega, by omega⟩ e2 ?_
 exact jx_retv c2 hm rfl rfl ⟨rfl, hH2, hF2⟩
def md_X11_copyRow_19_151 : List (Nat × (Nat × Nat)) := [(151, (0, 35))]
theorem ct_X11_copyRow_19_151 (X : Int) (hX : 0 ≤ X ∧ X ≤ 100000000) (M0 : JM) (hH0 : HI X M0)  : JOk shp PJ 1 29 [.inr (.inr (.inl 19)), .inr (.inr (.inl 151))] M0 (jRv (fun M' => HI X M' ∧ Fr md_X11_copyRow_19_151 M0 M' )) := by
 refine ⟨jr_X11_copyRow, pj_X11_copyRow, fun F c1 c2 c3 => ?_⟩
 have hm := pj_X11_copyRow
 change F 0 [some (.inr (.inr (.inl 19))), some (.inr (.inr (.inl 151)))] [] M0
 have hF0 : Fr md_X11_copyRow_19_151 M0 M0 := Fr.rf _ _
 refine jx_load c1 hm rfl rfl rfl rfl ?_
 refine jy_ic c1 hm rfl (by decide) ?_
 refine jx_load c1 hm rfl rfl rfl rfl ?_
 refine jy_ic c1 hm rfl (by decide) ?_
 refine jx_load c1 hm rfl rfl rfl rfl ?_
 refine jx_alen c1 hm (v := 36) rfl sh_19 rfl rfl ?_
 refine jx_load c1 hm rfl rfl rfl rfl ?_
 refine jx_alen c1 hm (v := 36) rfl sh_151 rfl rfl ?_
 refine jx_min c1 hm rfl rfl (fun z1 lz1 uz1 ez1 => ?_)
 obtain ⟨M2, e2, hH2, hF2, n2, _⟩ := mcp hH0 hF0 (c1 := 19) (c2 := 151) (n := z1) (fun _ _ => rfl) (fun j hj => jin_of 0 rfl ⟨by omega, by omega⟩)
 refine jm_acpi c1 hm rfl rfl sh_19 sh_151 ⟨by omega, by omega, by omega⟩ e2 ?_
 exact jx_retv c2 hm rfl rfl ⟨rfl, hH2, hF2⟩
def md_X8_takeAll_144_12 : List (Nat × (Nat × Nat)) := [(144, (7, 7)), (145, (0, 5)), (146, (0, 5)), (147, (0, 5)), (148, (0, 5)), (149, (0, 35)), (150, (0, 35)), (151, (0, 35))]
theorem ct_X8_takeAll_144_12 (X : Int) (hX : 0 ≤ X ∧ X ≤ 100000000) (M0 : JM) (hH0 : HI X M0)  : JOk shp PJ 2 264 [.inr (.inr (.inl 144)), .inr (.inr (.inl 12))] M0 (jRv (fun M' => HI X M' ∧ Fr md_X8_takeAll_144_12 M0 M' )) := by
 refine ⟨jr_X8_takeAll, pj_X8_takeAll, fun F c1 c2 c3 => ?_⟩
 have hm := pj_X8_takeAll
 change F 0 [some (.inr (.inr (.inl 144))), some (.inr (.inr (.inl 12)))] [] M0
 have hF0 : Fr md_X8_takeAll_144_12 M0 M0 := Fr.rf _ _
 refine jx_load c1 hm rfl rfl rfl rfl ?_
 refine jx_getr c1 hm rfl sh_12 rfl ?_
 refine jx_load c1 hm rfl rfl rfl rfl ?_
 refine jx_getr c1 hm rfl sh_144 rfl ?_
 refine jt_v c3 hm rfl rfl pj_X11_copyRow rfl rfl rfl ((ct_X11_copyRow_13_145 X (by omega) M0 hH0 ).le (by decide)) (fun M1 ⟨hH1, hR1⟩ => ?_)
 have hF1 := hF0.tr hR1 (by decide +kernel)
 refine jx_load c1 hm rfl rfl rfl rfl ?_
 refine jx_getr c1 hm rfl sh_12 rfl ?_
 refine jx_load c1 hm rfl rfl rfl rfl ?_
 refine jx_getr c1 hm rfl sh_144 rfl ?_
 refine jt_v c3 hm rfl rfl pj_X11_copyRow rfl rfl rfl ((ct_X11_copyRow_14_146 X (by omega) M1 hH1 ).le (by decide)) (fun M2 ⟨hH2, hR2⟩ => ?_)
 have hF2 := hF1.tr hR2 (by decide +kernel)
 refine jx_load c1 hm rfl rfl rfl rfl ?_
 refine jx_getr c1 hm rfl sh_12 rfl ?_
 refine jx_load c1 hm rfl rfl rfl rfl ?_
 refine jx_getr c1 hm rfl sh_144 rfl ?_
 refine jt_v c3 hm rfl rfl pj_X11_copyRow rfl rfl rfl ((ct_X11_copyRow_15_147 X (by omega) M2 hH2 ).le (by decide)) (fun M3 ⟨hH3, hR3⟩ => ?_)
 have hF3 := hF2.tr hR3 (by decide +kernel)
 refine jx_load c1 hm rfl rfl rfl rfl ?_
 refine jx_getr c1 hm rfl sh_12 rfl ?_
 refine jx_load c1 hm rfl rfl rfl rfl ?_
 refine jx_getr c1 hm rfl sh_144 rfl ?_
 refine jt_v c3 hm rfl rfl pj_X11_copyRow rfl rfl rfl ((ct_X11_copyRow_16_148 X (by omega) M3 hH3 ).le (by decide)) (fun M4 ⟨hH4, hR4⟩ => ?_)
 have hF4 := hF3.tr hR4 (by decide +kernel)
 refine jx_load c1 hm rfl rfl rfl rfl ?_
 refine jx_getr c1 hm rfl sh_12 rfl ?_
 refine jx_load c1 hm rfl rfl rfl rfl ?_
 refine jx_getr c1 hm rfl sh_144 rfl ?_
 refine jt_v c3 hm rfl rfl pj_X11_copyRow rfl rfl rfl ((ct_X11_copyRow_17_149 X (by omega) M4 hH4 ).le (by decide)) (fun M5 ⟨hH5, hR5⟩ => ?_)
 have hF5 := hF4.tr hR5 (by decide +kernel)
 refine jx_load c1 hm rfl rfl rfl rfl ?_
 refine jx_getr c1 hm rfl sh_12 rfl ?_
 refine jx_load c1 hm rfl rfl rfl rfl ?_
 refine jx_getr c1 hm rfl sh_144 rfl ?_
 refine jt_v c3 hm rfl rfl pj_X11_copyRow rfl rfl rfl ((ct_X11_copyRow_18_150 X (by omega) M5 hH5 ).le (by decide)) (fun M6 ⟨hH6, hR6⟩ => ?_)
 have hF6 := hF5.tr hR6 (by decide +kernel)
 refine jx_load c1 hm rfl rfl rfl rfl ?_
 refine jx_getr c1 hm rfl sh_12 rfl ?_
 refine jx_load c1 hm rfl rfl rfl rfl ?_
 refine jx_getr c1 hm rfl sh_144 rfl ?_
 refine jt_v c3 hm rfl rfl pj_X11_copyRow rfl rfl rfl ((ct_X11_copyRow_19_151 X (by omega) M6 hH6 ).le (by decide)) (fun M7 ⟨hH7, hR7⟩ => ?_)
 have hF7 := hF6.tr hR7 (by decide +kernel)
 refine jx_load c1 hm rfl rfl rfl rfl ?_
 refine jx_load c1 hm rfl rfl rfl rfl ?_
 obtain ⟨z8, k9, lz8, uz8⟩ := hH7.ld (c := 12) (i := 7) (A := (-2147483648)) (B := 2147483647) rfl
 refine jx_geti c1 hm rfl sh_12 rfl k9 ?_
 obtain ⟨M10, e10, hH10, hF10, k10, n10, _⟩ := mup hH7 hF7 (c := 144) (i := 7) (v := z8) (A := (-2147483648)) (B := 2147483647) rfl ⟨by omega, by omega⟩ (jin_of 0 rfl ⟨by omega, by omega⟩)
 refine jm_puti c1 hm rfl sh_144 rfl e10 ?_
 exact jx_retv c2 hm rfl rfl ⟨rfl, hH10, hF10⟩
def md_X11_copyRow_21_153 : List (Nat × (Nat × Nat)) := [(153, (0, 39))]
theorem ct_X11_copyRow_21_153 (X : Int) (hX : 0 ≤ X ∧ X ≤ 100000000) (M0 : JM) (hH0 : HI X M0)  : JOk shp PJ 1 29 [.inr (.inr (.inl 21)), .inr (.inr (.inl 153))] M0 (jRv (fun M' => HI X M' ∧ Fr md_X11_copyRow_21_153 M0 M' )) := by
 refine ⟨jr_X11_copyRow, pj_X11_copyRow, fun F c1 c2 c3 => ?_⟩
 have hm := pj_X11_copyRow
 change F 0 [some (.inr (.inr (.inl 21))), some (.inr (.inr (.inl 153)))] [] M0
 have hF0 : Fr md_X11_copyRow_21_153 M0 M0 := Fr.rf _ _
 refine jx_load c1 hm rfl rfl rfl rfl ?_
 refine jy_ic c1 hm rfl (by decide) ?_
 refine jx_load c1 hm rfl rfl rfl rfl ?_
 refine jy_ic c1 hm rfl (by decide) ?_
 refine jx_load c1 hm rfl rfl rfl rfl ?_
 refine jx_alen c1 hm (v := 40) rfl sh_21 rfl rfl ?_
 refine jx_load c1 hm rfl rfl rfl rfl ?_
 refine jx_alen c1 hm (v := 40) rfl sh_153 rfl rfl ?_
 refine jx_min c1 hm rfl rfl (fun z1 lz1 uz1 ez1 => ?_)
 obtain ⟨M2, e2, hH2, hF2, n2, _⟩ := mcp hH0 hF0 (c1 := 21) (c2 := 153) (n := z1) (fun _ _ => rfl) (fun j hj => jin_of 0 rfl ⟨by omega, by omega⟩)
 refine jm_acpi c1 hm rfl rfl sh_21 sh_153 ⟨by omega, by omega, by omega⟩ e2 ?_
 exact jx_retv c2 hm rfl rfl ⟨rfl, hH2, hF2⟩
def md_X7_takeAll_152_20 : List (Nat × (Nat × Nat)) := [(152, (2, 2)), (152, (3, 3)), (153, (0, 39))]
theorem ct_X7_takeAll_152_20 (X : Int) (hX : 0 ≤ X ∧ X ≤ 100000000) (M0 : JM) (hH0 : HI X M0)  : JOk shp PJ 2 260 [.inr (.inr (.inl 152)), .inr (.inr (.inl 20))] M0 (jRv (fun M' => HI X M' ∧ Fr md_X7_takeAll_152_20 M0 M' )) := by
 refine ⟨jr_X7_takeAll, pj_X7_takeAll, fun F c1 c2 c3 => ?_⟩
 have hm := pj_X7_takeAll
 change F 0 [some (.inr (.inr (.inl 152))), some (.inr (.inr (.inl 20)))] [] M0
 have hF0 : Fr md_X7_takeAll_152_20 M0 M0 := Fr.rf _ _
 refine jx_load c1 hm rfl rfl rfl rfl ?_
 refine jx_getr c1 hm rfl sh_20 rfl ?_
 refine jx_load c1 hm rfl rfl rfl rfl ?_
 refine jx_getr c1 hm rfl sh_152 rfl ?_
 refine jt_v c3 hm rfl rfl pj_X11_copyRow rfl rfl rfl ((ct_X11_copyRow_21_153 X (by omega) M0 hH0 ).le (by decide)) (fun M1 ⟨hH1, hR1⟩ => ?_)
 have hF1 := hF0.tr hR1 (by decide +kernel)
 refine jx_load c1 hm rfl rfl rfl rfl ?_
 refine jx_load c1 hm rfl rfl rfl rfl ?_
 obtain ⟨z2, k3, lz2, uz2⟩ := hH1.ld (c := 20) (i := 2) (A := 0) (B := 40) (bs_21_1 _ _ (by omega) (by omega))
 refine jx_geti c1 hm rfl sh_20 rfl k3 ?_
 obtain ⟨M4, e4, hH4, hF4, k4, n4, _⟩ := mup hH1 hF1 (c := 152) (i := 2) (v := z2) (A := 0) (B := 40) (bs_21_1 _ _ (by omega) (by omega)) ⟨by omega, by omega⟩ (jin_of 0 rfl ⟨by omega, by omega⟩)
 refine jm_puti c1 hm rfl sh_152 rfl e4 ?_
 refine jx_load c1 hm rfl rfl rfl rfl ?_
 refine jx_load c1 hm rfl rfl rfl rfl ?_
 obtain ⟨z5, k6, lz5, uz5⟩ := hH4.ld (c := 20) (i := 3) (A := 0) (B := 20) (bs_21_2 _ _ (by omega) (by omega))
 refine jx_geti c1 hm rfl sh_20 rfl k6 ?_
 obtain ⟨M7, e7, hH7, hF7, k7, n7, _⟩ := mup hH4 hF4 (c := 152) (i := 3) (v := z5) (A := 0) (B := 20) (bs_21_2 _ _ (by omega) (by omega)) ⟨by omega, by omega⟩ (jin_of 1 rfl ⟨by omega, by omega⟩)
 refine jm_puti c1 hm rfl sh_152 rfl e7 ?_
 exact jx_retv c2 hm rfl rfl ⟨rfl, hH7, hF7⟩
def md_X2_takeAll_137_5 : List (Nat × (Nat × Nat)) := [(137, (6, 6)), (137, (7, 7)), (138, (0, 2)), (139, (0, 17)), (140, (0, 5)), (142, (0, 35)), (143, (0, 5)), (144, (7, 7)), (145, (0, 5)), (146, (0, 5)), (147, (0, 5)), (148, (0, 5)), (149, (0, 35)), (150, (0, 35)), (151, (0, 35)), (152, (2, 2)), (152, (3, 3)), (153, (0, 39))]
theorem ct_X2_takeAll_137_5 (X : Int) (hX : 0 ≤ X ∧ X ≤ 100000000) (M0 : JM) (hH0 : HI X M0)  : JOk shp PJ 3 231 [.inr (.inr (.inl 137)), .inr (.inr (.inl 5))] M0 (jRv (fun M' => HI X M' ∧ Fr md_X2_takeAll_137_5 M0 M' )) := by
 refine ⟨jr_X2_takeAll, pj_X2_takeAll, fun F c1 c2 c3 => ?_⟩
 have hm := pj_X2_takeAll
 change F 0 [some (.inr (.inr (.inl 137))), some (.inr (.inr (.inl 5)))] [] M0
 have hF0 : Fr md_X2_takeAll_137_5 M0 M0 := Fr.rf _ _
 refine jx_load c1 hm rfl rfl rfl rfl ?_
 refine jx_getr c1 hm rfl sh_5 rfl ?_
 refine jx_load c1 hm rfl rfl rfl rfl ?_
 refine jx_getr c1 hm rfl sh_137 rfl ?_
 refine jt_v c3 hm rfl rfl pj_X11_copyRow rfl rfl rfl ((ct_X11_copyRow_6_138 X (by omega) M0 hH0 ).le (by decide)) (fun M1 ⟨hH1, hR1⟩ => ?_)
 have hF1 := hF0.tr hR1 (by decide +kernel)
 refine jx_load c1 hm rfl rfl rfl rfl ?_
 refine jx_getr c1 hm rfl sh_5 rfl ?_
 refine jy_ic c1 hm rfl (by decide) ?_
 refine jx_load c1 hm rfl rfl rfl rfl ?_
 refine jx_getr c1 hm rfl sh_137 rfl ?_
 refine jy_ic c1 hm rfl (by decide) ?_
 refine jy_bp c1 hm rfl (by decide) ?_
 obtain ⟨M2, e2, hH2, hF2, n2⟩ := mcl hH1 hF1 (c1 := 7) (c2 := 139) (n := 18) rfl
 refine jm_acpl c1 hm rfl rfl sh_7 sh_139 ⟨by omega, by omega, by omega⟩ e2 ?_
 refine jx_load c1 hm rfl rfl rfl rfl ?_
 refine jx_getr c1 hm rfl sh_5 rfl ?_
 refine jx_load c1 hm rfl rfl rfl rfl ?_
 refine jx_getr c1 hm rfl sh_137 rfl ?_
 refine jt_v c3 hm rfl rfl pj_X11_copyRow rfl rfl rfl ((ct_X11_copyRow_8_140 X (by omega) M2 hH2 ).le (by decide)) (fun M3 ⟨hH3, hR3⟩ => ?_)
 have hF3 := hF2.tr hR3 (by decide +kernel)
 refine jx_load c1 hm rfl rfl rfl rfl ?_
 refine jx_getr c1 hm rfl sh_5 rfl ?_
 refine jx_load c1 hm rfl rfl rfl rfl ?_
 refine jx_getr c1 hm rfl sh_137 rfl ?_
 refine jt_v c3 hm rfl rfl pj_X11_copyRow rfl rfl rfl ((ct_X11_copyRow_10_142 X (by omega) M3 hH3 ).le (by decide)) (fun M4 ⟨hH4, hR4⟩ => ?_)
 have hF4 := hF3.tr hR4 (by decide +kernel)
 refine jx_load c1 hm rfl rfl rfl rfl ?_
 refine jx_getr c1 hm rfl sh_5 rfl ?_
 refine jx_load c1 hm rfl rfl rfl rfl ?_
 refine jx_getr c1 hm rfl sh_137 rfl ?_
 refine jt_v c3 hm rfl rfl pj_X11_copyRow rfl rfl rfl ((ct_X11_copyRow_11_143 X (by omega) M4 hH4 ).le (by decide)) (fun M5 ⟨hH5, hR5⟩ => ?_)
 have hF5 := hF4.tr hR5 (by decide +kernel)
 refine jx_load c1 hm rfl rfl rfl rfl ?_
 refine jx_load c1 hm rfl rfl rfl rfl ?_
 obtain ⟨z6, k7, lz6, uz6⟩ := hH5.ld (c := 5) (i := 6) (A := 0) (B := 9) (bs_20_1 _ _ (by omega) (by omega))
 refine jx_geti c1 hm rfl sh_5 rfl k7 ?_
 obtain ⟨M8, e8, hH8, hF8, k8, n8, _⟩ := mup hH5 hF5 (c := 137) (i := 6) (v := z6) (A := 0) (B := 9) (bs_20_1 _ _ (by omega) (by omega)) ⟨by omega, by omega⟩ (jin_of 0 rfl ⟨by omega, by omega⟩)
 refine jm_puti c1 hm rfl sh_137 rfl e8 ?_
 refine jx_load c1 hm rfl rfl rfl rfl ?_
 refine jx_load c1 hm rfl rfl rfl rfl ?_
 obtain ⟨z9, k10, lz9, uz9⟩ := hH8.ld (c := 5) (i := 7) (A := 0) (B := 9) (bs_20_1 _ _ (by omega) (by omega))
 refine jx_geti c1 hm rfl sh_5 rfl k10 ?_
 obtain ⟨M11, e11, hH11, hF11, k11, n11, _⟩ := mup hH8 hF8 (c := 137) (i := 7) (v := z9) (A := 0) (B := 9) (bs_20_1 _ _ (by omega) (by omega)) ⟨by omega, by omega⟩ (jin_of 1 rfl ⟨by omega, by omega⟩)
 refine jm_puti c1 hm rfl sh_137 rfl e11 ?_
 refine jx_load c1 hm rfl rfl rfl rfl ?_
 refine jx_getr c1 hm rfl sh_137 rfl ?_
 refine jx_load c1 hm rfl rfl rfl rfl ?_
 refine jx_getr c1 hm rfl sh_5 rfl ?_
 refine jv_v c3 hm rfl pj_X8_takeAll rfl rfl ⟨_, _, _, rfl, sh_144⟩ rfl ((ct_X8_takeAll_144_12 X (by omega) M11 hH11 ).le (by decide)) (fun M12 ⟨hH12, hR12⟩ => ?_)
 have hF12 := hF11.tr hR12 (by decide +kernel)
 refine jx_load c1 hm rfl rfl rfl rfl ?_
 refine jx_getr c1 hm rfl sh_137 rfl ?_
 refine jx_load c1 hm rfl rfl rfl rfl ?_
 refine jx_getr c1 hm rfl sh_5 rfl ?_
 refine jv_v c3 hm rfl pj_X7_takeAll rfl rfl ⟨_, _, _, rfl, sh_152⟩ rfl ((ct_X7_takeAll_152_20 X (by omega) M12 hH12 ).le (by decide)) (fun M13 ⟨hH13, hR13⟩ => ?_)
 have hF13 := hF12.tr hR13 (by decide +kernel)
 exact jx_retv c2 hm rfl rfl ⟨rfl, hH13, hF13⟩
def md_X11_copyRow_6_156 : List (Nat × (Nat × Nat)) := [(156, (0, 2))]
theorem ct_X11_copyRow_6_156 (X : Int) (hX : 0 ≤ X ∧ X ≤ 100000000) (M0 : JM) (hH0 : HI X M0)  : JOk shp PJ 1 29 [.inr (.inr (.inl 6)), .inr (.inr (.inl 156))] M0 (jRv (fun M' => HI X M' ∧ Fr md_X11_copyRow_6_156 M0 M' )) := by
 refine ⟨jr_X11_copyRow, pj_X11_copyRow, fun F c1 c2 c3 => ?_⟩
 have hm := pj_X11_copyRow
 change F 0 [some (.inr (.inr (.inl 6))), some (.inr (.inr (.inl 156)))] [] M0
 have hF0 : Fr md_X11_copyRow_6_156 M0 M0 := Fr.rf _ _
 refine jx_load c1 hm rfl rfl rfl rfl ?_
 refine jy_ic c1 hm rfl (by decide) ?_
 refine jx_load c1 hm rfl rfl rfl rfl ?_
 refine jy_ic c1 hm rfl (by decide) ?_
 refine jx_load c1 hm rfl rfl rfl rfl ?_
 refine jx_alen c1 hm (v := 3) rfl sh_6 rfl rfl ?_
 refine jx_load c1 hm rfl rfl rfl rfl ?_
 refine jx_alen c1 hm (v := 3) rfl sh_156 rfl rfl ?_
 refine jx_min c1 hm rfl rfl (fun z1 lz1 uz1 ez1 => ?_)
 obtain ⟨M2, e2, hH2, hF2, n2, _⟩ := mcp hH0 hF0 (c1 := 6) (c2 := 156) (n := z1) (fun _ _ => rfl) (fun j hj => jin_of 0 rfl ⟨by omega, by omega⟩)
 refine jm_acpi c1 hm rfl rfl sh_6 sh_156 ⟨by omega, by omega, by omega⟩ e2 ?_
 exact jx_retv c2 hm rfl rfl ⟨rfl, hH2, hF2⟩
def md_X11_copyRow_8_158 : List (Nat × (Nat × Nat)) := [(158, (0, 5))]
theorem ct_X11_copyRow_8_158 (X : Int) (hX : 0 ≤ X ∧ X ≤ 100000000) (M0 : JM) (hH0 : HI X M0)  : JOk shp PJ 1 29 [.inr (.inr (.inl 8)), .inr (.inr (.inl 158))] M0 (jRv (fun M' => HI X M' ∧ Fr md_X11_copyRow_8_158 M0 M' )) := by
 refine ⟨jr_X11_copyRow, pj_X11_copyRow, fun F c1 c2 c3 => ?_⟩
 have hm := pj_X11_copyRow
 change F 0 [some (.inr (.inr (.inl 8))), some (.inr (.inr (.inl 158)))] [] M0
 have hF0 : Fr md_X11_copyRow_8_158 M0 M0 := Fr.rf _ _
 refine jx_load c1 hm rfl rfl rfl rfl ?_
 refine jy_ic c1 hm rfl (by decide) ?_
 refine jx_load c1 hm rfl rfl rfl rfl ?_
 refine jy_ic c1 hm rfl (by decide) ?_
 refine jx_load c1 hm rfl rfl rfl rfl ?_
 refine jx_alen c1 hm (v := 6) rfl sh_8 rfl rfl ?_
 refine jx_load c1 hm rfl rfl rfl rfl ?_
 refine jx_alen c1 hm (v := 6) rfl sh_158 rfl rfl ?_
 refine jx_min c1 hm rfl rfl (fun z1 lz1 uz1 ez1 => ?_)
 obtain ⟨M2, e2, hH2, hF2, n2, _⟩ := mcp hH0 hF0 (c1 := 8) (c2 := 158) (n := z1) (fun _ _ => rfl) (fun j hj => jin_of 0 rfl ⟨by omega, by omega⟩)
 refine jm_acpi c1 hm rfl rfl sh_8 sh_158 ⟨by omega, by omega, by omega⟩ e2 ?_
 exact jx_retv c2 hm rfl rfl ⟨rfl, hH2, hF2⟩
def md_X11_copyRow_10_160 : List (Nat × (Nat × Nat)) := [(160, (0, 35))]
theorem ct_X11_copyRow_10_160 (X : Int) (hX : 0 ≤ X ∧ X ≤ 100000000) (M0 : JM) (hH0 : HI X M0)  : JOk shp PJ 1 29 [.inr (.inr (.inl 10)), .inr (.inr (.inl 160))] M0 (jRv (fun M' => HI X M' ∧ Fr md_X11_copyRow_10_160 M0 M' )) := by
 refine ⟨jr_X11_copyRow, pj_X11_copyRow, fun F c1 c2 c3 => ?_⟩
 have hm := pj_X11_copyRow
 change F 0 [some (.inr (.inr (.inl 10))), some (.inr (.inr (.inl 160)))] [] M0
 have hF0 : Fr md_X11_copyRow_10_160 M0 M0 := Fr.rf _ _
 refine jx_load c1 hm rfl rfl rfl rfl ?_
 refine jy_ic c1 hm rfl (by decide) ?_
 refine jx_load c1 hm rfl rfl rfl rfl ?_
 refine jy_ic c1 hm rfl (by decide) ?_
 refine jx_load c1 hm rfl rfl rfl rfl ?_
 refine jx_alen c1 hm (v := 36) rfl sh_10 rfl rfl ?_
 refine jx_load c1 hm rfl rfl rfl rfl ?_
 refine jx_alen c1 hm (v := 36) rfl sh_160 rfl rfl ?_
 refine jx_min c1 hm rfl rfl (fun z1 lz1 uz1 ez1 => ?_)
 obtain ⟨M2, e2, hH2, hF2, n2, _⟩ := mcp hH0 hF0 (c1 := 10) (c2 := 160) (n := z1) (fun _ _ => rfl) (fun j hj => jin_of 0 rfl ⟨by omega, by omega⟩)
 refine jm_acpi c1 hm rfl rfl sh_10 sh_160 ⟨by omega, by omega, by omega⟩ e2 ?_
 exact jx_retv c2 hm rfl rfl ⟨rfl, hH2, hF2⟩
def md_X11_copyRow_11_161 : List (Nat × (Nat × Nat)) := [(161, (0, 5))]
theorem ct_X11_copyRow_11_161 (X : Int) (hX : 0 ≤ X ∧ X ≤ 100000000) (M0 : JM) (hH0 : HI X M0)  : JOk shp PJ 1 29 [.inr (.inr (.inl 11)), .inr (.inr (.inl 161))] M0 (jRv (fun M' => HI X M' ∧ Fr md_X11_copyRow_11_161 M0 M' )) := by
 refine ⟨jr_X11_copyRow, pj_X11_copyRow, fun F c1 c2 c3 => ?_⟩
 have hm := pj_X11_copyRow
 change F 0 [some (.inr (.inr (.inl 11))), some (.inr (.inr (.inl 161)))] [] M0
 have hF0 : Fr md_X11_copyRow_11_161 M0 M0 := Fr.rf _ _
 refine jx_load c1 hm rfl rfl rfl rfl ?_
 refine jy_ic c1 hm rfl (by decide) ?_
 refine jx_load c1 hm rfl rfl rfl rfl ?_
 refine jy_ic c1 hm rfl (by decide) ?_
 refine jx_load c1 hm rfl rfl rfl rfl ?_
 refine jx_alen c1 hm (v := 6) rfl sh_11 rfl rfl ?_
 refine jx_load c1 hm rfl rfl rfl rfl ?_
 refine jx_alen c1 hm (v := 6) rfl sh_161 rfl rfl ?_
 refine jx_min c1 hm rfl rfl (fun z1 lz1 uz1 ez1 => ?_)
 obtain ⟨M2, e2, hH2, hF2, n2, _⟩ := mcp hH0 hF0 (c1 := 11) (c2 := 161) (n := z1) (fun _ _ => rfl) (fun j hj => jin_of 0 rfl ⟨by omega, by omega⟩)
 refine jm_acpi c1 hm rfl rfl sh_11 sh_161 ⟨by omega, by omega, by omega⟩ e2 ?_
 exact jx_retv c2 hm rfl rfl ⟨rfl, hH2, hF2⟩
def md_X11_copyRow_13_163 : List (Nat × (Nat × Nat)) := [(163, (0, 5))]
theorem ct_X11_copyRow_13_163 (X : Int) (hX : 0 ≤ X ∧ X ≤ 100000000) (M0 : JM) (hH0 : HI X M0)  : JOk shp PJ 1 29 [.inr (.inr (.inl 13)), .inr (.inr (.inl 163))] M0 (jRv (fun M' => HI X M' ∧ Fr md_X11_copyRow_13_163 M0 M' )) := by
 refine ⟨jr_X11_copyRow, pj_X11_copyRow, fun F c1 c2 c3 => ?_⟩
 have hm := pj_X11_copyRow
 change F 0 [some (.inr (.inr (.inl 13))), some (.inr (.inr (.inl 163)))] [] M0
 have hF0 : Fr md_X11_copyRow_13_163 M0 M0 := Fr.rf _ _
 refine jx_load c1 hm rfl rfl rfl rfl ?_
 refine jy_ic c1 hm rfl (by decide) ?_
 refine jx_load c1 hm rfl rfl rfl rfl ?_
 refine jy_ic c1 hm rfl (by decide) ?_
 refine jx_load c1 hm rfl rfl rfl rfl ?_
 refine jx_alen c1 hm (v := 6) rfl sh_13 rfl rfl ?_
 refine jx_load c1 hm rfl rfl rfl rfl ?_
 refine jx_alen c1 hm (v := 6) rfl sh_163 rfl rfl ?_
 refine jx_min c1 hm rfl rfl (fun z1 lz1 uz1 ez1 => ?_)
 obtain ⟨M2, e2, hH2, hF2, n2, _⟩ := mcp hH0 hF0 (c1 := 13) (c2 := 163) (n := z1) (fun _ _ => rfl) (fun j hj => jin_of 0 rfl ⟨by omega, by omega⟩)
 refine jm_acpi c1 hm rfl rfl sh_13 sh_163 ⟨by omega, by omega, by omega⟩ e2 ?_
 exact jx_retv c2 hm rfl rfl ⟨rfl, hH2, hF2⟩
def md_X11_copyRow_14_164 : List (Nat × (Nat × Nat)) := [(164, (0, 5))]
theorem ct_X11_copyRow_14_164 (X : Int) (hX : 0 ≤ X ∧ X ≤ 100000000) (M0 : JM) (hH0 : HI X M0)  : JOk shp PJ 1 29 [.inr (.inr (.inl 14)), .inr (.inr (.inl 164))] M0 (jRv (fun M' => HI X M' ∧ Fr md_X11_copyRow_14_164 M0 M' )) := by
 refine ⟨jr_X11_copyRow, pj_X11_copyRow, fun F c1 c2 c3 => ?_⟩
 have hm := pj_X11_copyRow
 change F 0 [some (.inr (.inr (.inl 14))), some (.inr (.inr (.inl 164)))] [] M0
 have hF0 : Fr md_X11_copyRow_14_164 M0 M0 := Fr.rf _ _
 refine jx_load c1 hm rfl rfl rfl rfl ?_
 refine jy_ic c1 hm rfl (by decide) ?_
 refine jx_load c1 hm rfl rfl rfl rfl ?_
 refine jy_ic c1 hm rfl (by decide) ?_
 refine jx_load c1 hm rfl rfl rfl rfl ?_
 refine jx_alen c1 hm (v := 6) rfl sh_14 rfl rfl ?_
 refine jx_load c1 hm rfl rfl rfl rfl ?_
 refine jx_alen c1 hm (v := 6) rfl sh_164 rfl rfl ?_
 refine jx_min c1 hm rfl rfl (fun z1 lz1 uz1 ez1 => ?_)
 obtain ⟨M2, e2, hH2, hF2, n2, _⟩ := mcp hH0 hF0 (c1 := 14) (c2 := 164) (n := z1) (fun _ _ => rfl) (fun j hj => jin_of 0 rfl ⟨by omega, by omega⟩)
 refine jm_acpi c1 hm rfl rfl sh_14 sh_164 ⟨by omega, by omega, by omega⟩ e2 ?_
 exact jx_retv c2 hm rfl rfl ⟨rfl, hH2, hF2⟩
def md_X11_copyRow_15_165 : List (Nat × (Nat × Nat)) := [(165, (0, 5))]
theorem ct_X11_copyRow_15_165 (X : Int) (hX : 0 ≤ X ∧ X ≤ 100000000) (M0 : JM) (hH0 : HI X M0)  : JOk shp PJ 1 29 [.inr (.inr (.inl 15)), .inr (.inr (.inl 165))] M0 (jRv (fun M' => HI X M' ∧ Fr md_X11_copyRow_15_165 M0 M' )) := by
 refine ⟨jr_X11_copyRow, pj_X11_copyRow, fun F c1 c2 c3 => ?_⟩
 have hm := pj_X11_copyRow
 change F 0 [some (.inr (.inr (.inl 15))), some (.inr (.inr (.inl 165)))] [] M0
 have hF0 : Fr md_X11_copyRow_15_165 M0 M0 := Fr.rf _ _
 refine jx_load c1 hm rfl rfl rfl rfl ?_
 refine jy_ic c1 hm rfl (by decide) ?_
 refine jx_load c1 hm rfl rfl rfl rfl ?_
 refine jy_ic c1 hm rfl (by decide) ?_
 refine jx_load c1 hm rfl rfl rfl rfl ?_
 refine jx_alen c1 hm (v := 6) rfl sh_15 rfl rfl ?_
 refine jx_load c1 hm rfl rfl rfl rfl ?_
 refine jx_alen c1 hm (v := 6) rfl sh_165 rfl rfl ?_
 refine jx_min c1 hm rfl rfl (fun z1 lz1 uz1 ez1 => ?_)
 obtain ⟨M2, e2, hH2, hF2, n2, _⟩ := mcp hH0 hF0 (c1 := 15) (c2 := 165) (n := z1) (fun _ _ => rfl) (fun j hj => jin_of 0 rfl ⟨by omega, by omega⟩)
 refine jm_acpi c1 hm rfl rfl sh_15 sh_165 ⟨by omega, by omega, by omega⟩ e2 ?_
 exact jx_retv c2 hm rfl rfl ⟨rfl, hH2, hF2⟩
def md_X11_copyRow_16_166 : List (Nat × (Nat × Nat)) := [(166, (0, 5))]
theorem ct_X11_copyRow_16_166 (X : Int) (hX : 0 ≤ X ∧ X ≤ 100000000) (M0 : JM) (hH0 : HI X M0)  : JOk shp PJ 1 29 [.inr (.inr (.inl 16)), .inr (.inr (.inl 166))] M0 (jRv (fun M' => HI X M' ∧ Fr md_X11_copyRow_16_166 M0 M' )) := by
 refine ⟨jr_X11_copyRow, pj_X11_copyRow, fun F c1 c2 c3 => ?_⟩
 have hm := pj_X11_copyRow
 change F 0 [some (.inr (.inr (.inl 16))), some (.inr (.inr (.inl 166)))] [] M0
 have hF0 : Fr md_X11_copyRow_16_166 M0 M0 := Fr.rf _ _
 refine jx_load c1 hm rfl rfl rfl rfl ?_
 refine jy_ic c1 hm rfl (by decide) ?_
 refine jx_load c1 hm rfl rfl rfl rfl ?_
 refine jy_ic c1 hm rfl (by decide) ?_
 refine jx_load c1 hm rfl rfl rfl rfl ?_
 refine jx_alen c1 hm (v := 6) rfl sh_16 rfl rfl ?_
 refine jx_load c1 hm rfl rfl rfl rfl ?_
 refine jx_alen c1 hm (v := 6) rfl sh_166 rfl rfl ?_
 refine jx_min c1 hm rfl rfl (fun z1 lz1 uz1 ez1 => ?_)
 obtain ⟨M2, e2, hH2, hF2, n2, _⟩ := mcp hH0 hF0 (c1 := 16) (c2 := 166) (n := z1) (fun _ _ => rfl) (fun j hj => jin_of 0 rfl ⟨by omega, by omega⟩)
 refine jm_acpi c1 hm rfl rfl sh_16 sh_166 ⟨by omega, by omega, by omega⟩ e2 ?_
 exact jx_retv c2 hm rfl rfl ⟨rfl, hH2, hF2⟩
def md_X11_copyRow_17_167 : List (Nat × (Nat × Nat)) := [(167, (0, 35))]
theorem ct_X11_copyRow_17_167 (X : Int) (hX : 0 ≤ X ∧ X ≤ 100000000) (M0 : JM) (hH0 : HI X M0)  : JOk shp PJ 1 29 [.inr (.inr (.inl 17)), .inr (.inr (.inl 167))] M0 (jRv (fun M' => HI X M' ∧ Fr md_X11_copyRow_17_167 M0 M' )) := by
 refine ⟨jr_X11_copyRow, pj_X11_copyRow, fun F c1 c2 c3 => ?_⟩
 have hm := pj_X11_copyRow
 change F 0 [some (.inr (.inr (.inl 17))), some (.inr (.inr (.inl 167)))] [] M0
 have hF0 : Fr md_X11_copyRow_17_167 M0 M0 := Fr.rf _ _
 refine jx_load c1 hm rfl rfl rfl rfl ?_
 refine jy_ic c1 hm rfl (by decide) ?_
 refine jx_load c1 hm rfl rfl rfl rfl ?_
 refine jy_ic c1 hm rfl (by decide) ?_
 refine jx_load c1 hm rfl rfl rfl rfl ?_
 refine jx_alen c1 hm (v := 36) rfl sh_17 rfl rfl ?_
 refine jx_load c1 hm rfl rfl rfl rfl ?_
 refine jx_alen c1 hm (v := 36) rfl sh_167 rfl rfl ?_
 refine jx_min c1 hm rfl rfl (fun z1 lz1 uz1 ez1 => ?_)
 obtain ⟨M2, e2, hH2, hF2, n2, _⟩ := mcp hH0 hF0 (c1 := 17) (c2 := 167) (n := z1) (fun _ _ => rfl) (fun j hj => jin_of 0 rfl ⟨by omega, by omega⟩)
 refine jm_acpi c1 hm rfl rfl sh_17 sh_167 ⟨by omega, by omega, by omega⟩ e2 ?_
 exact jx_retv c2 hm rfl rfl ⟨rfl, hH2, hF2⟩
def md_X11_copyRow_18_168 : List (Nat × (Nat × Nat)) := [(168, (0, 35))]
theorem ct_X11_copyRow_18_168 (X : Int) (hX : 0 ≤ X ∧ X ≤ 100000000) (M0 : JM) (hH0 : HI X M0)  : JOk shp PJ 1 29 [.inr (.inr (.inl 18)), .inr (.inr (.inl 168))] M0 (jRv (fun M' => HI X M' ∧ Fr md_X11_copyRow_18_168 M0 M' )) := by
 refine ⟨jr_X11_copyRow, pj_X11_copyRow, fun F c1 c2 c3 => ?_⟩
 have hm := pj_X11_copyRow
 change F 0 [some (.inr (.inr (.inl 18))), some (.inr (.inr (.inl 168)))] [] M0
 have hF0 : Fr md_X11_copyRow_18_168 M0 M0 := Fr.rf _ _
 refine jx_load c1 hm rfl rfl rfl rfl ?_
 refine jy_ic c1 hm rfl (by decide) ?_
 refine jx_load c1 hm rfl rfl rfl rfl ?_
 refine jy_ic c1 hm rfl (by decide) ?_
 refine jx_load c1 hm rfl rfl rfl rfl ?_
 refine jx_alen c1 hm (v := 36) rfl sh_18 rfl rfl ?_
 refine jx_load c1 hm rfl rfl rfl rfl ?_
 refine jx_alen c1 hm (v := 36) rfl sh_168 rfl rfl ?_
 refine jx_min c1 hm rfl rfl (fun z1 lz1 uz1 ez1 => ?_)
 obtain ⟨M2, e2, hH2, hF2, n2, _⟩ := mcp hH0 hF0 (c1 := 18) (c2 := 168) (n := z1) (fun _ _ => rfl) (fun j hj => jin_of 0 rfl ⟨by omega, by omega⟩)
 refine jm_acpi c1 hm rfl rfl sh_18 sh_168 ⟨by omega, by omega, by omega⟩ e2 ?_
 exact jx_retv c2 hm rfl rfl ⟨rfl, hH2, hF2⟩
def md_X11_copyRow_19_169 : List (Nat × (Nat × Nat)) := [(169, (0, 35))]
theorem ct_X11_copyRow_19_169 (X : Int) (hX : 0 ≤ X ∧ X ≤ 100000000) (M0 : JM) (hH0 : HI X M0)  : JOk shp PJ 1 29 [.inr (.inr (.inl 19)), .inr (.inr (.inl 169))] M0 (jRv (fun M' => HI X M' ∧ Fr md_X11_copyRow_19_169 M0 M' )) := by
 refine ⟨jr_X11_copyRow, pj_X11_copyRow, fun F c1 c2 c3 => ?_⟩
 have hm := pj_X11_copyRow
 change F 0 [some (.inr (.inr (.inl 19))), some (.inr (.inr (.inl 169)))] [] M0
 have hF0 : Fr md_X11_copyRow_19_169 M0 M0 := Fr.rf _ _
 refine jx_load c1 hm rfl rfl rfl rfl ?_
 refine jy_ic c1 hm rfl (by decide) ?_
 refine jx_load c1 hm rfl rfl rfl rfl ?_
 refine jy_ic c1 hm rfl (by decide) ?_
 refine jx_load c1 hm rfl rfl rfl rfl ?_
 refine jx_alen c1 hm (v := 36) rfl sh_19 rfl rfl ?_
 refine jx_load c1 hm rfl rfl rfl rfl ?_
 refine jx_alen c1 hm (v := 36) rfl sh_169 rfl rfl ?_
 refine jx_min c1 hm rfl rfl (fun z1 lz1 uz1 ez1 => ?_)
 obtain ⟨M2, e2, hH2, hF2, n2, _⟩ := mcp hH0 hF0 (c1 := 19) (c2 := 169) (n := z1) (fun _ _ => rfl) (fun j hj => jin_of 0 rfl ⟨by omega, by omega⟩)
 refine jm_acpi c1 hm rfl rfl sh_19 sh_169 ⟨by omega, by omega, by omega⟩ e2 ?_
 exact jx_retv c2 hm rfl rfl ⟨rfl, hH2, hF2⟩
def md_X8_takeAll_162_12 : List (Nat × (Nat × Nat)) := [(162, (7, 7)), (163, (0, 5)), (164, (0, 5)), (165, (0, 5)), (166, (0, 5)), (167, (0, 35)), (168, (0, 35)), (169, (0, 35))]
theorem ct_X8_takeAll_162_12 (X : Int) (hX : 0 ≤ X ∧ X ≤ 100000000) (M0 : JM) (hH0 : HI X M0)  : JOk shp PJ 2 264 [.inr (.inr (.inl 162)), .inr (.inr (.inl 12))] M0 (jRv (fun M' => HI X M' ∧ Fr md_X8_takeAll_162_12 M0 M' )) := by
 refine ⟨jr_X8_takeAll, pj_X8_takeAll, fun F c1 c2 c3 => ?_⟩
 have hm := pj_X8_takeAll
 change F 0 [some (.inr (.inr (.inl 162))), some (.inr (.inr (.inl 12)))] [] M0
 have hF0 : Fr md_X8_takeAll_162_12 M0 M0 := Fr.rf _ _
 refine jx_load c1 hm rfl rfl rfl rfl ?_
 refine jx_getr c1 hm rfl sh_12 rfl ?_
 refine jx_load c1 hm rfl rfl rfl rfl ?_
 refine jx_getr c1 hm rfl sh_162 rfl ?_
 refine jt_v c3 hm rfl rfl pj_X11_copyRow rfl rfl rfl ((ct_X11_copyRow_13_163 X (by omega) M0 hH0 ).le (by decide)) (fun M1 ⟨hH1, hR1⟩ => ?_)
 have hF1 := hF0.tr hR1 (by decide +kernel)
 refine jx_load c1 hm rfl rfl rfl rfl ?_
 refine jx_getr c1 hm rfl sh_12 rfl ?_
 refine jx_load c1 hm rfl rfl rfl rfl ?_
 refine jx_getr c1 hm rfl sh_162 rfl ?_
 refine jt_v c3 hm rfl rfl pj_X11_copyRow rfl rfl rfl ((ct_X11_copyRow_14_164 X (by omega) M1 hH1 ).le (by decide)) (fun M2 ⟨hH2, hR2⟩ => ?_)
 have hF2 := hF1.tr hR2 (by decide +kernel)
 refine jx_load c1 hm rfl rfl rfl rfl ?_
 refine jx_getr c1 hm rfl sh_12 rfl ?_
 refine jx_load c1 hm rfl rfl rfl rfl ?_
 refine jx_getr c1 hm rfl sh_162 rfl ?_
 refine jt_v c3 hm rfl rfl pj_X11_copyRow rfl rfl rfl ((ct_X11_copyRow_15_165 X (by omega) M2 hH2 ).le (by decide)) (fun M3 ⟨hH3, hR3⟩ => ?_)
 have hF3 := hF2.tr hR3 (by decide +kernel)
 refine jx_load c1 hm rfl rfl rfl rfl ?_
 refine jx_getr c1 hm rfl sh_12 rfl ?_
 refine jx_load c1 hm rfl rfl rfl rfl ?_
 refine jx_getr c1 hm rfl sh_162 rfl ?_
 refine jt_v c3 hm rfl rfl pj_X11_copyRow rfl rfl rfl ((ct_X11_copyRow_16_166 X (by omega) M3 hH3 ).le (by decide)) (fun M4 ⟨hH4, hR4⟩ => ?_)
 have hF4 := hF3.tr hR4 (by decide +kernel)
 refine jx_load c1 hm rfl rfl rfl rfl ?_
 refine jx_getr c1 hm rfl sh_12 rfl ?_
 refine jx_load c1 hm rfl rfl rfl rfl ?_
 refine jx_getr c1 hm rfl sh_162 rfl ?_
 refine jt_v c3 hm rfl rfl pj_X11_copyRow rfl rfl rfl ((ct_X11_copyRow_17_167 X (by omega) M4 hH4 ).le (by decide)) (fun M5 ⟨hH5, hR5⟩ => ?_)
 have hF5 := hF4.tr hR5 (by decide +kernel)
 refine jx_load c1 hm rfl rfl rfl rfl ?_
 refine jx_getr c1 hm rfl sh_12 rfl ?_
 refine jx_load c1 hm rfl rfl rfl rfl ?_
 refine jx_getr c1 hm rfl sh_162 rfl ?_
 refine jt_v c3 hm rfl rfl pj_X11_copyRow rfl rfl rfl ((ct_X11_copyRow_18_168 X (by omega) M5 hH5 ).le (by decide)) (fun M6 ⟨hH6, hR6⟩ => ?_)
 have hF6 := hF5.tr hR6 (by decide +kernel)
 refine jx_load c1 hm rfl rfl rfl rfl ?_
 refine jx_getr c1 hm rfl sh_12 rfl ?_
 refine jx_load c1 hm rfl rfl rfl rfl ?_
 refine jx_getr c1 hm rfl sh_162 rfl ?_
 refine jt_v c3 hm rfl rfl pj_X11_copyRow rfl rfl rfl ((ct_X11_copyRow_19_169 X (by omega) M6 hH6 ).le (by decide)) (fun M7 ⟨hH7, hR7⟩ => ?_)
 have hF7 := hF6.tr hR7 (by decide +kernel)
 refine jx_load c1 hm rfl rfl rfl rfl ?_
 refine jx_load c1 hm rfl rfl rfl rfl ?_
 obtain ⟨z8, k9, lz8, uz8⟩ := hH7.ld (c := 12) (i := 7) (A := (-2147483648)) (B := 2147483647) rfl
 refine jx_geti c1 hm rfl sh_12 rfl k9 ?_
 obtain ⟨M10, e10, hH10, hF10, k10, n10, _⟩ := mup hH7 hF7 (c := 162) (i := 7) (v := z8) (A := (-2147483648)) (B := 2147483647) rfl ⟨by omega, by omega⟩ (jin_of 0 rfl ⟨by omega, by omega⟩)
 refine jm_puti c1 hm rfl sh_162 rfl e10 ?_
 exact jx_retv c2 hm rfl rfl ⟨rfl, hH10, hF10⟩
def md_X11_copyRow_21_171 : List (Nat × (Nat × Nat)) := [(171, (0, 39))]
theorem ct_X11_copyRow_21_171 (X : Int) (hX : 0 ≤ X ∧ X ≤ 100000000) (M0 : JM) (hH0 : HI X M0)  : JOk shp PJ 1 29 [.inr (.inr (.inl 21)), .inr (.inr (.inl 171))] M0 (jRv (fun M' => HI X M' ∧ Fr md_X11_copyRow_21_171 M0 M' )) := by
 refine ⟨jr_X11_copyRow, pj_X11_copyRow, fun F c1 c2 c3 => ?_⟩
 have hm := pj_X11_copyRow
 change F 0 [some (.inr (.inr (.inl 21))), some (.inr (.inr (.inl 171)))] [] M0
 have hF0 : Fr md_X11_copyRow_21_171 M0 M0 := Fr.rf _ _
 refine jx_load c1 hm rfl rfl rfl rfl ?_
 refine jy_ic c1 hm rfl (by decide) ?_
 refine jx_load c1 hm rfl rfl rfl rfl ?_
 refine jy_ic c1 hm rfl (by decide) ?_
 refine jx_load c1 hm rfl rfl rfl rfl ?_
 refine jx_alen c1 hm (v := 40) rfl sh_21 rfl rfl ?_
 refine jx_load c1 hm rfl rfl rfl rfl ?_
 refine jx_alen c1 hm (v := 40) rfl sh_171 rfl rfl ?_
 refine jx_min c1 hm rfl rfl (fun z1 lz1 uz1 ez1 => ?_)
 obtain ⟨M2, e2, hH2, hF2, n2, _⟩ := mcp hH0 hF0 (c1 := 21) (c2 := 171) (n := z1) (fun _ _ => rfl) (fun j hj => jin_of 0 rfl ⟨by omega, by omega⟩)
 refine jm_acpi c1 hm rfl rfl sh_21 sh_171 ⟨by omega, by omega, by omega⟩ e2 ?_
 exact jx_retv c2 hm rfl rfl ⟨rfl, hH2, hF2⟩
def md_X7_takeAll_170_20 : List (Nat × (Nat × Nat)) := [(170, (2, 2)), (170, (3, 3)), (171, (0, 39))]
theorem ct_X7_takeAll_170_20 (X : Int) (hX : 0 ≤ X ∧ X ≤ 100000000) (M0 : JM) (hH0 : HI X M0)  : JOk shp PJ 2 260 [.inr (.inr (.inl 170)), .inr (.inr (.inl 20))] M0 (jRv (fun M' => HI X M' ∧ Fr md_X7_takeAll_170_20 M0 M' )) := by
 refine ⟨jr_X7_takeAll, pj_X7_takeAll, fun F c1 c2 c3 => ?_⟩
 have hm := pj_X7_takeAll
 change F 0 [some (.inr (.inr (.inl 170))), some (.inr (.inr (.inl 20)))] [] M0
 have hF0 : Fr md_X7_takeAll_170_20 M0 M0 := Fr.rf _ _
 refine jx_load c1 hm rfl rfl rfl rfl ?_
 refine jx_getr c1 hm rfl sh_20 rfl ?_
 refine jx_load c1 hm rfl rfl rfl rfl ?_
 refine jx_getr c1 hm rfl sh_170 rfl ?_
 refine jt_v c3 hm rfl rfl pj_X11_copyRow rfl rfl rfl ((ct_X11_copyRow_21_171 X (by omega) M0 hH0 ).le (by decide)) (fun M1 ⟨hH1, hR1⟩ => ?_)
 have hF1 := hF0.tr hR1 (by decide +kernel)
 refine jx_load c1 hm rfl rfl rfl rfl ?_
 refine jx_load c1 hm rfl rfl rfl rfl ?_
 obtain ⟨z2, k3, lz2, uz2⟩ := hH1.ld (c := 20) (i := 2) (A := 0) (B := 40) (bs_21_1 _ _ (by omega) (by omega))
 refine jx_geti c1 hm rfl sh_20 rfl k3 ?_
 obtain ⟨M4, e4, hH4, hF4, k4, n4, _⟩ := mup hH1 hF1 (c := 170) (i := 2) (v := z2) (A := 0) (B := 40) (bs_21_1 _ _ (by omega) (by omega)) ⟨by omega, by omega⟩ (jin_of 0 rfl ⟨by omega, by omega⟩)
 refine jm_puti c1 hm rfl sh_170 rfl e4 ?_
 refine jx_load c1 hm rfl rfl rfl rfl ?_
 refine jx_load c1 hm rfl rfl rfl rfl ?_
 obtain ⟨z5, k6, lz5, uz5⟩ := hH4.ld (c := 20) (i := 3) (A := 0) (B := 20) (bs_21_2 _ _ (by omega) (by omega))
 refine jx_geti c1 hm rfl sh_20 rfl k6 ?_
 obtain ⟨M7, e7, hH7, hF7, k7, n7, _⟩ := mup hH4 hF4 (c := 170) (i := 3) (v := z5) (A := 0) (B := 20) (bs_21_2 _ _ (by omega) (by omega)) ⟨by omega, by omega⟩ (jin_of 1 rfl ⟨by omega, by omega⟩)
 refine jm_puti c1 hm rfl sh_170 rfl e7 ?_
 exact jx_retv c2 hm rfl rfl ⟨rfl, hH7, hF7⟩
def md_X2_takeAll_155_5 : List (Nat × (Nat × Nat)) := [(155, (6, 6)), (155, (7, 7)), (156, (0, 2)), (157, (0, 17)), (158, (0, 5)), (160, (0, 35)), (161, (0, 5)), (162, (7, 7)), (163, (0, 5)), (164, (0, 5)), (165, (0, 5)), (166, (0, 5)), (167, (0, 35)), (168, (0, 35)), (169, (0, 35)), (170, (2, 2)), (170, (3, 3)), (171, (0, 39))]
theorem ct_X2_takeAll_155_5 (X : Int) (hX : 0 ≤ X ∧ X ≤ 100000000) (M0 : JM) (hH0 : HI X M0)  : JOk shp PJ 3 231 [.inr (.inr (.inl 155)), .inr (.inr (.inl 5))] M0 (jRv (fun M' => HI X M' ∧ Fr md_X2_takeAll_155_5 M0 M' )) := by
 refine ⟨jr_X2_takeAll, pj_X2_takeAll, fun F c1 c2 c3 => ?_⟩
 have hm := pj_X2_takeAll
 change F 0 [some (.inr (.inr (.inl 155))), some (.inr (.inr (.inl 5)))] [] M0
 have hF0 : Fr md_X2_takeAll_155_5 M0 M0 := Fr.rf _ _
 refine jx_load c1 hm rfl rfl rfl rfl ?_
 refine jx_getr c1 hm rfl sh_5 rfl ?_
 refine jx_load c1 hm rfl rfl rfl rfl ?_
 refine jx_getr c1 hm rfl sh_155 rfl ?_
 refine jt_v c3 hm rfl rfl pj_X11_copyRow rfl rfl rfl ((ct_X11_copyRow_6_156 X (by omega) M0 hH0 ).le (by decide)) (fun M1 ⟨hH1, hR1⟩ => ?_)
 have hF1 := hF0.tr hR1 (by decide +kernel)
 refine jx_load c1 hm rfl rfl rfl rfl ?_
 refine jx_getr c1 hm rfl sh_5 rfl ?_
 refine jy_ic c1 hm rfl (by decide) ?_
 refine jx_load c1 hm rfl rfl rfl rfl ?_
 refine jx_getr c1 hm rfl sh_155 rfl ?_
 refine jy_ic c1 hm rfl (by decide) ?_
 refine jy_bp c1 hm rfl (by decide) ?_
 obtain ⟨M2, e2, hH2, hF2, n2⟩ := mcl hH1 hF1 (c1 := 7) (c2 := 157) (n := 18) rfl
 refine jm_acpl c1 hm rfl rfl sh_7 sh_157 ⟨by omega, by omega, by omega⟩ e2 ?_
 refine jx_load c1 hm rfl rfl rfl rfl ?_
 refine jx_getr c1 hm rfl sh_5 rfl ?_
 refine jx_load c1 hm rfl rfl rfl rfl ?_
 refine jx_getr c1 hm rfl sh_155 rfl ?_
 refine jt_v c3 hm rfl rfl pj_X11_copyRow rfl rfl rfl ((ct_X11_copyRow_8_158 X (by omega) M2 hH2 ).le (by decide)) (fun M3 ⟨hH3, hR3⟩ => ?_)
 have hF3 := hF2.tr hR3 (by decide +kernel)
 refine jx_load c1 hm rfl rfl rfl rfl ?_
 refine jx_getr c1 hm rfl sh_5 rfl ?_
 refine jx_load c1 hm rfl rfl rfl rfl ?_
 refine jx_getr c1 hm rfl sh_155 rfl ?_
 refine jt_v c3 hm rfl rfl pj_X11_copyRow rfl rfl rfl ((ct_X11_copyRow_10_160 X (by omega) M3 hH3 ).le (by decide)) (fun M4 ⟨hH4, hR4⟩ => ?_)
 have hF4 := hF3.tr hR4 (by decide +kernel)
 refine jx_load c1 hm rfl rfl rfl rfl ?_
 refine jx_getr c1 hm rfl sh_5 rfl ?_
 refine jx_load c1 hm rfl rfl rfl rfl ?_
 refine jx_getr c1 hm rfl sh_155 rfl ?_
 refine jt_v c3 hm rfl rfl pj_X11_copyRow rfl rfl rfl ((ct_X11_copyRow_11_161 X (by omega) M4 hH4 ).le (by decide)) (fun M5 ⟨hH5, hR5⟩ => ?_)
 have hF5 := hF4.tr hR5 (by decide +kernel)
 refine jx_load c1 hm rfl rfl rfl rfl ?_
 refine jx_load c1 hm rfl rfl rfl rfl ?_
 obtain ⟨z6, k7, lz6, uz6⟩ := hH5.ld (c := 5) (i := 6) (A := 0) (B := 9) (bs_20_1 _ _ (by omega) (by omega))
 refine jx_geti c1 hm rfl sh_5 rfl k7 ?_
 obtain ⟨M8, e8, hH8, hF8, k8, n8, _⟩ := mup hH5 hF5 (c := 155) (i := 6) (v := z6) (A := 0) (B := 9) (bs_20_1 _ _ (by omega) (by omega)) ⟨by omega, by omega⟩ (jin_of 0 rfl ⟨by omega, by omega⟩)
 refine jm_puti c1 hm rfl sh_155 rfl e8 ?_
 refine jx_load c1 hm rfl rfl rfl rfl ?_
 refine jx_load c1 hm rfl rfl rfl rfl ?_
 obtain ⟨z9, k10, lz9, uz9⟩ := hH8.ld (c := 5) (i := 7) (A := 0) (B := 9) (bs_20_1 _ _ (by omega) (by omega))
 refine jx_geti c1 hm rfl sh_5 rfl k10 ?_
 obtain ⟨M11, e11, hH11, hF11, k11, n11, _⟩ := mup hH8 hF8 (c := 155) (i := 7) (v := z9) (A := 0) (B := 9) (bs_20_1 _ _ (by omega) (by omega)) ⟨by omega, by omega⟩ (jin_of 1 rfl ⟨by omega, by omega⟩)
 refine jm_puti c1 hm rfl sh_155 rfl e11 ?_
 refine jx_load c1 hm rfl rfl rfl rfl ?_
 refine jx_getr c1 hm rfl sh_155 rfl ?_
 refine jx_load c1 hm rfl rfl rfl rfl ?_
 refine jx_getr c1 hm rfl sh_5 rfl ?_
 refine jv_v c3 hm rfl pj_X8_takeAll rfl rfl ⟨_, _, _, rfl, sh_162⟩ rfl ((ct_X8_takeAll_162_12 X (by omega) M11 hH11 ).le (by decide)) (fun M12 ⟨hH12, hR12⟩ => ?_)
 have hF12 := hF11.tr hR12 (by decide +kernel)
 refine jx_load c1 hm rfl rfl rfl rfl ?_
 refine jx_getr c1 hm rfl sh_155 rfl ?_
 refine jx_load c1 hm rfl rfl rfl rfl ?_
 refine jx_getr c1 hm rfl sh_5 rfl ?_
 refine jv_v c3 hm rfl pj_X7_takeAll rfl rfl ⟨_, _, _, rfl, sh_170⟩ rfl ((ct_X7_takeAll_170_20 X (by omega) M12 hH12 ).le (by decide)) (fun M13 ⟨hH13, hR13⟩ => ?_)
 have hF13 := hF12.tr hR13 (by decide +kernel)
 exact jx_retv c2 hm rfl rfl ⟨rfl, hH13, hF13⟩
def md_X11_image_0 : List (Nat × (Nat × Nat)) := [(46, (0, 1)), (137, (6, 6)), (137, (7, 7)), (138, (0, 2)), (139, (0, 17)), (140, (0, 5)), (142, (0, 35)), (143, (0, 5)), (144, (7, 7)), (145, (0, 5)), (146, (0, 5)), (147, (0, 5)), (148, (0, 5)), (149, (0, 35)), (150, (0, 35)), (151, (0, 35)), (152, (2, 2)), (152, (3, 3)), (153, (0, 39)), (155, (6, 6)), (155, (7, 7)), (156, (0, 2)), (157, (0, 17)), (158, (0, 5)), (160, (0, 35)), (161, (0, 5)), (162, (7, 7)), (163, (0, 5)), (164, (0, 5)), (165, (0, 5)), (166, (0, 5)), (167, (0, 35)), (168, (0, 35)), (169, (0, 35)), (170, (2, 2)), (170, (3, 3)), (171, (0, 39))]
theorem ct_X11_image_0 (X : Int) (hX : 0 ≤ X ∧ X ≤ 100000000) (M0 : JM) (hH0 : HI X M0) (a0 : Int) (ha0 : (-2147483648) ≤ a0 ∧ a0 ≤ 2147483647) : JOk shp PJ 4 44 [.inr (.inr (.inl 0)), .inl a0] M0 (jRi (fun v M' => HI X M' ∧ Fr md_X11_image_0 M0 M' ∧ 0 ≤ v ∧ v ≤ 1 )) := by
 refine ⟨jr_X11_image, pj_X11_image, fun F c1 c2 c3 => ?_⟩
 have hm := pj_X11_image
 change F 0 [some (.inr (.inr (.inl 0))), some (.inl a0)] [] M0
 have hF0 : Fr md_X11_image_0 M0 M0 := Fr.rf _ _
 refine jx_load c1 hm rfl rfl rfl rfl ?_
 refine jz_lt c1 hm 9 rfl rfl (fun h1 => ?_) (fun h1 => ?_)
 ·
  refine jy_ic c1 hm rfl (by decide) ?_
  exact jx_retz c2 hm rfl rfl ⟨by omega, by omega⟩ ⟨_, rfl, hH0, hF0, by omega, by omega⟩
 refine jx_load c1 hm rfl rfl rfl rfl ?_
 refine jy_ic c1 hm rfl (by decide) ?_
 refine jc_lt c1 hm 11 rfl rfl (fun h2 => ?_) (fun h2 => ?_)
 ·
  refine jx_load c1 hm rfl rfl rfl rfl ?_
  refine jx_getr c1 hm rfl sh_0 rfl ?_
  refine jx_load c1 hm rfl rfl rfl rfl ?_
  have h3 : a0 = 0 ∨ a0 = 1 := by omega
  rcases h3 with h3 | h3
  ·
   refine jx_aald c1 hm rfl sh_45 (by omega) (by rw [h3]; rfl) ?_
   refine jx_load c1 hm rfl rfl rfl rfl ?_
   refine jx_getr c1 hm rfl sh_0 rfl ?_
   refine jv_v c3 hm rfl pj_X2_takeAll rfl rfl ⟨_, _, _, rfl, sh_137⟩ rfl ((ct_X2_takeAll_137_5 X (by omega) M0 hH0 ).le (by decide)) (fun M4 ⟨hH4, hR4⟩ => ?_)
   have hF4 := hF0.tr hR4 (by decide +kernel)
   refine jx_load c1 hm rfl rfl rfl rfl ?_
   refine jx_getr c1 hm rfl sh_0 rfl ?_
   refine jx_load c1 hm rfl rfl rfl rfl ?_
   refine jy_ic c1 hm rfl (by decide) ?_
   obtain ⟨M5, e5, hH5, hF5, k5, n5, _⟩ := mup hH4 hF4 (c := 46) (i := (a0).toNat) (v := 1) (A := 0) (B := 1) rfl ⟨by omega, by omega⟩ (jin_of 0 rfl ⟨by omega, by omega⟩)
   refine jm_bast c1 hm rfl sh_46 (Or.inr ⟨rfl, by omega, by omega⟩) ⟨by omega, by omega⟩ e5 ?_
   refine jy_ic c1 hm rfl (by decide) ?_
   exact jx_retz c2 hm rfl rfl ⟨by omega, by omega⟩ ⟨_, rfl, hH5, hF5, by omega, by omega⟩
  ·
   refine jx_aald c1 hm rfl sh_45 (by omega) (by rw [h3]; rfl) ?_
   refine jx_load c1 hm rfl rfl rfl rfl ?_
   refine jx_getr c1 hm rfl sh_0 rfl ?_
   refine jv_v c3 hm rfl pj_X2_takeAll rfl rfl ⟨_, _, _, rfl, sh_155⟩ rfl ((ct_X2_takeAll_155_5 X (by omega) M0 hH0 ).le (by decide)) (fun M6 ⟨hH6, hR6⟩ => ?_)
   have hF6 := hF0.tr hR6 (by decide +kernel)
   refine jx_load c1 hm rfl rfl rfl rfl ?_
   refine jx_getr c1 hm rfl sh_0 rfl ?_
   refine jx_load c1 hm rfl rfl rfl rfl ?_
   refine jy_ic c1 hm rfl (by decide) ?_
   obtain ⟨M7, e7, hH7, hF7, k7, n7, _⟩ := mup hH6 hF6 (c := 46) (i := (a0).toNat) (v := 1) (A := 0) (B := 1) rfl ⟨by omega, by omega⟩ (jin_of 0 rfl ⟨by omega, by omega⟩)
   refine jm_bast c1 hm rfl sh_46 (Or.inr ⟨rfl, by omega, by omega⟩) ⟨by omega, by omega⟩ e7 ?_
   refine jy_ic c1 hm rfl (by decide) ?_
   exact jx_retz c2 hm rfl rfl ⟨by omega, by omega⟩ ⟨_, rfl, hH7, hF7, by omega, by omega⟩
 refine jy_ic c1 hm rfl (by decide) ?_
 exact jx_retz c2 hm rfl rfl ⟨by omega, by omega⟩ ⟨_, rfl, hH0, hF0, by omega, by omega⟩
def md_X11_copyRow_138_6 : List (Nat × (Nat × Nat)) := [(6, (0, 2))]
theorem ct_X11_copyRow_138_6 (X : Int) (hX : 0 ≤ X ∧ X ≤ 100000000) (M0 : JM) (hH0 : HI X M0)  : JOk shp PJ 1 29 [.inr (.inr (.inl 138)), .inr (.inr (.inl 6))] M0 (jRv (fun M' => HI X M' ∧ Fr md_X11_copyRow_138_6 M0 M' )) := by
 refine ⟨jr_X11_copyRow, pj_X11_copyRow, fun F c1 c2 c3 => ?_⟩
 have hm := pj_X11_copyRow
 change F 0 [some (.inr (.inr (.inl 138))), some (.inr (.inr (.inl 6)))] [] M0
 have hF0 : Fr md_X11_copyRow_138_6 M0 M0 := Fr.rf _ _
 refine jx_load c1 hm rfl rfl rfl rfl ?_
 refine jy_ic c1 hm rfl (by decide) ?_
 refine jx_load c1 hm rfl rfl rfl rfl ?_
 refine jy_ic c1 hm rfl (by decide) ?_
 refine jx_load c1 hm rfl rfl rfl rfl ?_
 refine jx_alen c1 hm (v := 3) rfl sh_138 rfl rfl ?_
 refine jx_load c1 hm rfl rfl rfl rfl ?_
 refine jx_alen c1 hm (v := 3) rfl sh_6 rfl rfl ?_
 refine jx_min c1 hm rfl rfl (fun z1 lz1 uz1 ez1 => ?_)
 obtain ⟨M2, e2, hH2, hF2, n2, _⟩ := mcp hH0 hF0 (c1 := 138) (c2 := 6) (n := z1) (fun _ _ => rfl) (fun j hj => jin_of 0 rfl ⟨by omega, by omega⟩)
 refine jm_acpi c1 hm rfl rfl sh_138 sh_6 ⟨by omega, by omega, by omega⟩ e2 ?_
 exact jx_retv c2 hm rfl rfl ⟨rfl, hH2, hF2⟩
def md_X11_copyRow_140_8 : List (Nat × (Nat × Nat)) := [(8, (0, 5))]
theorem ct_X11_copyRow_140_8 (X : Int) (hX : 0 ≤ X ∧ X ≤ 100000000) (M0 : JM) (hH0 : HI X M0)  : JOk shp PJ 1 29 [.inr (.inr (.inl 140)), .inr (.inr (.inl 8))] M0 (jRv (fun M' => HI X M' ∧ Fr md_X11_copyRow_140_8 M0 M' )) := by
 refine ⟨jr_X11_copyRow, pj_X11_copyRow, fun F c1 c2 c3 => ?_⟩
 have hm := pj_X11_copyRow
 change F 0 [some (.inr (.inr (.inl 140))), some (.inr (.inr (.inl 8)))] [] M0
 have hF0 : Fr md_X11_copyRow_140_8 M0 M0 := Fr.rf _ _
 refine jx_load c1 hm rfl rfl rfl rfl ?_
 refine jy_ic c1 hm rfl (by decide) ?_
 refine jx_load c1 hm rfl rfl rfl rfl ?_
 refine jy_ic c1 hm rfl (by decide) ?_
 refine jx_load c1 hm rfl rfl rfl rfl ?_
 refine jx_alen c1 hm (v := 6) rfl sh_140 rfl rfl ?_
 refine jx_load c1 hm rfl rfl rfl rfl ?_
 refine jx_alen c1 hm (v := 6) rfl sh_8 rfl rfl ?_
 refine jx_min c1 hm rfl rfl (fun z1 lz1 uz1 ez1 => ?_)
 obtain ⟨M2, e2, hH2, hF2, n2, _⟩ := mcp hH0 hF0 (c1 := 140) (c2 := 8) (n := z1) (fun _ _ => rfl) (fun j hj => jin_of 0 rfl ⟨by omega, by omega⟩)
 refine jm_acpi c1 hm rfl rfl sh_140 sh_8 ⟨by omega, by omega, by omega⟩ e2 ?_
 exact jx_retv c2 hm rfl rfl ⟨rfl, hH2, hF2⟩
def md_X11_copyRow_142_10 : List (Nat × (Nat × Nat)) := [(10, (0, 35))]
theorem ct_X11_copyRow_142_10 (X : Int) (hX : 0 ≤ X ∧ X ≤ 100000000) (M0 : JM) (hH0 : HI X M0)  : JOk shp PJ 1 29 [.inr (.inr (.inl 142)), .inr (.inr (.inl 10))] M0 (jRv (fun M' => HI X M' ∧ Fr md_X11_copyRow_142_10 M0 M' )) := by
 refine ⟨jr_X11_copyRow, pj_X11_copyRow, fun F c1 c2 c3 => ?_⟩
 have hm := pj_X11_copyRow
 change F 0 [some (.inr (.inr (.inl 142))), some (.inr (.inr (.inl 10)))] [] M0
 have hF0 : Fr md_X11_copyRow_142_10 M0 M0 := Fr.rf _ _
 refine jx_load c1 hm rfl rfl rfl rfl ?_
 refine jy_ic c1 hm rfl (by decide) ?_
 refine jx_load c1 hm rfl rfl rfl rfl ?_
 refine jy_ic c1 hm rfl (by decide) ?_
 refine jx_load c1 hm rfl rfl rfl rfl ?_
 refine jx_alen c1 hm (v := 36) rfl sh_142 rfl rfl ?_
 refine jx_load c1 hm rfl rfl rfl rfl ?_
 refine jx_alen c1 hm (v := 36) rfl sh_10 rfl rfl ?_
 refine jx_min c1 hm rfl rfl (fun z1 lz1 uz1 ez1 => ?_)
 obtain ⟨M2, e2, hH2, hF2, n2, _⟩ := mcp hH0 hF0 (c1 := 142) (c2 := 10) (n := z1) (fun _ _ => rfl) (fun j hj => jin_of 0 rfl ⟨by omega, by omega⟩)
 refine jm_acpi c1 hm rfl rfl sh_142 sh_10 ⟨by omega, by omega, by omega⟩ e2 ?_
 exact jx_retv c2 hm rfl rfl ⟨rfl, hH2, hF2⟩
def md_X11_copyRow_143_11 : List (Nat × (Nat × Nat)) := [(11, (0, 5))]
theorem ct_X11_copyRow_143_11 (X : Int) (hX : 0 ≤ X ∧ X ≤ 100000000) (M0 : JM) (hH0 : HI X M0)  : JOk shp PJ 1 29 [.inr (.inr (.inl 143)), .inr (.inr (.inl 11))] M0 (jRv (fun M' => HI X M' ∧ Fr md_X11_copyRow_143_11 M0 M' )) := by
 refine ⟨jr_X11_copyRow, pj_X11_copyRow, fun F c1 c2 c3 => ?_⟩
 have hm := pj_X11_copyRow
 change F 0 [some (.inr (.inr (.inl 143))), some (.inr (.inr (.inl 11)))] [] M0
 have hF0 : Fr md_X11_copyRow_143_11 M0 M0 := Fr.rf _ _
 refine jx_load c1 hm rfl rfl rfl rfl ?_
 refine jy_ic c1 hm rfl (by decide) ?_
 refine jx_load c1 hm rfl rfl rfl rfl ?_
 refine jy_ic c1 hm rfl (by decide) ?_
 refine jx_load c1 hm rfl rfl rfl rfl ?_
 refine jx_alen c1 hm (v := 6) rfl sh_143 rfl rfl ?_
 refine jx_load c1 hm rfl rfl rfl rfl ?_
 refine jx_alen c1 hm (v := 6) rfl sh_11 rfl rfl ?_
 refine jx_min c1 hm rfl rfl (fun z1 lz1 uz1 ez1 => ?_)
 obtain ⟨M2, e2, hH2, hF2, n2, _⟩ := mcp hH0 hF0 (c1 := 143) (c2 := 11) (n := z1) (fun _ _ => rfl) (fun j hj => jin_of 0 rfl ⟨by omega, by omega⟩)
 refine jm_acpi c1 hm rfl rfl sh_143 sh_11 ⟨by omega, by omega, by omega⟩ e2 ?_
 exact jx_retv c2 hm rfl rfl ⟨rfl, hH2, hF2⟩
def md_X11_copyRow_145_13 : List (Nat × (Nat × Nat)) := [(13, (0, 5))]
theorem ct_X11_copyRow_145_13 (X : Int) (hX : 0 ≤ X ∧ X ≤ 100000000) (M0 : JM) (hH0 : HI X M0)  : JOk shp PJ 1 29 [.inr (.inr (.inl 145)), .inr (.inr (.inl 13))] M0 (jRv (fun M' => HI X M' ∧ Fr md_X11_copyRow_145_13 M0 M' )) := by
 refine ⟨jr_X11_copyRow, pj_X11_copyRow, fun F c1 c2 c3 => ?_⟩
 have hm := pj_X11_copyRow
 change F 0 [some (.inr (.inr (.inl 145))), some (.inr (.inr (.inl 13)))] [] M0
 have hF0 : Fr md_X11_copyRow_145_13 M0 M0 := Fr.rf _ _
 refine jx_load c1 hm rfl rfl rfl rfl ?_
 refine jy_ic c1 hm rfl (by decide) ?_
 refine jx_load c1 hm rfl rfl rfl rfl ?_
 refine jy_ic c1 hm rfl (by decide) ?_
 refine jx_load c1 hm rfl rfl rfl rfl ?_
 refine jx_alen c1 hm (v := 6) rfl sh_145 rfl rfl ?_
 refine jx_load c1 hm rfl rfl rfl rfl ?_
 refine jx_alen c1 hm (v := 6) rfl sh_13 rfl rfl ?_
 refine jx_min c1 hm rfl rfl (fun z1 lz1 uz1 ez1 => ?_)
 obtain ⟨M2, e2, hH2, hF2, n2, _⟩ := mcp hH0 hF0 (c1 := 145) (c2 := 13) (n := z1) (fun _ _ => rfl) (fun j hj => jin_of 0 rfl ⟨by omega, by omega⟩)
 refine jm_acpi c1 hm rfl rfl sh_145 sh_13 ⟨by omega, by omega, by omega⟩ e2 ?_
 exact jx_retv c2 hm rfl rfl ⟨rfl, hH2, hF2⟩
def md_X11_copyRow_146_14 : List (Nat × (Nat × Nat)) := [(14, (0, 5))]
theorem ct_X11_copyRow_146_14 (X : Int) (hX : 0 ≤ X ∧ X ≤ 100000000) (M0 : JM) (hH0 : HI X M0)  : JOk shp PJ 1 29 [.inr (.inr (.inl 146)), .inr (.inr (.inl 14))] M0 (jRv (fun M' => HI X M' ∧ Fr md_X11_copyRow_146_14 M0 M' )) := by
 refine ⟨jr_X11_copyRow, pj_X11_copyRow, fun F c1 c2 c3 => ?_⟩
 have hm := pj_X11_copyRow
 change F 0 [some (.inr (.inr (.inl 146))), some (.inr (.inr (.inl 14)))] [] M0
 have hF0 : Fr md_X11_copyRow_146_14 M0 M0 := Fr.rf _ _
 refine jx_load c1 hm rfl rfl rfl rfl ?_
 refine jy_ic c1 hm rfl (by decide) ?_
 refine jx_load c1 hm rfl rfl rfl rfl ?_
 refine jy_ic c1 hm rfl (by decide) ?_
 refine jx_load c1 hm rfl rfl rfl rfl ?_
 refine jx_alen c1 hm (v := 6) rfl sh_146 rfl rfl ?_
 refine jx_load c1 hm rfl rfl rfl rfl ?_
 refine jx_alen c1 hm (v := 6) rfl sh_14 rfl rfl ?_
 refine jx_min c1 hm rfl rfl (fun z1 lz1 uz1 ez1 => ?_)
 obtain ⟨M2, e2, hH2, hF2, n2, _⟩ := mcp hH0 hF0 (c1 := 146) (c2 := 14) (n := z1) (fun _ _ => rfl) (fun j hj => jin_of 0 rfl ⟨by omega, by omega⟩)
 refine jm_acpi c1 hm rfl rfl sh_146 sh_14 ⟨by omega, by omega, by omega⟩ e2 ?_
 exact jx_retv c2 hm rfl rfl ⟨rfl, hH2, hF2⟩
def md_X11_copyRow_147_15 : List (Nat × (Nat × Nat)) := [(15, (0, 5))]
theorem ct_X11_copyRow_147_15 (X : Int) (hX : 0 ≤ X ∧ X ≤ 100000000) (M0 : JM) (hH0 : HI X M0)  : JOk shp PJ 1 29 [.inr (.inr (.inl 147)), .inr (.inr (.inl 15))] M0 (jRv (fun M' => HI X M' ∧ Fr md_X11_copyRow_147_15 M0 M' )) := by
 refine ⟨jr_X11_copyRow, pj_X11_copyRow, fun F c1 c2 c3 => ?_⟩
 have hm := pj_X11_copyRow
 change F 0 [some (.inr (.inr (.inl 147))), some (.inr (.inr (.inl 15)))] [] M0
 have hF0 : Fr md_X11_copyRow_147_15 M0 M0 := Fr.rf _ _
 refine jx_load c1 hm rfl rfl rfl rfl ?_
 refine jy_ic c1 hm rfl (by decide) ?_
 refine jx_load c1 hm rfl rfl rfl rfl ?_
 refine jy_ic c1 hm rfl (by decide) ?_
 refine jx_load c1 hm rfl rfl rfl rfl ?_
 refine jx_alen c1 hm (v := 6) rfl sh_147 rfl rfl ?_
 refine jx_load c1 hm rfl rfl rfl rfl ?_
 refine jx_alen c1 hm (v := 6) rfl sh_15 rfl rfl ?_
 refine jx_min c1 hm rfl rfl (fun z1 lz1 uz1 ez1 => ?_)
 obtain ⟨M2, e2, hH2, hF2, n2, _⟩ := mcp hH0 hF0 (c1 := 147) (c2 := 15) (n := z1) (fun _ _ => rfl) (fun j hj => jin_of 0 rfl ⟨by omega, by omega⟩)
 refine jm_acpi c1 hm rfl rfl sh_147 sh_15 ⟨by omega, by omega, by omega⟩ e2 ?_
 exact jx_retv c2 hm rfl rfl ⟨rfl, hH2, hF2⟩
def md_X11_copyRow_148_16 : List (Nat × (Nat × Nat)) := [(16, (0, 5))]
theorem ct_X11_copyRow_148_16 (X : Int) (hX : 0 ≤ X ∧ X ≤ 100000000) (M0 : JM) (hH0 : HI X M0)  : JOk shp PJ 1 29 [.inr (.inr (.inl 148)), .inr (.inr (.inl 16))] M0 (jRv (fun M' => HI X M' ∧ Fr md_X11_copyRow_148_16 M0 M' )) := by
 refine ⟨jr_X11_copyRow, pj_X11_copyRow, fun F c1 c2 c3 => ?_⟩
 have hm := pj_X11_copyRow
 change F 0 [some (.inr (.inr (.inl 148))), some (.inr (.inr (.inl 16)))] [] M0
 have hF0 : Fr md_X11_copyRow_148_16 M0 M0 := Fr.rf _ _
 refine jx_load c1 hm rfl rfl rfl rfl ?_
 refine jy_ic c1 hm rfl (by decide) ?_
 refine jx_load c1 hm rfl rfl rfl rfl ?_
 refine jy_ic c1 hm rfl (by decide) ?_
 refine jx_load c1 hm rfl rfl rfl rfl ?_
 refine jx_alen c1 hm (v := 6) rfl sh_148 rfl rfl ?_
 refine jx_load c1 hm rfl rfl rfl rfl ?_
 refine jx_alen c1 hm (v := 6) rfl sh_16 rfl rfl ?_
 refine jx_min c1 hm rfl rfl (fun z1 lz1 uz1 ez1 => ?_)
 obtain ⟨M2, e2, hH2, hF2, n2, _⟩ := mcp hH0 hF0 (c1 := 148) (c2 := 16) (n := z1) (fun _ _ => rfl) (fun j hj => jin_of 0 rfl ⟨by omega, by omega⟩)
 refine jm_acpi c1 hm rfl rfl sh_148 sh_16 ⟨by omega, by omega, by omega⟩ e2 ?_
 exact jx_retv c2 hm rfl rfl ⟨rfl, hH2, hF2⟩
def md_X11_copyRow_149_17 : List (Nat × (Nat × Nat)) := [(17, (0, 35))]
theorem ct_X11_copyRow_149_17 (X : Int) (hX : 0 ≤ X ∧ X ≤ 100000000) (M0 : JM) (hH0 : HI X M0)  : JOk shp PJ 1 29 [.inr (.inr (.inl 149)), .inr (.inr (.inl 17))] M0 (jRv (fun M' => HI X M' ∧ Fr md_X11_copyRow_149_17 M0 M' )) := by
 refine ⟨jr_X11_copyRow, pj_X11_copyRow, fun F c1 c2 c3 => ?_⟩
 have hm := pj_X11_copyRow
 change F 0 [some (.inr (.inr (.inl 149))), some (.inr (.inr (.inl 17)))] [] M0
 have hF0 : Fr md_X11_copyRow_149_17 M0 M0 := Fr.rf _ _
 refine jx_load c1 hm rfl rfl rfl rfl ?_
 refine jy_ic c1 hm rfl (by decide) ?_
 refine jx_load c1 hm rfl rfl rfl rfl ?_
 refine jy_ic c1 hm rfl (by decide) ?_
 refine jx_load c1 hm rfl rfl rfl rfl ?_
 refine jx_alen c1 hm (v := 36) rfl sh_149 rfl rfl ?_
 refine jx_load c1 hm rfl rfl rfl rfl ?_
 refine jx_alen c1 hm (v := 36) rfl sh_17 rfl rfl ?_
 refine jx_min c1 hm rfl rfl (fun z1 lz1 uz1 ez1 => ?_)
 obtain ⟨M2, e2, hH2, hF2, n2, _⟩ := mcp hH0 hF0 (c1 := 149) (c2 := 17) (n := z1) (fun _ _ => rfl) (fun j hj => jin_of 0 rfl ⟨by omega, by omega⟩)
 refine jm_acpi c1 hm rfl rfl sh_149 sh_17 ⟨by omega, by omega, by omega⟩ e2 ?_
 exact jx_retv c2 hm rfl rfl ⟨rfl, hH2, hF2⟩
def md_X11_copyRow_150_18 : List (Nat × (Nat × Nat)) := [(18, (0, 35))]
theorem ct_X11_copyRow_150_18 (X : Int) (hX : 0 ≤ X ∧ X ≤ 100000000) (M0 : JM) (hH0 : HI X M0)  : JOk shp PJ 1 29 [.inr (.inr (.inl 150)), .inr (.inr (.inl 18))] M0 (jRv (fun M' => HI X M' ∧ Fr md_X11_copyRow_150_18 M0 M' )) := by
 refine ⟨jr_X11_copyRow, pj_X11_copyRow, fun F c1 c2 c3 => ?_⟩
 have hm := pj_X11_copyRow
 change F 0 [some (.inr (.inr (.inl 150))), some (.inr (.inr (.inl 18)))] [] M0
 have hF0 : Fr md_X11_copyRow_150_18 M0 M0 := Fr.rf _ _
 refine jx_load c1 hm rfl rfl rfl rfl ?_
 refine jy_ic c1 hm rfl (by decide) ?_
 refine jx_load c1 hm rfl rfl rfl rfl ?_
 refine jy_ic c1 hm rfl (by decide) ?_
 refine jx_load c1 hm rfl rfl rfl rfl ?_
 refine jx_alen c1 hm (v := 36) rfl sh_150 rfl rfl ?_
 refine jx_load c1 hm rfl rfl rfl rfl ?_
 refine jx_alen c1 hm (v := 36) rfl sh_18 rfl rfl ?_
 refine jx_min c1 hm rfl rfl (fun z1 lz1 uz1 ez1 => ?_)
 obtain ⟨M2, e2, hH2, hF2, n2, _⟩ := mcp hH0 hF0 (c1 := 150) (c2 := 18) (n := z1) (fun _ _ => rfl) (fun j hj => jin_of 0 rfl ⟨by omega, by omega⟩)
 refine jm_acpi c1 hm rfl rfl sh_150 sh_18 ⟨by omega, by omega, by omega⟩ e2 ?_
 exact jx_retv c2 hm rfl rfl ⟨rfl, hH2, hF2⟩
def md_X11_copyRow_151_19 : List (Nat × (Nat × Nat)) := [(19, (0, 35))]
theorem ct_X11_copyRow_151_19 (X : Int) (hX : 0 ≤ X ∧ X ≤ 100000000) (M0 : JM) (hH0 : HI X M0)  : JOk shp PJ 1 29 [.inr (.inr (.inl 151)), .inr (.inr (.inl 19))] M0 (jRv (fun M' => HI X M' ∧ Fr md_X11_copyRow_151_19 M0 M' )) := by
 refine ⟨jr_X11_copyRow, pj_X11_copyRow, fun F c1 c2 c3 => ?_⟩
 have hm := pj_X11_copyRow
 change F 0 [some (.inr (.inr (.inl 151))), some (.inr (.inr (.inl 19)))] [] M0
 have hF0 : Fr md_X11_copyRow_151_19 M0 M0 := Fr.rf _ _
 refine jx_load c1 hm rfl rfl rfl rfl ?_
 refine jy_ic c1 hm rfl (by decide) ?_
 refine jx_load c1 hm rfl rfl rfl rfl ?_
 refine jy_ic c1 hm rfl (by decide) ?_
 refine jx_load c1 hm rfl rfl rfl rfl ?_
 refine jx_alen c1 hm (v := 36) rfl sh_151 rfl rfl ?_
 refine jx_load c1 hm rfl rfl rfl rfl ?_
 refine jx_alen c1 hm (v := 36) rfl sh_19 rfl rfl ?_
 refine jx_min c1 hm rfl rfl (fun z1 lz1 uz1 ez1 => ?_)
 obtain ⟨M2, e2, hH2, hF2, n2, _⟩ := mcp hH0 hF0 (c1 := 151) (c2 := 19) (n := z1) (fun _ _ => rfl) (fun j hj => jin_of 0 rfl ⟨by omega, by omega⟩)
 refine jm_acpi c1 hm rfl rfl sh_151 sh_19 ⟨by omega, by omega, by omega⟩ e2 ?_
 exact jx_retv c2 hm rfl rfl ⟨rfl, hH2, hF2⟩
def md_X8_takeAll_12_144 : List (Nat × (Nat × Nat)) := [(12, (7, 7)), (13, (0, 5)), (14, (0, 5)), (15, (0, 5)), (16, (0, 5)), (17, (0, 35)), (18, (0, 35)), (19, (0, 35))]
theorem ct_X8_takeAll_12_144 (X : Int) (hX : 0 ≤ X ∧ X ≤ 100000000) (M0 : JM) (hH0 : HI X M0)  : JOk shp PJ 2 264 [.inr (.inr (.inl 12)), .inr (.inr (.inl 144))] M0 (jRv (fun M' => HI X M' ∧ Fr md_X8_takeAll_12_144 M0 M' )) := by
 refine ⟨jr_X8_takeAll, pj_X8_takeAll, fun F c1 c2 c3 => ?_⟩
 have hm := pj_X8_takeAll
 change F 0 [some (.inr (.inr (.inl 12))), some (.inr (.inr (.inl 144)))] [] M0
 have hF0 : Fr md_X8_takeAll_12_144 M0 M0 := Fr.rf _ _
 refine jx_load c1 hm rfl rfl rfl rfl ?_
 refine jx_getr c1 hm rfl sh_144 rfl ?_
 refine jx_load c1 hm rfl rfl rfl rfl ?_
 refine jx_getr c1 hm rfl sh_12 rfl ?_
 refine jt_v c3 hm rfl rfl pj_X11_copyRow rfl rfl rfl ((ct_X11_copyRow_145_13 X (by omega) M0 hH0 ).le (by decide)) (fun M1 ⟨hH1, hR1⟩ => ?_)
 have hF1 := hF0.tr hR1 (by decide +kernel)
 refine jx_load c1 hm rfl rfl rfl rfl ?_
 refine jx_getr c1 hm rfl sh_144 rfl ?_
 refine jx_load c1 hm rfl rfl rfl rfl ?_
 refine jx_getr c1 hm rfl sh_12 rfl ?_
 refine jt_v c3 hm rfl rfl pj_X11_copyRow rfl rfl rfl ((ct_X11_copyRow_146_14 X (by omega) M1 hH1 ).le (by decide)) (fun M2 ⟨hH2, hR2⟩ => ?_)
 have hF2 := hF1.tr hR2 (by decide +kernel)
 refine jx_load c1 hm rfl rfl rfl rfl ?_
 refine jx_getr c1 hm rfl sh_144 rfl ?_
 refine jx_load c1 hm rfl rfl rfl rfl ?_
 refine jx_getr c1 hm rfl sh_12 rfl ?_
 refine jt_v c3 hm rfl rfl pj_X11_copyRow rfl rfl rfl ((ct_X11_copyRow_147_15 X (by omega) M2 hH2 ).le (by decide)) (fun M3 ⟨hH3, hR3⟩ => ?_)
 have hF3 := hF2.tr hR3 (by decide +kernel)
 refine jx_load c1 hm rfl rfl rfl rfl ?_
 refine jx_getr c1 hm rfl sh_144 rfl ?_
 refine jx_load c1 hm rfl rfl rfl rfl ?_
 refine jx_getr c1 hm rfl sh_12 rfl ?_
 refine jt_v c3 hm rfl rfl pj_X11_copyRow rfl rfl rfl ((ct_X11_copyRow_148_16 X (by omega) M3 hH3 ).le (by decide)) (fun M4 ⟨hH4, hR4⟩ => ?_)
 have hF4 := hF3.tr hR4 (by decide +kernel)
 refine jx_load c1 hm rfl rfl rfl rfl ?_
 refine jx_getr c1 hm rfl sh_144 rfl ?_
 refine jx_load c1 hm rfl rfl rfl rfl ?_
 refine jx_getr c1 hm rfl sh_12 rfl ?_
 refine jt_v c3 hm rfl rfl pj_X11_copyRow rfl rfl rfl ((ct_X11_copyRow_149_17 X (by omega) M4 hH4 ).le (by decide)) (fun M5 ⟨hH5, hR5⟩ => ?_)
 have hF5 := hF4.tr hR5 (by decide +kernel)
 refine jx_load c1 hm rfl rfl rfl rfl ?_
 refine jx_getr c1 hm rfl sh_144 rfl ?_
 refine jx_load c1 hm rfl rfl rfl rfl ?_
 refine jx_getr c1 hm rfl sh_12 rfl ?_
 refine jt_v c3 hm rfl rfl pj_X11_copyRow rfl rfl rfl ((ct_X11_copyRow_150_18 X (by omega) M5 hH5 ).le (by decide)) (fun M6 ⟨hH6, hR6⟩ => ?_)
 have hF6 := hF5.tr hR6 (by decide +kernel)
 refine jx_load c1 hm rfl rfl rfl rfl ?_
 refine jx_getr c1 hm rfl sh_144 rfl ?_
 refine jx_load c1 hm rfl rfl rfl rfl ?_
 refine jx_getr c1 hm rfl sh_12 rfl ?_
 refine jt_v c3 hm rfl rfl pj_X11_copyRow rfl rfl rfl ((ct_X11_copyRow_151_19 X (by omega) M6 hH6 ).le (by decide)) (fun M7 ⟨hH7, hR7⟩ => ?_)
 have hF7 := hF6.tr hR7 (by decide +kernel)
 refine jx_load c1 hm rfl rfl rfl rfl ?_
 refine jx_load c1 hm rfl rfl rfl rfl ?_
 obtain ⟨z8, k9, lz8, uz8⟩ := hH7.ld (c := 144) (i := 7) (A := (-2147483648)) (B := 2147483647) rfl
 refine jx_geti c1 hm rfl sh_144 rfl k9 ?_
 obtain ⟨M10, e10, hH10, hF10, k10, n10, _⟩ := mup hH7 hF7 (c := 12) (i := 7) (v := z8) (A := (-2147483648)) (B := 2147483647) rfl ⟨by omega, by omega⟩ (jin_of 0 rfl ⟨by omega, by omega⟩)
 refine jm_puti c1 hm rfl sh_12 rfl e10 ?_
 exact jx_retv c2 hm rfl rfl ⟨rfl, hH10, hF10⟩
def md_X11_copyRow_153_21 : List (Nat × (Nat × Nat)) := [(21, (0, 39))]
theorem ct_X11_copyRow_153_21 (X : Int) (hX : 0 ≤ X ∧ X ≤ 100000000) (M0 : JM) (hH0 : HI X M0)  : JOk shp PJ 1 29 [.inr (.inr (.inl 153)), .inr (.inr (.inl 21))] M0 (jRv (fun M' => HI X M' ∧ Fr md_X11_copyRow_153_21 M0 M' )) := by
 refine ⟨jr_X11_copyRow, pj_X11_copyRow, fun F c1 c2 c3 => ?_⟩
 have hm := pj_X11_copyRow
 change F 0 [some (.inr (.inr (.inl 153))), some (.inr (.inr (.inl 21)))] [] M0
 have hF0 : Fr md_X11_copyRow_153_21 M0 M0 := Fr.rf _ _
 refine jx_load c1 hm rfl rfl rfl rfl ?_
 refine jy_ic c1 hm rfl (by decide) ?_
 refine jx_load c1 hm rfl rfl rfl rfl ?_
 refine jy_ic c1 hm rfl (by decide) ?_
 refine jx_load c1 hm rfl rfl rfl rfl ?_
 refine jx_alen c1 hm (v := 40) rfl sh_153 rfl rfl ?_
 refine jx_load c1 hm rfl rfl rfl rfl ?_
 refine jx_alen c1 hm (v := 40) rfl sh_21 rfl rfl ?_
 refine jx_min c1 hm rfl rfl (fun z1 lz1 uz1 ez1 => ?_)
 obtain ⟨M2, e2, hH2, hF2, n2, _⟩ := mcp hH0 hF0 (c1 := 153) (c2 := 21) (n := z1) (fun _ _ => rfl) (fun j hj => jin_of 0 rfl ⟨by omega, by omega⟩)
 refine jm_acpi c1 hm rfl rfl sh_153 sh_21 ⟨by omega, by omega, by omega⟩ e2 ?_
 exact jx_retv c2 hm rfl rfl ⟨rfl, hH2, hF2⟩
def md_X7_takeAll_20_152 : List (Nat × (Nat × Nat)) := [(20, (2, 2)), (20, (3, 3)), (21, (0, 39))]
theorem ct_X7_takeAll_20_152 (X : Int) (hX : 0 ≤ X ∧ X ≤ 100000000) (M0 : JM) (hH0 : HI X M0)  : JOk shp PJ 2 260 [.inr (.inr (.inl 20)), .inr (.inr (.inl 152))] M0 (jRv (fun M' => HI X M' ∧ Fr md_X7_takeAll_20_152 M0 M' )) := by
 refine ⟨jr_X7_takeAll, pj_X7_takeAll, fun F c1 c2 c3 => ?_⟩
 have hm := pj_X7_takeAll
 change F 0 [some (.inr (.inr (.inl 20))), some (.inr (.inr (.inl 152)))] [] M0
 have hF0 : Fr md_X7_takeAll_20_152 M0 M0 := Fr.rf _ _
 refine jx_load c1 hm rfl rfl rfl rfl ?_
 refine jx_getr c1 hm rfl sh_152 rfl ?_
 refine jx_load c1 hm rfl rfl rfl rfl ?_
 refine jx_getr c1 hm rfl sh_20 rfl ?_
 refine jt_v c3 hm rfl rfl pj_X11_copyRow rfl rfl rfl ((ct_X11_copyRow_153_21 X (by omega) M0 hH0 ).le (by decide)) (fun M1 ⟨hH1, hR1⟩ => ?_)
 have hF1 := hF0.tr hR1 (by decide +kernel)
 refine jx_load c1 hm rfl rfl rfl rfl ?_
 refine jx_load c1 hm rfl rfl rfl rfl ?_
 obtain ⟨z2, k3, lz2, uz2⟩ := hH1.ld (c := 152) (i := 2) (A := 0) (B := 40) (bs_21_1 _ _ (by omega) (by omega))
 refine jx_geti c1 hm rfl sh_152 rfl k3 ?_
 obtain ⟨M4, e4, hH4, hF4, k4, n4, _⟩ := mup hH1 hF1 (c := 20) (i := 2) (v := z2) (A := 0) (B := 40) (bs_21_1 _ _ (by omega) (by omega)) ⟨by omega, by omega⟩ (jin_of 0 rfl ⟨by omega, by omega⟩)
 refine jm_puti c1 hm rfl sh_20 rfl e4 ?_
 refine jx_load c1 hm rfl rfl rfl rfl ?_
 refine jx_load c1 hm rfl rfl rfl rfl ?_
 obtain ⟨z5, k6, lz5, uz5⟩ := hH4.ld (c := 152) (i := 3) (A := 0) (B := 20) (bs_21_2 _ _ (by omega) (by omega))
 refine jx_geti c1 hm rfl sh_152 rfl k6 ?_
 obtain ⟨M7, e7, hH7, hF7, k7, n7, _⟩ := mup hH4 hF4 (c := 20) (i := 3) (v := z5) (A := 0) (B := 20) (bs_21_2 _ _ (by omega) (by omega)) ⟨by omega, by omega⟩ (jin_of 1 rfl ⟨by omega, by omega⟩)
 refine jm_puti c1 hm rfl sh_20 rfl e7 ?_
 exact jx_retv c2 hm rfl rfl ⟨rfl, hH7, hF7⟩
def md_X2_takeAll_5_137 : List (Nat × (Nat × Nat)) := [(5, (6, 6)), (5, (7, 7)), (6, (0, 2)), (7, (0, 17)), (8, (0, 5)), (10, (0, 35)), (11, (0, 5)), (12, (7, 7)), (13, (0, 5)), (14, (0, 5)), (15, (0, 5)), (16, (0, 5)), (17, (0, 35)), (18, (0, 35)), (19, (0, 35)), (20, (2, 2)), (20, (3, 3)), (21, (0, 39))]
theorem ct_X2_takeAll_5_137 (X : Int) (hX : 0 ≤ X ∧ X ≤ 100000000) (M0 : JM) (hH0 : HI X M0)  : JOk shp PJ 3 231 [.inr (.inr (.inl 5)), .inr (.inr (.inl 137))] M0 (jRv (fun M' => HI X M' ∧ Fr md_X2_takeAll_5_137 M0 M' )) := by
 refine ⟨jr_X2_takeAll, pj_X2_takeAll, fun F c1 c2 c3 => ?_⟩
 have hm := pj_X2_takeAll
 change F 0 [some (.inr (.inr (.inl 5))), some (.inr (.inr (.inl 137)))] [] M0
 have hF0 : Fr md_X2_takeAll_5_137 M0 M0 := Fr.rf _ _
 refine jx_load c1 hm rfl rfl rfl rfl ?_
 refine jx_getr c1 hm rfl sh_137 rfl ?_
 refine jx_load c1 hm rfl rfl rfl rfl ?_
 refine jx_getr c1 hm rfl sh_5 rfl ?_
 refine jt_v c3 hm rfl rfl pj_X11_copyRow rfl rfl rfl ((ct_X11_copyRow_138_6 X (by omega) M0 hH0 ).le (by decide)) (fun M1 ⟨hH1, hR1⟩ => ?_)
 have hF1 := hF0.tr hR1 (by decide +kernel)
 refine jx_load c1 hm rfl rfl rfl rfl ?_
 refine jx_getr c1 hm rfl sh_137 rfl ?_
 refine jy_ic c1 hm rfl (by decide) ?_
 refine jx_load c1 hm rfl rfl rfl rfl ?_
 refine jx_getr c1 hm rfl sh_5 rfl ?_
 refine jy_ic c1 hm rfl (by decide) ?_
 refine jy_bp c1 hm rfl (by decide) ?_
 obtain ⟨M2, e2, hH2, hF2, n2⟩ := mcl hH1 hF1 (c1 := 139) (c2 := 7) (n := 18) rfl
 refine jm_acpl c1 hm rfl rfl sh_139 sh_7 ⟨by omega, by omega, by omega⟩ e2 ?_
 refine jx_load c1 hm rfl rfl rfl rfl ?_
 refine jx_getr c1 hm rfl sh_137 rfl ?_
 refine jx_load c1 hm rfl rfl rfl rfl ?_
 refine jx_getr c1 hm rfl sh_5 rfl ?_
 refine jt_v c3 hm rfl rfl pj_X11_copyRow rfl rfl rfl ((ct_X11_copyRow_140_8 X (by omega) M2 hH2 ).le (by decide)) (fun M3 ⟨hH3, hR3⟩ => ?_)
 have hF3 := hF2.tr hR3 (by decide +kernel)
 refine jx_load c1 hm rfl rfl rfl rfl ?_
 refine jx_getr c1 hm rfl sh_137 rfl ?_
 refine jx_load c1 hm rfl rfl rfl rfl ?_
 refine jx_getr c1 hm rfl sh_5 rfl ?_
 refine jt_v c3 hm rfl rfl pj_X11_copyRow rfl rfl rfl ((ct_X11_copyRow_142_10 X (by omega) M3 hH3 ).le (by decide)) (fun M4 ⟨hH4, hR4⟩ => ?_)
 have hF4 := hF3.tr hR4 (by decide +kernel)
 refine jx_load c1 hm rfl rfl rfl rfl ?_
 refine jx_getr c1 hm rfl sh_137 rfl ?_
 refine jx_load c1 hm rfl rfl rfl rfl ?_
 refine jx_getr c1 hm rfl sh_5 rfl ?_
 refine jt_v c3 hm rfl rfl pj_X11_copyRow rfl rfl rfl ((ct_X11_copyRow_143_11 X (by omega) M4 hH4 ).le (by decide)) (fun M5 ⟨hH5, hR5⟩ => ?_)
 have hF5 := hF4.tr hR5 (by decide +kernel)
 refine jx_load c1 hm rfl rfl rfl rfl ?_
 refine jx_load c1 hm rfl rfl rfl rfl ?_
 obtain ⟨z6, k7, lz6, uz6⟩ := hH5.ld (c := 137) (i := 6) (A := 0) (B := 9) (bs_20_1 _ _ (by omega) (by omega))
 refine jx_geti c1 hm rfl sh_137 rfl k7 ?_
 obtain ⟨M8, e8, hH8, hF8, k8, n8, _⟩ := mup hH5 hF5 (c := 5) (i := 6) (v := z6) (A := 0) (B := 9) (bs_20_1 _ _ (by omega) (by omega)) ⟨by omega, by omega⟩ (jin_of 0 rfl ⟨by omega, by omega⟩)
 refine jm_puti c1 hm rfl sh_5 rfl e8 ?_
 refine jx_load c1 hm rfl rfl rfl rfl ?_
 refine jx_load c1 hm rfl rfl rfl rfl ?_
 obtain ⟨z9, k10, lz9, uz9⟩ := hH8.ld (c := 137) (i := 7) (A := 0) (B := 9) (bs_20_1 _ _ (by omega) (by omega))
 refine jx_geti c1 hm rfl sh_137 rfl k10 ?_
 obtain ⟨M11, e11, hH11, hF11, k11, n11, _⟩ := mup hH8 hF8 (c := 5) (i := 7) (v := z9) (A := 0) (B := 9) (bs_20_1 _ _ (by omega) (by omega)) ⟨by omega, by omega⟩ (jin_of 1 rfl ⟨by omega, by omega⟩)
 refine jm_puti c1 hm rfl sh_5 rfl e11 ?_
 refine jx_load c1 hm rfl rfl rfl rfl ?_
 refine jx_getr c1 hm rfl sh_5 rfl ?_
 refine jx_load c1 hm rfl rfl rfl rfl ?_
 refine jx_getr c1 hm rfl sh_137 rfl ?_
 refine jv_v c3 hm rfl pj_X8_takeAll rfl rfl ⟨_, _, _, rfl, sh_12⟩ rfl ((ct_X8_takeAll_12_144 X (by omega) M11 hH11 ).le (by decide)) (fun M12 ⟨hH12, hR12⟩ => ?_)
 have hF12 := hF11.tr hR12 (by decide +kernel)
 refine jx_load c1 hm rfl rfl rfl rfl ?_
 refine jx_getr c1 hm rfl sh_5 rfl ?_
 refine jx_load c1 hm rfl rfl rfl rfl ?_
 refine jx_getr c1 hm rfl sh_137 rfl ?_
 refine jv_v c3 hm rfl pj_X7_takeAll rfl rfl ⟨_, _, _, rfl, sh_20⟩ rfl ((ct_X7_takeAll_20_152 X (by omega) M12 hH12 ).le (by decide)) (fun M13 ⟨hH13, hR13⟩ => ?_)
 have hF13 := hF12.tr hR13 (by decide +kernel)
 exact jx_retv c2 hm rfl rfl ⟨rfl, hH13, hF13⟩
def md_X11_copyRow_156_6 : List (Nat × (Nat × Nat)) := [(6, (0, 2))]
theorem ct_X11_copyRow_156_6 (X : Int) (hX : 0 ≤ X ∧ X ≤ 100000000) (M0 : JM) (hH0 : HI X M0)  : JOk shp PJ 1 29 [.inr (.inr (.inl 156)), .inr (.inr (.inl 6))] M0 (jRv (fun M' => HI X M' ∧ Fr md_X11_copyRow_156_6 M0 M' )) := by
 refine ⟨jr_X11_copyRow, pj_X11_copyRow, fun F c1 c2 c3 => ?_⟩
 have hm := pj_X11_copyRow
 change F 0 [some (.inr (.inr (.inl 156))), some (.inr (.inr (.inl 6)))] [] M0
 have hF0 : Fr md_X11_copyRow_156_6 M0 M0 := Fr.rf _ _
 refine jx_load c1 hm rfl rfl rfl rfl ?_
 refine jy_ic c1 hm rfl (by decide) ?_
 refine jx_load c1 hm rfl rfl rfl rfl ?_
 refine jy_ic c1 hm rfl (by decide) ?_
 refine jx_load c1 hm rfl rfl rfl rfl ?_
 refine jx_alen c1 hm (v := 3) rfl sh_156 rfl rfl ?_
 refine jx_load c1 hm rfl rfl rfl rfl ?_
 refine jx_alen c1 hm (v := 3) rfl sh_6 rfl rfl ?_
 refine jx_min c1 hm rfl rfl (fun z1 lz1 uz1 ez1 => ?_)
 obtain ⟨M2, e2, hH2, hF2, n2, _⟩ := mcp hH0 hF0 (c1 := 156) (c2 := 6) (n := z1) (fun _ _ => rfl) (fun j hj => jin_of 0 rfl ⟨by omega, by omega⟩)
 refine jm_acpi c1 hm rfl rfl sh_156 sh_6 ⟨by omega, by omega, by omega⟩ e2 ?_
 exact jx_retv c2 hm rfl rfl ⟨rfl, hH2, hF2⟩
def md_X11_copyRow_158_8 : List (Nat × (Nat × Nat)) := [(8, (0, 5))]
theorem ct_X11_copyRow_158_8 (X : Int) (hX : 0 ≤ X ∧ X ≤ 100000000) (M0 : JM) (hH0 : HI X M0)  : JOk shp PJ 1 29 [.inr (.inr (.inl 158)), .inr (.inr (.inl 8))] M0 (jRv (fun M' => HI X M' ∧ Fr md_X11_copyRow_158_8 M0 M' )) := by
 refine ⟨jr_X11_copyRow, pj_X11_copyRow, fun F c1 c2 c3 => ?_⟩
 have hm := pj_X11_copyRow
 change F 0 [some (.inr (.inr (.inl 158))), some (.inr (.inr (.inl 8)))] [] M0
 have hF0 : Fr md_X11_copyRow_158_8 M0 M0 := Fr.rf _ _
 refine jx_load c1 hm rfl rfl rfl rfl ?_
 refine jy_ic c1 hm rfl (by decide) ?_
 refine jx_load c1 hm rfl rfl rfl rfl ?_
 refine jy_ic c1 hm rfl (by decide) ?_
 refine jx_load c1 hm rfl rfl rfl rfl ?_
 refine jx_alen c1 hm (v := 6) rfl sh_158 rfl rfl ?_
 refine jx_load c1 hm rfl rfl rfl rfl ?_
 refine jx_alen c1 hm (v := 6) rfl sh_8 rfl rfl ?_
 refine jx_min c1 hm rfl rfl (fun z1 lz1 uz1 ez1 => ?_)
 obtain ⟨M2, e2, hH2, hF2, n2, _⟩ := mcp hH0 hF0 (c1 := 158) (c2 := 8) (n := z1) (fun _ _ => rfl) (fun j hj => jin_of 0 rfl ⟨by omega, by omega⟩)
 refine jm_acpi c1 hm rfl rfl sh_158 sh_8 ⟨by omega, by omega, by omega⟩ e2 ?_
 exact jx_retv c2 hm rfl rfl ⟨rfl, hH2, hF2⟩
def md_X11_copyRow_160_10 : List (Nat × (Nat × Nat)) := [(10, (0, 35))]
theorem ct_X11_copyRow_160_10 (X : Int) (hX : 0 ≤ X ∧ X ≤ 100000000) (M0 : JM) (hH0 : HI X M0)  : JOk shp PJ 1 29 [.inr (.inr (.inl 160)), .inr (.inr (.inl 10))] M0 (jRv (fun M' => HI X M' ∧ Fr md_X11_copyRow_160_10 M0 M' )) := by
 refine ⟨jr_X11_copyRow, pj_X11_copyRow, fun F c1 c2 c3 => ?_⟩
 have hm := pj_X11_copyRow
 change F 0 [some (.inr (.inr (.inl 160))), some (.inr (.inr (.inl 10)))] [] M0
 have hF0 : Fr md_X11_copyRow_160_10 M0 M0 := Fr.rf _ _
 refine jx_load c1 hm rfl rfl rfl rfl ?_
 refine jy_ic c1 hm rfl (by decide) ?_
 refine jx_load c1 hm rfl rfl rfl rfl ?_
 refine jy_ic c1 hm rfl (by decide) ?_
 refine jx_load c1 hm rfl rfl rfl rfl ?_
 refine jx_alen c1 hm (v := 36) rfl sh_160 rfl rfl ?_
 refine jx_load c1 hm rfl rfl rfl rfl ?_
 refine jx_alen c1 hm (v := 36) rfl sh_10 rfl rfl ?_
 refine jx_min c1 hm rfl rfl (fun z1 lz1 uz1 ez1 => ?_)
 obtain ⟨M2, e2, hH2, hF2, n2, _⟩ := mcp hH0 hF0 (c1 := 160) (c2 := 10) (n := z1) (fun _ _ => rfl) (fun j hj => jin_of 0 rfl ⟨by omega, by omega⟩)
 refine jm_acpi c1 hm rfl rfl sh_160 sh_10 ⟨by omega, by omega, by omega⟩ e2 ?_
 exact jx_retv c2 hm rfl rfl ⟨rfl, hH2, hF2⟩
def md_X11_copyRow_161_11 : List (Nat × (Nat × Nat)) := [(11, (0, 5))]
theorem ct_X11_copyRow_161_11 (X : Int) (hX : 0 ≤ X ∧ X ≤ 100000000) (M0 : JM) (hH0 : HI X M0)  : JOk shp PJ 1 29 [.inr (.inr (.inl 161)), .inr (.inr (.inl 11))] M0 (jRv (fun M' => HI X M' ∧ Fr md_X11_copyRow_161_11 M0 M' )) := by
 refine ⟨jr_X11_copyRow, pj_X11_copyRow, fun F c1 c2 c3 => ?_⟩
 have hm := pj_X11_copyRow
 change F 0 [some (.inr (.inr (.inl 161))), some (.inr (.inr (.inl 11)))] [] M0
 have hF0 : Fr md_X11_copyRow_161_11 M0 M0 := Fr.rf _ _
 refine jx_load c1 hm rfl rfl rfl rfl ?_
 refine jy_ic c1 hm rfl (by decide) ?_
 refine jx_load c1 hm rfl rfl rfl rfl ?_
 refine jy_ic c1 hm rfl (by decide) ?_
 refine jx_load c1 hm rfl rfl rfl rfl ?_
 refine jx_alen c1 hm (v := 6) rfl sh_161 rfl rfl ?_
 refine jx_load c1 hm rfl rfl rfl rfl ?_
 refine jx_alen c1 hm (v := 6) rfl sh_11 rfl rfl ?_
 refine jx_min c1 hm rfl rfl (fun z1 lz1 uz1 ez1 => ?_)
 obtain ⟨M2, e2, hH2, hF2, n2, _⟩ := mcp hH0 hF0 (c1 := 161) (c2 := 11) (n := z1) (fun _ _ => rfl) (fun j hj => jin_of 0 rfl ⟨by omega, by omega⟩)
 refine jm_acpi c1 hm rfl rfl sh_161 sh_11 ⟨by omega, by omega, by omega⟩ e2 ?_
 exact jx_retv c2 hm rfl rfl ⟨rfl, hH2, hF2⟩
def md_X11_copyRow_163_13 : List (Nat × (Nat × Nat)) := [(13, (0, 5))]
theorem ct_X11_copyRow_163_13 (X : Int) (hX : 0 ≤ X ∧ X ≤ 100000000) (M0 : JM) (hH0 : HI X M0)  : JOk shp PJ 1 29 [.inr (.inr (.inl 163)), .inr (.inr (.inl 13))] M0 (jRv (fun M' => HI X M' ∧ Fr md_X11_copyRow_163_13 M0 M' )) := by
 refine ⟨jr_X11_copyRow, pj_X11_copyRow, fun F c1 c2 c3 => ?_⟩
 have hm := pj_X11_copyRow
 change F 0 [some (.inr (.inr (.inl 163))), some (.inr (.inr (.inl 13)))] [] M0
 have hF0 : Fr md_X11_copyRow_163_13 M0 M0 := Fr.rf _ _
 refine jx_load c1 hm rfl rfl rfl rfl ?_
 refine jy_ic c1 hm rfl (by decide) ?_
 refine jx_load c1 hm rfl rfl rfl rfl ?_
 refine jy_ic c1 hm rfl (by decide) ?_
 refine jx_load c1 hm rfl rfl rfl rfl ?_
 refine jx_alen c1 hm (v := 6) rfl sh_163 rfl rfl ?_
 refine jx_load c1 hm rfl rfl rfl rfl ?_
 refine jx_alen c1 hm (v := 6) rfl sh_13 rfl rfl ?_
 refine jx_min c1 hm rfl rfl (fun z1 lz1 uz1 ez1 => ?_)
 obtain ⟨M2, e2, hH2, hF2, n2, _⟩ := mcp hH0 hF0 (c1 := 163) (c2 := 13) (n := z1) (fun _ _ => rfl) (fun j hj => jin_of 0 rfl ⟨by omega, by omega⟩)
 refine jm_acpi c1 hm rfl rfl sh_163 sh_13 ⟨by omega, by omega, by omega⟩ e2 ?_
 exact jx_retv c2 hm rfl rfl ⟨rfl, hH2, hF2⟩
def md_X11_copyRow_164_14 : List (Nat × (Nat × Nat)) := [(14, (0, 5))]
theorem ct_X11_copyRow_164_14 (X : Int) (hX : 0 ≤ X ∧ X ≤ 100000000) (M0 : JM) (hH0 : HI X M0)  : JOk shp PJ 1 29 [.inr (.inr (.inl 164)), .inr (.inr (.inl 14))] M0 (jRv (fun M' => HI X M' ∧ Fr md_X11_copyRow_164_14 M0 M' )) := by
 refine ⟨jr_X11_copyRow, pj_X11_copyRow, fun F c1 c2 c3 => ?_⟩
 have hm := pj_X11_copyRow
 change F 0 [some (.inr (.inr (.inl 164))), some (.inr (.inr (.inl 14)))] [] M0
 have hF0 : Fr md_X11_copyRow_164_14 M0 M0 := Fr.rf _ _
 refine jx_load c1 hm rfl rfl rfl rfl ?_
 refine jy_ic c1 hm rfl (by decide) ?_
 refine jx_load c1 hm rfl rfl rfl rfl ?_
 refine jy_ic c1 hm rfl (by decide) ?_
 refine jx_load c1 hm rfl rfl rfl rfl ?_
 refine jx_alen c1 hm (v := 6) rfl sh_164 rfl rfl ?_
 refine jx_load c1 hm rfl rfl rfl rfl ?_
 refine jx_alen c1 hm (v := 6) rfl sh_14 rfl rfl ?_
 refine jx_min c1 hm rfl rfl (fun z1 lz1 uz1 ez1 => ?_)
 obtain ⟨M2, e2, hH2, hF2, n2, _⟩ := mcp hH0 hF0 (c1 := 164) (c2 := 14) (n := z1) (fun _ _ => rfl) (fun j hj => jin_of 0 rfl ⟨by omega, by omega⟩)
 refine jm_acpi c1 hm rfl rfl sh_164 sh_14 ⟨by omega, by omega, by omega⟩ e2 ?_
 exact jx_retv c2 hm rfl rfl ⟨rfl, hH2, hF2⟩
def md_X11_copyRow_165_15 : List (Nat × (Nat × Nat)) := [(15, (0, 5))]
theorem ct_X11_copyRow_165_15 (X : Int) (hX : 0 ≤ X ∧ X ≤ 100000000) (M0 : JM) (hH0 : HI X M0)  : JOk shp PJ 1 29 [.inr (.inr (.inl 165)), .inr (.inr (.inl 15))] M0 (jRv (fun M' => HI X M' ∧ Fr md_X11_copyRow_165_15 M0 M' )) := by
 refine ⟨jr_X11_copyRow, pj_X11_copyRow, fun F c1 c2 c3 => ?_⟩
 have hm := pj_X11_copyRow
 change F 0 [some (.inr (.inr (.inl 165))), some (.inr (.inr (.inl 15)))] [] M0
 have hF0 : Fr md_X11_copyRow_165_15 M0 M0 := Fr.rf _ _
 refine jx_load c1 hm rfl rfl rfl rfl ?_
 refine jy_ic c1 hm rfl (by decide) ?_
 refine jx_load c1 hm rfl rfl rfl rfl ?_
 refine jy_ic c1 hm rfl (by decide) ?_
 refine jx_load c1 hm rfl rfl rfl rfl ?_
 refine jx_alen c1 hm (v := 6) rfl sh_165 rfl rfl ?_
 refine jx_load c1 hm rfl rfl rfl rfl ?_
 refine jx_alen c1 hm (v := 6) rfl sh_15 rfl rfl ?_
 refine jx_min c1 hm rfl rfl (fun z1 lz1 uz1 ez1 => ?_)
 obtain ⟨M2, e2, hH2, hF2, n2, _⟩ := mcp hH0 hF0 (c1 := 165) (c2 := 15) (n := z1) (fun _ _ => rfl) (fun j hj => jin_of 0 rfl ⟨by omega, by omega⟩)
 refine jm_acpi c1 hm rfl rfl sh_165 sh_15 ⟨by omega, by omega, by omega⟩ e2 ?_
 exact jx_retv c2 hm rfl rfl ⟨rfl, hH2, hF2⟩
def md_X11_copyRow_166_16 : List (Nat × (Nat × Nat)) := [(16, (0, 5))]
theorem ct_X11_copyRow_166_16 (X : Int) (hX : 0 ≤ X ∧ X ≤ 100000000) (M0 : JM) (hH0 : HI X M0)  : JOk shp PJ 1 29 [.inr (.inr (.inl 166)), .inr (.inr (.inl 16))] M0 (jRv (fun M' => HI X M' ∧ Fr md_X11_copyRow_166_16 M0 M' )) := by
 refine ⟨jr_X11_copyRow, pj_X11_copyRow, fun F c1 c2 c3 => ?_⟩
 have hm := pj_X11_copyRow
 change F 0 [some (.inr (.inr (.inl 166))), some (.inr (.inr (.inl 16)))] [] M0
 have hF0 : Fr md_X11_copyRow_166_16 M0 M0 := Fr.rf _ _
 refine jx_load c1 hm rfl rfl rfl rfl ?_
 refine jy_ic c1 hm rfl (by decide) ?_
 refine jx_load c1 hm rfl rfl rfl rfl ?_
 refine jy_ic c1 hm rfl (by decide) ?_
 refine jx_load c1 hm rfl rfl rfl rfl ?_
 refine jx_alen c1 hm (v := 6) rfl sh_166 rfl rfl ?_
 refine jx_load c1 hm rfl rfl rfl rfl ?_
 refine jx_alen c1 hm (v := 6) rfl sh_16 rfl rfl ?_
 refine jx_min c1 hm rfl rfl (fun z1 lz1 uz1 ez1 => ?_)
 obtain ⟨M2, e2, hH2, hF2, n2, _⟩ := mcp hH0 hF0 (c1 := 166) (c2 := 16) (n := z1) (fun _ _ => rfl) (fun j hj => jin_of 0 rfl ⟨by omega, by omega⟩)
 refine jm_acpi c1 hm rfl rfl sh_166 sh_16 ⟨by omega, by omega, by omega⟩ e2 ?_
 exact jx_retv c2 hm rfl rfl ⟨rfl, hH2, hF2⟩
def md_X11_copyRow_167_17 : List (Nat × (Nat × Nat)) := [(17, (0, 35))]
theorem ct_X11_copyRow_167_17 (X : Int) (hX : 0 ≤ X ∧ X ≤ 100000000) (M0 : JM) (hH0 : HI X M0)  : JOk shp PJ 1 29 [.inr (.inr (.inl 167)), .inr (.inr (.inl 17))] M0 (jRv (fun M' => HI X M' ∧ Fr md_X11_copyRow_167_17 M0 M' )) := by
 refine ⟨jr_X11_copyRow, pj_X11_copyRow, fun F c1 c2 c3 => ?_⟩
 have hm := pj_X11_copyRow
 change F 0 [some (.inr (.inr (.inl 167))), some (.inr (.inr (.inl 17)))] [] M0
 have hF0 : Fr md_X11_copyRow_167_17 M0 M0 := Fr.rf _ _
 refine jx_load c1 hm rfl rfl rfl rfl ?_
 refine jy_ic c1 hm rfl (by decide) ?_
 refine jx_load c1 hm rfl rfl rfl rfl ?_
 refine jy_ic c1 hm rfl (by decide) ?_
 refine jx_load c1 hm rfl rfl rfl rfl ?_
 refine jx_alen c1 hm (v := 36) rfl sh_167 rfl rfl ?_
 refine jx_load c1 hm rfl rfl rfl rfl ?_
 refine jx_alen c1 hm (v := 36) rfl sh_17 rfl rfl ?_
 refine jx_min c1 hm rfl rfl (fun z1 lz1 uz1 ez1 => ?_)
 obtain ⟨M2, e2, hH2, hF2, n2, _⟩ := mcp hH0 hF0 (c1 := 167) (c2 := 17) (n := z1) (fun _ _ => rfl) (fun j hj => jin_of 0 rfl ⟨by omega, by omega⟩)
 refine jm_acpi c1 hm rfl rfl sh_167 sh_17 ⟨by omega, by omega, by omega⟩ e2 ?_
 exact jx_retv c2 hm rfl rfl ⟨rfl, hH2, hF2⟩
def md_X11_copyRow_168_18 : List (Nat × (Nat × Nat)) := [(18, (0, 35))]
theorem ct_X11_copyRow_168_18 (X : Int) (hX : 0 ≤ X ∧ X ≤ 100000000) (M0 : JM) (hH0 : HI X M0)  : JOk shp PJ 1 29 [.inr (.inr (.inl 168)), .inr (.inr (.inl 18))] M0 (jRv (fun M' => HI X M' ∧ Fr md_X11_copyRow_168_18 M0 M' )) := by
 refine ⟨jr_X11_copyRow, pj_X11_copyRow, fun F c1 c2 c3 => ?_⟩
 have hm := pj_X11_copyRow
 change F 0 [some (.inr (.inr (.inl 168))), some (.inr (.inr (.inl 18)))] [] M0
 have hF0 : Fr md_X11_copyRow_168_18 M0 M0 := Fr.rf _ _
 refine jx_load c1 hm rfl rfl rfl rfl ?_
 refine jy_ic c1 hm rfl (by decide) ?_
 refine jx_load c1 hm rfl rfl rfl rfl ?_
 refine jy_ic c1 hm rfl (by decide) ?_
 refine jx_load c1 hm rfl rfl rfl rfl ?_
 refine jx_alen c1 hm (v := 36) rfl sh_168 rfl rfl ?_
 refine jx_load c1 hm rfl rfl rfl rfl ?_
 refine jx_alen c1 hm (v := 36) rfl sh_18 rfl rfl ?_
 refine jx_min c1 hm rfl rfl (fun z1 lz1 uz1 ez1 => ?_)
 obtain ⟨M2, e2, hH2, hF2, n2, _⟩ := mcp hH0 hF0 (c1 := 168) (c2 := 18) (n := z1) (fun _ _ => rfl) (fun j hj => jin_of 0 rfl ⟨by omega, by omega⟩)
 refine jm_acpi c1 hm rfl rfl sh_168 sh_18 ⟨by omega, by omega, by omega⟩ e2 ?_
 exact jx_retv c2 hm rfl rfl ⟨rfl, hH2, hF2⟩
def md_X11_copyRow_169_19 : List (Nat × (Nat × Nat)) := [(19, (0, 35))]
theorem ct_X11_copyRow_169_19 (X : Int) (hX : 0 ≤ X ∧ X ≤ 100000000) (M0 : JM) (hH0 : HI X M0)  : JOk shp PJ 1 29 [.inr (.inr (.inl 169)), .inr (.inr (.inl 19))] M0 (jRv (fun M' => HI X M' ∧ Fr md_X11_copyRow_169_19 M0 M' )) := by
 refine ⟨jr_X11_copyRow, pj_X11_copyRow, fun F c1 c2 c3 => ?_⟩
 have hm := pj_X11_copyRow
 change F 0 [some (.inr (.inr (.inl 169))), some (.inr (.inr (.inl 19)))] [] M0
 have hF0 : Fr md_X11_copyRow_169_19 M0 M0 := Fr.rf _ _
 refine jx_load c1 hm rfl rfl rfl rfl ?_
 refine jy_ic c1 hm rfl (by decide) ?_
 refine jx_load c1 hm rfl rfl rfl rfl ?_
 refine jy_ic c1 hm rfl (by decide) ?_
 refine jx_load c1 hm rfl rfl rfl rfl ?_
 refine jx_alen c1 hm (v := 36) rfl sh_169 rfl rfl ?_
 refine jx_load c1 hm rfl rfl rfl rfl ?_
 refine jx_alen c1 hm (v := 36) rfl sh_19 rfl rfl ?_
 refine jx_min c1 hm rfl rfl (fun z1 lz1 uz1 ez1 => ?_)
 obtain ⟨M2, e2, hH2, hF2, n2, _⟩ := mcp hH0 hF0 (c1 := 169) (c2 := 19) (n := z1) (fun _ _ => rfl) (fun j hj => jin_of 0 rfl ⟨by omega, by omega⟩)
 refine jm_acpi c1 hm rfl rfl sh_169 sh_19 ⟨by omega, by omega, by omega⟩ e2 ?_
 exact jx_retv c2 hm rfl rfl ⟨rfl, hH2, hF2⟩
def md_X8_takeAll_12_162 : List (Nat × (Nat × Nat)) := [(12, (7, 7)), (13, (0, 5)), (14, (0, 5)), (15, (0, 5)), (16, (0, 5)), (17, (0, 35)), (18, (0, 35)), (19, (0, 35))]
theorem ct_X8_takeAll_12_162 (X : Int) (hX : 0 ≤ X ∧ X ≤ 100000000) (M0 : JM) (hH0 : HI X M0)  : JOk shp PJ 2 264 [.inr (.inr (.inl 12)), .inr (.inr (.inl 162))] M0 (jRv (fun M' => HI X M' ∧ Fr md_X8_takeAll_12_162 M0 M' )) := by
 refine ⟨jr_X8_takeAll, pj_X8_takeAll, fun F c1 c2 c3 => ?_⟩
 have hm := pj_X8_takeAll
 change F 0 [some (.inr (.inr (.inl 12))), some (.inr (.inr (.inl 162)))] [] M0
 have hF0 : Fr md_X8_takeAll_12_162 M0 M0 := Fr.rf _ _
 refine jx_load c1 hm rfl rfl rfl rfl ?_
 refine jx_getr c1 hm rfl sh_162 rfl ?_
 refine jx_load c1 hm rfl rfl rfl rfl ?_
 refine jx_getr c1 hm rfl sh_12 rfl ?_
 refine jt_v c3 hm rfl rfl pj_X11_copyRow rfl rfl rfl ((ct_X11_copyRow_163_13 X (by omega) M0 hH0 ).le (by decide)) (fun M1 ⟨hH1, hR1⟩ => ?_)
 have hF1 := hF0.tr hR1 (by decide +kernel)
 refine jx_load c1 hm rfl rfl rfl rfl ?_
 refine jx_getr c1 hm rfl sh_162 rfl ?_
 refine jx_load c1 hm rfl rfl rfl rfl ?_
 refine jx_getr c1 hm rfl sh_12 rfl ?_
 refine jt_v c3 hm rfl rfl pj_X11_copyRow rfl rfl rfl ((ct_X11_copyRow_164_14 X (by omega) M1 hH1 ).le (by decide)) (fun M2 ⟨hH2, hR2⟩ => ?_)
 have hF2 := hF1.tr hR2 (by decide +kernel)
 refine jx_load c1 hm rfl rfl rfl rfl ?_
 refine jx_getr c1 hm rfl sh_162 rfl ?_
 refine jx_load c1 hm rfl rfl rfl rfl ?_
 refine jx_getr c1 hm rfl sh_12 rfl ?_
 refine jt_v c3 hm rfl rfl pj_X11_copyRow rfl rfl rfl ((ct_X11_copyRow_165_15 X (by omega) M2 hH2 ).le (by decide)) (fun M3 ⟨hH3, hR3⟩ => ?_)
 have hF3 := hF2.tr hR3 (by decide +kernel)
 refine jx_load c1 hm rfl rfl rfl rfl ?_
 refine jx_getr c1 hm rfl sh_162 rfl ?_
 refine jx_load c1 hm rfl rfl rfl rfl ?_
 refine jx_getr c1 hm rfl sh_12 rfl ?_
 refine jt_v c3 hm rfl rfl pj_X11_copyRow rfl rfl rfl ((ct_X11_copyRow_166_16 X (by omega) M3 hH3 ).le (by decide)) (fun M4 ⟨hH4, hR4⟩ => ?_)
 have hF4 := hF3.tr hR4 (by decide +kernel)
 refine jx_load c1 hm rfl rfl rfl rfl ?_
 refine jx_getr c1 hm rfl sh_162 rfl ?_
 refine jx_load c1 hm rfl rfl rfl rfl ?_
 refine jx_getr c1 hm rfl sh_12 rfl ?_
 refine jt_v c3 hm rfl rfl pj_X11_copyRow rfl rfl rfl ((ct_X11_copyRow_167_17 X (by omega) M4 hH4 ).le (by decide)) (fun M5 ⟨hH5, hR5⟩ => ?_)
 have hF5 := hF4.tr hR5 (by decide +kernel)
 refine jx_load c1 hm rfl rfl rfl rfl ?_
 refine jx_getr c1 hm rfl sh_162 rfl ?_
 refine jx_load c1 hm rfl rfl rfl rfl ?_
 refine jx_getr c1 hm rfl sh_12 rfl ?_
 refine jt_v c3 hm rfl rfl pj_X11_copyRow rfl rfl rfl ((ct_X11_copyRow_168_18 X (by omega) M5 hH5 ).le (by decide)) (fun M6 ⟨hH6, hR6⟩ => ?_)
 have hF6 := hF5.tr hR6 (by decide +kernel)
 refine jx_load c1 hm rfl rfl rfl rfl ?_
 refine jx_getr c1 hm rfl sh_162 rfl ?_
 refine jx_load c1 hm rfl rfl rfl rfl ?_
 refine jx_getr c1 hm rfl sh_12 rfl ?_
 refine jt_v c3 hm rfl rfl pj_X11_copyRow rfl rfl rfl ((ct_X11_copyRow_169_19 X (by omega) M6 hH6 ).le (by decide)) (fun M7 ⟨hH7, hR7⟩ => ?_)
 have hF7 := hF6.tr hR7 (by decide +kernel)
 refine jx_load c1 hm rfl rfl rfl rfl ?_
 refine jx_load c1 hm rfl rfl rfl rfl ?_
 obtain ⟨z8, k9, lz8, uz8⟩ := hH7.ld (c := 162) (i := 7) (A := (-2147483648)) (B := 2147483647) rfl
 refine jx_geti c1 hm rfl sh_162 rfl k9 ?_
 obtain ⟨M10, e10, hH10, hF10, k10, n10, _⟩ := mup hH7 hF7 (c := 12) (i := 7) (v := z8) (A := (-2147483648)) (B := 2147483647) rfl ⟨by omega, by omega⟩ (jin_of 0 rfl ⟨by omega, by omega⟩)
 refine jm_puti c1 hm rfl sh_12 rfl e10 ?_
 exact jx_retv c2 hm rfl rfl ⟨rfl, hH10, hF10⟩
def md_X11_copyRow_171_21 : List (Nat × (Nat × Nat)) := [(21, (0, 39))]
theorem ct_X11_copyRow_171_21 (X : Int) (hX : 0 ≤ X ∧ X ≤ 100000000) (M0 : JM) (hH0 : HI X M0)  : JOk shp PJ 1 29 [.inr (.inr (.inl 171)), .inr (.inr (.inl 21))] M0 (jRv (fun M' => HI X M' ∧ Fr md_X11_copyRow_171_21 M0 M' )) := by
 refine ⟨jr_X11_copyRow, pj_X11_copyRow, fun F c1 c2 c3 => ?_⟩
 have hm := pj_X11_copyRow
 change F 0 [some (.inr (.inr (.inl 171))), some (.inr (.inr (.inl 21)))] [] M0
 have hF0 : Fr md_X11_copyRow_171_21 M0 M0 := Fr.rf _ _
 refine jx_load c1 hm rfl rfl rfl rfl ?_
 refine jy_ic c1 hm rfl (by decide) ?_
 refine jx_load c1 hm rfl rfl rfl rfl ?_
 refine jy_ic c1 hm rfl (by decide) ?_
 refine jx_load c1 hm rfl rfl rfl rfl ?_
 refine jx_alen c1 hm (v := 40) rfl sh_171 rfl rfl ?_
 refine jx_load c1 hm rfl rfl rfl rfl ?_
 refine jx_alen c1 hm (v := 40) rfl sh_21 rfl rfl ?_
 refine jx_min c1 hm rfl rfl (fun z1 lz1 uz1 ez1 => ?_)
 obtain ⟨M2, e2, hH2, hF2, n2, _⟩ := mcp hH0 hF0 (c1 := 171) (c2 := 21) (n := z1) (fun _ _ => rfl) (fun j hj => jin_of 0 rfl ⟨by omega, by omega⟩)
 refine jm_acpi c1 hm rfl rfl sh_171 sh_21 ⟨by omega, by omega, by omega⟩ e2 ?_
 exact jx_retv c2 hm rfl rfl ⟨rfl, hH2, hF2⟩
def md_X7_takeAll_20_170 : List (Nat × (Nat × Nat)) := [(20, (2, 2)), (20, (3, 3)), (21, (0, 39))]
theorem ct_X7_takeAll_20_170 (X : Int) (hX : 0 ≤ X ∧ X ≤ 100000000) (M0 : JM) (hH0 : HI X M0)  : JOk shp PJ 2 260 [.inr (.inr (.inl 20)), .inr (.inr (.inl 170))] M0 (jRv (fun M' => HI X M' ∧ Fr md_X7_takeAll_20_170 M0 M' )) := by
 refine ⟨jr_X7_takeAll, pj_X7_takeAll, fun F c1 c2 c3 => ?_⟩
 have hm := pj_X7_takeAll
 change F 0 [some (.inr (.inr (.inl 20))), some (.inr (.inr (.inl 170)))] [] M0
 have hF0 : Fr md_X7_takeAll_20_170 M0 M0 := Fr.rf _ _
 refine jx_load c1 hm rfl rfl rfl rfl ?_
 refine jx_getr c1 hm rfl sh_170 rfl ?_
 refine jx_load c1 hm rfl rfl rfl rfl ?_
 refine jx_getr c1 hm rfl sh_20 rfl ?_
 refine jt_v c3 hm rfl rfl pj_X11_copyRow rfl rfl rfl ((ct_X11_copyRow_171_21 X (by omega) M0 hH0 ).le (by decide)) (fun M1 ⟨hH1, hR1⟩ => ?_)
 have hF1 := hF0.tr hR1 (by decide +kernel)
 refine jx_load c1 hm rfl rfl rfl rfl ?_
 refine jx_load c1 hm rfl rfl rfl rfl ?_
 obtain ⟨z2, k3, lz2, uz2⟩ := hH1.ld (c := 170) (i := 2) (A := 0) (B := 40) (bs_21_1 _ _ (by omega) (by omega))
 refine jx_geti c1 hm rfl sh_170 rfl k3 ?_
 obtain ⟨M4, e4, hH4, hF4, k4, n4, _⟩ := mup hH1 hF1 (c := 20) (i := 2) (v := z2) (A := 0) (B := 40) (bs_21_1 _ _ (by omega) (by omega)) ⟨by omega, by omega⟩ (jin_of 0 rfl ⟨by omega, by omega⟩)
 refine jm_puti c1 hm rfl sh_20 rfl e4 ?_
 refine jx_load c1 hm rfl rfl rfl rfl ?_
 refine jx_load c1 hm rfl rfl rfl rfl ?_
 obtain ⟨z5, k6, lz5, uz5⟩ := hH4.ld (c := 170) (i := 3) (A := 0) (B := 20) (bs_21_2 _ _ (by omega) (by omega))
 refine jx_geti c1 hm rfl sh_170 rfl k6 ?_
 obtain ⟨M7, e7, hH7, hF7, k7, n7, _⟩ := mup hH4 hF4 (c := 20) (i := 3) (v := z5) (A := 0) (B := 20) (bs_21_2 _ _ (by omega) (by omega)) ⟨by omega, by omega⟩ (jin_of 1 rfl ⟨by omega, by omega⟩)
 refine jm_puti c1 hm rfl sh_20 rfl e7 ?_
 exact jx_retv c2 hm rfl rfl ⟨rfl, hH7, hF7⟩
def md_X2_takeAll_5_155 : List (Nat × (Nat × Nat)) := [(5, (6, 6)), (5, (7, 7)), (6, (0, 2)), (7, (0, 17)), (8, (0, 5)), (10, (0, 35)), (11, (0, 5)), (12, (7, 7)), (13, (0, 5)), (14, (0, 5)), (15, (0, 5)), (16, (0, 5)), (17, (0, 35)), (18, (0, 35)), (19, (0, 35)), (20, (2, 2)), (20, (3, 3)), (21, (0, 39))]
theorem ct_X2_takeAll_5_155 (X : Int) (hX : 0 ≤ X ∧ X ≤ 100000000) (M0 : JM) (hH0 : HI X M0)  : JOk shp PJ 3 231 [.inr (.inr (.inl 5)), .inr (.inr (.inl 155))] M0 (jRv (fun M' => HI X M' ∧ Fr md_X2_takeAll_5_155 M0 M' )) := by
 refine ⟨jr_X2_takeAll, pj_X2_takeAll, fun F c1 c2 c3 => ?_⟩
 have hm := pj_X2_takeAll
 change F 0 [some (.inr (.inr (.inl 5))), some (.inr (.inr (.inl 155)))] [] M0
 have hF0 : Fr md_X2_takeAll_5_155 M0 M0 := Fr.rf _ _
 refine jx_load c1 hm rfl rfl rfl rfl ?_
 refine jx_getr c1 hm rfl sh_155 rfl ?_
 refine jx_load c1 hm rfl rfl rfl rfl ?_
 refine jx_getr c1 hm rfl sh_5 rfl ?_
 refine jt_v c3 hm rfl rfl pj_X11_copyRow rfl rfl rfl ((ct_X11_copyRow_156_6 X (by omega) M0 hH0 ).le (by decide)) (fun M1 ⟨hH1, hR1⟩ => ?_)
 have hF1 := hF0.tr hR1 (by decide +kernel)
 refine jx_load c1 hm rfl rfl rfl rfl ?_
 refine jx_getr c1 hm rfl sh_155 rfl ?_
 refine jy_ic c1 hm rfl (by decide) ?_
 refine jx_load c1 hm rfl rfl rfl rfl ?_
 refine jx_getr c1 hm rfl sh_5 rfl ?_
 refine jy_ic c1 hm rfl (by decide) ?_
 refine jy_bp c1 hm rfl (by decide) ?_
 obtain ⟨M2, e2, hH2, hF2, n2⟩ := mcl hH1 hF1 (c1 := 157) (c2 := 7) (n := 18) rfl
 refine jm_acpl c1 hm rfl rfl sh_157 sh_7 ⟨by omega, by omega, by omega⟩ e2 ?_
 refine jx_load c1 hm rfl rfl rfl rfl ?_
 refine jx_getr c1 hm rfl sh_155 rfl ?_
 refine jx_load c1 hm rfl rfl rfl rfl ?_
 refine jx_getr c1 hm rfl sh_5 rfl ?_
 refine jt_v c3 hm rfl rfl pj_X11_copyRow rfl rfl rfl ((ct_X11_copyRow_158_8 X (by omega) M2 hH2 ).le (by decide)) (fun M3 ⟨hH3, hR3⟩ => ?_)
 have hF3 := hF2.tr hR3 (by decide +kernel)
 refine jx_load c1 hm rfl rfl rfl rfl ?_
 refine jx_getr c1 hm rfl sh_155 rfl ?_
 refine jx_load c1 hm rfl rfl rfl rfl ?_
 refine jx_getr c1 hm rfl sh_5 rfl ?_
 refine jt_v c3 hm rfl rfl pj_X11_copyRow rfl rfl rfl ((ct_X11_copyRow_160_10 X (by omega) M3 hH3 ).le (by decide)) (fun M4 ⟨hH4, hR4⟩ => ?_)
 have hF4 := hF3.tr hR4 (by decide +kernel)
 refine jx_load c1 hm rfl rfl rfl rfl ?_
 refine jx_getr c1 hm rfl sh_155 rfl ?_
 refine jx_load c1 hm rfl rfl rfl rfl ?_
 refine jx_getr c1 hm rfl sh_5 rfl ?_
 refine jt_v c3 hm rfl rfl pj_X11_copyRow rfl rfl rfl ((ct_X11_copyRow_161_11 X (by omega) M4 hH4 ).le (by decide)) (fun M5 ⟨hH5, hR5⟩ => ?_)
 have hF5 := hF4.tr hR5 (by decide +kernel)
 refine jx_load c1 hm rfl rfl rfl rfl ?_
 refine jx_load c1 hm rfl rfl rfl rfl ?_
 obtain ⟨z6, k7, lz6, uz6⟩ := hH5.ld (c := 155) (i := 6) (A := 0) (B := 9) (bs_20_1 _ _ (by omega) (by omega))
 refine jx_geti c1 hm rfl sh_155 rfl k7 ?_
 obtain ⟨M8, e8, hH8, hF8, k8, n8, _⟩ := mup hH5 hF5 (c := 5) (i := 6) (v := z6) (A := 0) (B := 9) (bs_20_1 _ _ (by omega) (by omega)) ⟨by omega, by omega⟩ (jin_of 0 rfl ⟨by omega, by omega⟩)
 refine jm_puti c1 hm rfl sh_5 rfl e8 ?_
 refine jx_load c1 hm rfl rfl rfl rfl ?_
 refine jx_load c1 hm rfl rfl rfl rfl ?_
 obtain ⟨z9, k10, lz9, uz9⟩ := hH8.ld (c := 155) (i := 7) (A := 0) (B := 9) (bs_20_1 _ _ (by omega) (by omega))
 refine jx_geti c1 hm rfl sh_155 rfl k10 ?_
 obtain ⟨M11, e11, hH11, hF11, k11, n11, _⟩ := mup hH8 hF8 (c := 5) (i := 7) (v := z9) (A := 0) (B := 9) (bs_20_1 _ _ (by omega) (by omega)) ⟨by omega, by omega⟩ (jin_of 1 rfl ⟨by omega, by omega⟩)
 refine jm_puti c1 hm rfl sh_5 rfl e11 ?_
 refine jx_load c1 hm rfl rfl rfl rfl ?_
 refine jx_getr c1 hm rfl sh_5 rfl ?_
 refine jx_load c1 hm rfl rfl rfl rfl ?_
 refine jx_getr c1 hm rfl sh_155 rfl ?_
 refine jv_v c3 hm rfl pj_X8_takeAll rfl rfl ⟨_, _, _, rfl, sh_12⟩ rfl ((ct_X8_takeAll_12_162 X (by omega) M11 hH11 ).le (by decide)) (fun M12 ⟨hH12, hR12⟩ => ?_)
 have hF12 := hF11.tr hR12 (by decide +kernel)
 refine jx_load c1 hm rfl rfl rfl rfl ?_
 refine jx_getr c1 hm rfl sh_5 rfl ?_
 refine jx_load c1 hm rfl rfl rfl rfl ?_
 refine jx_getr c1 hm rfl sh_155 rfl ?_
 refine jv_v c3 hm rfl pj_X7_takeAll rfl rfl ⟨_, _, _, rfl, sh_20⟩ rfl ((ct_X7_takeAll_20_170 X (by omega) M12 hH12 ).le (by decide)) (fun M13 ⟨hH13, hR13⟩ => ?_)
 have hF13 := hF12.tr hR13 (by decide +kernel)
 exact jx_retv c2 hm rfl rfl ⟨rfl, hH13, hF13⟩
def md_X11_restore_0 : List (Nat × (Nat × Nat)) := [(5, (6, 6)), (5, (7, 7)), (6, (0, 2)), (7, (0, 17)), (8, (0, 5)), (10, (0, 35)), (11, (0, 5)), (12, (7, 7)), (13, (0, 5)), (14, (0, 5)), (15, (0, 5)), (16, (0, 5)), (17, (0, 35)), (18, (0, 35)), (19, (0, 35)), (20, (2, 2)), (20, (3, 3)), (21, (0, 39)), (55, (2, 2))]
theorem ct_X11_restore_0 (X : Int) (hX : 0 ≤ X ∧ X ≤ 100000000) (M0 : JM) (hH0 : HI X M0) (a0 : Int) (ha0 : (-2147483648) ≤ a0 ∧ a0 ≤ 2147483647) : JOk shp PJ 4 60 [.inr (.inr (.inl 0)), .inl a0] M0 (jRi (fun v M' => HI X M' ∧ Fr md_X11_restore_0 M0 M' ∧ 0 ≤ v ∧ v ≤ 1 )) := by
 refine ⟨jr_X11_restore, pj_X11_restore, fun F c1 c2 c3 => ?_⟩
 have hm := pj_X11_restore
 change F 0 [some (.inr (.inr (.inl 0))), some (.inl a0)] [] M0
 have hF0 : Fr md_X11_restore_0 M0 M0 := Fr.rf _ _
 refine jx_load c1 hm rfl rfl rfl rfl ?_
 refine jz_lt c1 hm 18 rfl rfl (fun h1 => ?_) (fun h1 => ?_)
 ·
  refine jy_ic c1 hm rfl (by decide) ?_
  exact jx_retz c2 hm rfl rfl ⟨by omega, by omega⟩ ⟨_, rfl, hH0, hF0, by omega, by omega⟩
 refine jx_load c1 hm rfl rfl rfl rfl ?_
 refine jy_ic c1 hm rfl (by decide) ?_
 refine jc_ge c1 hm 18 rfl rfl (fun h2 => ?_) (fun h2 => ?_)
 ·
  refine jy_ic c1 hm rfl (by decide) ?_
  exact jx_retz c2 hm rfl rfl ⟨by omega, by omega⟩ ⟨_, rfl, hH0, hF0, by omega, by omega⟩
 refine jx_load c1 hm rfl rfl rfl rfl ?_
 refine jx_getr c1 hm rfl sh_0 rfl ?_
 refine jx_load c1 hm rfl rfl rfl rfl ?_
 obtain ⟨z3, k4, lz3, uz3⟩ := hH0.ld (c := 46) (i := (a0).toNat) (A := 0) (B := 1) rfl
 refine jx_bald c1 hm rfl sh_46 rfl ⟨by omega, by omega⟩ k4 ?_
 refine jz_ne c1 hm 20 rfl rfl (fun h5 => ?_) (fun h5 => ?_)
 ·
  refine jx_load c1 hm rfl rfl rfl rfl ?_
  refine jx_getr c1 hm rfl sh_0 rfl ?_
  refine jx_load c1 hm rfl rfl rfl rfl ?_
  refine jx_getr c1 hm rfl sh_0 rfl ?_
  refine jx_load c1 hm rfl rfl rfl rfl ?_
  have h6 : a0 = 0 ∨ a0 = 1 := by omega
  rcases h6 with h6 | h6
  ·
   refine jx_aald c1 hm rfl sh_45 (by omega) (by rw [h6]; rfl) ?_
   refine jv_v c3 hm rfl pj_X2_takeAll rfl rfl ⟨_, _, _, rfl, sh_5⟩ rfl ((ct_X2_takeAll_5_137 X (by omega) M0 hH0 ).le (by decide)) (fun M7 ⟨hH7, hR7⟩ => ?_)
   have hF7 := hF0.tr hR7 (by decide +kernel)
   refine jx_load c1 hm rfl rfl rfl rfl ?_
   refine jx_getr c1 hm rfl sh_0 rfl ?_
   refine jv_v c3 hm rfl pj_X4_forget rfl rfl ⟨_, _, _, rfl, sh_55⟩ rfl ((ct_X4_forget_55 X (by omega) M7 hH7 ).le (by decide)) (fun M8 ⟨hH8, hR8⟩ => ?_)
   have hF8 := hF7.tr hR8 (by decide +kernel)
   refine jy_ic c1 hm rfl (by decide) ?_
   exact jx_retz c2 hm rfl rfl ⟨by omega, by omega⟩ ⟨_, rfl, hH8, hF8, by omega, by omega⟩
  ·
   refine jx_aald c1 hm rfl sh_45 (by omega) (by rw [h6]; rfl) ?_
   refine jv_v c3 hm rfl pj_X2_takeAll rfl rfl ⟨_, _, _, rfl, sh_5⟩ rfl ((ct_X2_takeAll_5_155 X (by omega) M0 hH0 ).le (by decide)) (fun M9 ⟨hH9, hR9⟩ => ?_)
   have hF9 := hF0.tr hR9 (by decide +kernel)
   refine jx_load c1 hm rfl rfl rfl rfl ?_
   refine jx_getr c1 hm rfl sh_0 rfl ?_
   refine jv_v c3 hm rfl pj_X4_forget rfl rfl ⟨_, _, _, rfl, sh_55⟩ rfl ((ct_X4_forget_55 X (by omega) M9 hH9 ).le (by decide)) (fun M10 ⟨hH10, hR10⟩ => ?_)
   have hF10 := hF9.tr hR10 (by decide +kernel)
   refine jy_ic c1 hm rfl (by decide) ?_
   exact jx_retz c2 hm rfl rfl ⟨by omega, by omega⟩ ⟨_, rfl, hH10, hF10, by omega, by omega⟩
 refine jy_ic c1 hm rfl (by decide) ?_
 exact jx_retz c2 hm rfl rfl ⟨by omega, by omega⟩ ⟨_, rfl, hH0, hF0, by omega, by omega⟩
theorem ct_X11_count_0 (X : Int) (hX : 0 ≤ X ∧ X ≤ 100000000) (M0 : JM) (hH0 : HI X M0) (a0 : Int) (ha0 : (-2147483648) ≤ a0 ∧ a0 ≤ 2147483647) : JOk shp PJ 2 31 [.inr (.inr (.inl 0)), .inl a0] M0 (jRi (fun v M' => M0 = M' ∧ (-1) ≤ v ∧ v ≤ 940 )) := by
 refine ⟨jr_X11_count, pj_X11_count, fun F c1 c2 c3 => ?_⟩
 have hm := pj_X11_count
 change F 0 [some (.inr (.inr (.inl 0))), some (.inl a0)] [] M0
 refine jx_load c1 hm rfl rfl rfl rfl ?_
 by_cases h1 : a0 = 0
 ·
  refine jx_tswI c1 hm 40 rfl ⟨by omega, by omega⟩ (by rw [h1] <;> rfl) rfl ?_
  refine jx_load c1 hm rfl rfl rfl rfl ?_
  refine jx_getr c1 hm rfl sh_0 rfl ?_
  refine jv_i c3 hm rfl pj_X2_men rfl rfl ⟨_, _, _, rfl, sh_5⟩ rfl ((ct_X2_men_5 X (by omega) M0 hH0 ).le (by decide)) (fun z2 _ ⟨rfl, lz2, uz2⟩ => ?_)
  exact jx_reti c2 hm rfl rfl ⟨_, rfl, rfl, by omega, by omega⟩
 by_cases h3 : a0 = 1
 ·
  refine jx_tswI c1 hm 48 rfl ⟨by omega, by omega⟩ (by rw [h3] <;> rfl) rfl ?_
  refine jx_load c1 hm rfl rfl rfl rfl ?_
  refine jx_getr c1 hm rfl sh_0 rfl ?_
  refine jv_i c3 hm rfl pj_X2_forfeits rfl rfl ⟨_, _, _, rfl, sh_5⟩ rfl ((ct_X2_forfeits_5 X (by omega) M0 hH0 ).le (by decide)) (fun z4 _ ⟨rfl, lz4, uz4⟩ => ?_)
  exact jx_reti c2 hm rfl rfl ⟨_, rfl, rfl, by omega, by omega⟩
 by_cases h5 : a0 = 2
 ·
  refine jx_tswI c1 hm 56 rfl ⟨by omega, by omega⟩ (by rw [h5] <;> rfl) rfl ?_
  refine jx_load c1 hm rfl rfl rfl rfl ?_
  refine jx_getr c1 hm rfl sh_0 rfl ?_
  refine jv_i c3 hm rfl pj_X2_goods rfl rfl ⟨_, _, _, rfl, sh_5⟩ rfl ((ct_X2_goods_5 X (by omega) M0 hH0 ).le (by decide)) (fun z6 _ ⟨rfl, lz6, uz6⟩ => ?_)
  exact jx_reti c2 hm rfl rfl ⟨_, rfl, rfl, by omega, by omega⟩
 by_cases h7 : a0 = 3
 ·
  refine jx_tswI c1 hm 64 rfl ⟨by omega, by omega⟩ (by rw [h7] <;> rfl) rfl ?_
  refine jx_load c1 hm rfl rfl rfl rfl ?_
  refine jx_getr c1 hm rfl sh_0 rfl ?_
  obtain ⟨z8, k9, lz8, uz8⟩ := hH0.ld (c := 5) (i := 6) (A := 0) (B := 9) (bs_20_1 _ _ (by omega) (by omega))
  refine jx_geti c1 hm rfl sh_5 rfl k9 ?_
  exact jx_reti c2 hm rfl rfl ⟨_, rfl, rfl, by omega, by omega⟩
 by_cases h10 : a0 = 4
 ·
  refine jx_tswI c1 hm 72 rfl ⟨by omega, by omega⟩ (by rw [h10] <;> rfl) rfl ?_
  refine jx_load c1 hm rfl rfl rfl rfl ?_
  refine jx_getr c1 hm rfl sh_0 rfl ?_
  obtain ⟨z11, k12, lz11, uz11⟩ := hH0.ld (c := 5) (i := 7) (A := 0) (B := 9) (bs_20_1 _ _ (by omega) (by omega))
  refine jx_geti c1 hm rfl sh_5 rfl k12 ?_
  exact jx_reti c2 hm rfl rfl ⟨_, rfl, rfl, by omega, by omega⟩
 by_cases h13 : a0 = 5
 ·
  refine jx_tswI c1 hm 80 rfl ⟨by omega, by omega⟩ (by rw [h13] <;> rfl) rfl ?_
  refine jx_load c1 hm rfl rfl rfl rfl ?_
  obtain ⟨z14, k15, lz14, uz14⟩ := hH0.ld (c := 0) (i := 2) (A := 0) (B := 940) (bs_18_1 _ _ (by omega) (by omega))
  refine jx_geti c1 hm rfl sh_0 rfl k15 ?_
  exact jx_reti c2 hm rfl rfl ⟨_, rfl, rfl, by omega, by omega⟩
 refine jx_tswO c1 hm 85 rfl (by omega) rfl ?_
 refine jy_ic c1 hm rfl (by decide) ?_
 exact jx_reti c2 hm rfl rfl ⟨_, rfl, rfl, by omega, by omega⟩
theorem ct_X11_goodsOf_0 (X : Int) (hX : 0 ≤ X ∧ X ≤ 100000000) (M0 : JM) (hH0 : HI X M0) (a0 : Int) (ha0 : 0 ≤ a0 ∧ a0 ≤ 5) : JOk shp PJ 2 43 [.inr (.inr (.inl 0)), .inl a0] M0 (jRi (fun v M' => M0 = M' ∧ (-2147483648) ≤ v ∧ v ≤ 2147483647 )) := by
 refine ⟨jr_X11_goodsOf, pj_X11_goodsOf, fun F c1 c2 c3 => ?_⟩
 have hm := pj_X11_goodsOf
 change F 0 [some (.inr (.inr (.inl 0))), some (.inl a0), none, none] [] M0
 refine jy_ic c1 hm rfl (by decide) ?_
 refine jx_stor c1 hm (L' := [some (.inr (.inr (.inl 0))), some (.inl a0), some (.inl 0), none]) rfl rfl rfl rfl rfl ?_
 refine jy_ic c1 hm rfl (by decide) ?_
 refine jx_stor c1 hm (L' := [some (.inr (.inr (.inl 0))), some (.inl a0), some (.inl 0), some (.inl 0)]) rfl rfl rfl rfl rfl ?_
 have W3 : ∀ (n4 : Nat) (b1 : Int) (hb1 : (-2147483648) ≤ b1 ∧ b1 ≤ 2147483647) (b2 : Int) (hb2 : 0 ≤ b2 ∧ b2 ≤ 6), (-b2 + 6) < (n4 : Int) → F 4 [some (.inr (.inr (.inl 0))), some (.inl a0), some (.inl b1), some (.inl b2)] [] M0 := by
  intro n4
  induction n4 with
  | zero => intros; omega
  | succ n4 ihW3 =>
   intro b1 hb1 b2 hb2 hrW3
   refine jx_load c1 hm rfl rfl rfl rfl ?_
   refine jx_load c1 hm rfl rfl rfl rfl ?_
   refine jx_getr c1 hm rfl sh_0 rfl ?_
   refine jv_i c3 hm rfl pj_X2_goods rfl rfl ⟨_, _, _, rfl, sh_5⟩ rfl ((ct_X2_goods_5 X (by omega) M0 hH0 ).le (by decide)) (fun z5 _ ⟨rfl, lz5, uz5⟩ => ?_)
   refine jc_ge c1 hm 47 rfl rfl (fun h6 => ?_) (fun h6 => ?_)
   ·
    refine jx_load c1 hm rfl rfl rfl rfl ?_
    exact jx_reti c2 hm rfl rfl ⟨_, rfl, rfl, by omega, by omega⟩
   refine jx_load c1 hm rfl rfl rfl rfl ?_
   refine jx_getr c1 hm rfl sh_0 rfl ?_
   refine jx_getr c1 hm rfl sh_5 rfl ?_
   refine jx_getr c1 hm rfl sh_12 rfl ?_
   refine jx_load c1 hm rfl rfl rfl rfl ?_
   refine jy_bp c1 hm rfl (by decide) ?_
   refine jy_mul c1 hm (6 * a0) rfl (by omega) ?_
   refine jx_load c1 hm rfl rfl rfl rfl ?_
   refine jy_add c1 hm (6 * a0 + b2) rfl (by omega) ?_
   obtain ⟨z7, k8, lz7, uz7⟩ := hH0.ld (c := 19) (i := ((6 * a0 + b2)).toNat) (A := (-2147483648)) (B := 2147483647) rfl
   refine jx_iald c1 hm rfl sh_19 ⟨by omega, by omega⟩ k8 ?_
   have J13 : ∀ (b12 : Int) (hb12 : (-2147483648) ≤ b12 ∧ b12 ≤ 2147483647), F 41 [some (.inr (.inr (.inl 0))), some (.inl a0), some (.inl b12), some (.inl b2)] [] M0 := by
    intro b12 hb12
    refine jx_iinc c1 hm (v := (b2 + 1)) (L' := [some (.inr (.inr (.inl 0))), some (.inl a0), some (.inl b12), some (.inl (b2 + 1))]) rfl rfl (by omega) (by omega) rfl ?_
    refine jx_goto c1 hm 4 rfl rfl ?_
    exact ihW3 b12 (by omega) (b2 + 1) (by omega) (by omega)
   refine jz_le c1 hm 41 rfl rfl (fun h9 => ?_) (fun h9 => ?_)
   ·
    exact J13 b1 (by omega)
   refine jx_load c1 hm rfl rfl rfl rfl ?_
   refine jy_ic c1 hm rfl (by decide) ?_
   refine jx_load c1 hm rfl rfl rfl rfl ?_
   refine jy_sh1 c1 hm rfl ⟨by omega, by omega⟩ (fun z10 lz10 uz10 => ?_)
   refine jx_iopw c1 hm rfl rfl (fun z11 lz11 uz11 => ?_)
   refine jx_stor c1 hm (L' := [some (.inr (.inr (.inl 0))), some (.inl a0), some (.inl z11), some (.inl b2)]) rfl rfl rfl rfl rfl ?_
   exact J13 z11 (by omega)
 exact W3 (6 + 1 : Int).toNat 0 (by omega) 0 (by omega) (by omega)
