/-! Contracts (by wip/q/wlk.py). -/
def md_X12_come_173 : List (Nat × (Nat × Nat)) := [(173, (2, 2)), (174, (0, 939))]
theorem ct_X12_come_173 (X : Int) (hX : 0 ≤ X ∧ X ≤ 100000000) (M0 : JM) (hH0 : HI X M0) (a0 : Int) (ha0 : (-2147483648) ≤ a0 ∧ a0 ≤ 2147483647) (hp0 : M0.1 173 2 ≤ 936) : JOk shp PJ 1 88 [.inr (.inr (.inl 173)), .inl a0] M0 (jRv (fun M' => HI X M' ∧ Fr md_X12_come_173 M0 M' ∧ (M'.1 173 2 = M0.1 173 2 + 4))) := by
 refine ⟨jr_X12_come, pj_X12_come, fun F c1 c2 c3 => ?_⟩
 have hm := pj_X12_come
 change F 0 [some (.inr (.inr (.inl 173))), some (.inl a0), none] [] M0
 have hF0 : Fr md_X12_come_173 M0 M0 := Fr.rf _ _
 obtain ⟨z1, k2, lz1, uz1⟩ := hH0.ld (c := 173) (i := 2) (A := 0) (B := 940) (bs_28_1 _ _ (by omega) (by omega))
 refine jy_bp c1 hm rfl (by decide) ?_
 refine jx_stor c1 hm (L' := [some (.inr (.inr (.inl 173))), some (.inl a0), some (.inl 24)]) rfl rfl rfl rfl rfl ?_
 have W8 : ∀ (n9 : Nat) (b3 : Int) (hb3 : (-8) ≤ b3 ∧ b3 ≤ 24) (M4 : JM) (hH4 : HI (X) M4) (hF4 : Fr md_X12_come_173 M0 M4) (b5 : Int) (hb5 : 0 ≤ b5 ∧ b5 ≤ 940) (k6 : M4.1 173 2 = b5) (h7 : 8 * M4.1 173 2 + b3 = 8 * M0.1 173 2 + 24), (b3 + 8) < (n9 : Int) → F 3 [some (.inr (.inr (.inl 173))), some (.inl a0), some (.inl b3)] [] M4 := by
  intro n9
  induction n9 with
  | zero => intros; omega
  | succ n9 ihW8 =>
   intro b3 hb3 M4 hH4 hF4 b5 hb5 k6 h7 hrW8
   refine jx_load c1 hm rfl rfl rfl rfl ?_
   refine jz_lt c1 hm 39 rfl rfl (fun h10 => ?_) (fun h10 => ?_)
   ·
    exact jx_retv c2 hm rfl rfl ⟨rfl, hH4, hF4, (by omega)⟩
   refine jx_load c1 hm rfl rfl rfl rfl ?_
   refine jx_getr c1 hm rfl sh_173 rfl ?_
   refine jx_load c1 hm rfl rfl rfl rfl ?_
   refine jx_geti c1 hm rfl sh_173 rfl k6 ?_
   refine jx_load c1 hm rfl rfl rfl rfl ?_
   refine jx_load c1 hm rfl rfl rfl rfl ?_
   refine jx_iopw c1 hm rfl rfl (fun z11 lz11 uz11 => ?_)
   refine jy_sp c1 hm rfl (by decide) ?_
   refine jy_anr c1 hm rfl ⟨by omega, by omega⟩ (fun z12 lz12 uz12 => ?_)
   have t13 : 0 ≤ b5 ∧ b5 ≤ 939 := by omega
   obtain ⟨M14, e14, hH14, hF14, k14, n14, _⟩ := mup hH4 hF4 (c := 174) (i := (b5).toNat) (v := z12) (A := 0) (B := 255) rfl ⟨by omega, by omega⟩ (jin_of 1 rfl ⟨by omega, by omega⟩)
   refine jm_iast c1 hm rfl sh_174 ⟨by omega, by omega⟩ e14 ?_
   refine jx_load c1 hm rfl rfl rfl rfl ?_
   refine jx_dup c1 hm rfl rfl ?_
   have k15 : M14.1 173 2 = b5 := (n14 173 2 (fun h => absurd h.1 (by decide))).trans k6
   refine jx_geti c1 hm rfl sh_173 rfl k15 ?_
   refine jy_ic c1 hm rfl (by decide) ?_
   refine jy_add c1 hm (b5 + 1) rfl (by omega) ?_
   obtain ⟨M16, e16, hH16, hF16, k16, n16, _⟩ := mup hH14 hF14 (c := 173) (i := 2) (v := (b5 + 1)) (A := 0) (B := 940) (bs_28_1 _ _ (by omega) (by omega)) ⟨by omega, by omega⟩ (jin_of 0 rfl ⟨by omega, by omega⟩)
   refine jm_puti c1 hm rfl sh_173 rfl e16 ?_
   refine jx_iinc c1 hm (v := (b3 - 8)) (L' := [some (.inr (.inr (.inl 173))), some (.inl a0), some (.inl (b3 - 8))]) rfl rfl (by omega) (by omega) rfl ?_
   refine jx_goto c1 hm 3 rfl rfl ?_
   exact ihW8 (b3 - 8) (by omega) M16 hH16 hF16 (b5 + 1) (by omega) k16 (by omega) (by omega)
 exact W8 (32 + 1 : Int).toNat 24 (by omega) M0 hH0 hF0 z1 (by omega) k2 (by omega) (by omega)
def md_X12_feed_173 : List (Nat × (Nat × Nat)) := [(173, (0, 0)), (173, (2, 2)), (174, (0, 939))]
theorem ct_X12_feed_173 (X : Int) (hX : 0 ≤ X ∧ X ≤ 100000000) (M0 : JM) (hH0 : HI X M0) (a0 : Int) (ha0 : (-2147483648) ≤ a0 ∧ a0 ≤ 2147483647) (a1 : Int) (ha1 : (-2147483648) ≤ a1 ∧ a1 ≤ 2147483647) (a2 : Int) (ha2 : (-2147483648) ≤ a2 ∧ a2 ≤ 2147483647) (a3 : Int) (ha3 : (-2147483648) ≤ a3 ∧ a3 ≤ 2147483647) (a4 : Int) (ha4 : (-2147483648) ≤ a4 ∧ a4 ≤ 2147483647) : JOk shp PJ 2 103 [.inr (.inr (.inl 173)), .inl a0, .inl a1, .inl a2, .inl a3, .inl a4] M0 (jRi (fun v M' => HI X M' ∧ Fr md_X12_feed_173 M0 M' ∧ (-1) ≤ v ∧ v ≤ 940 )) := by
 refine ⟨jr_X12_feed, pj_X12_feed, fun F c1 c2 c3 => ?_⟩
 have hm := pj_X12_feed
 change F 0 [some (.inr (.inr (.inl 173))), some (.inl a0), some (.inl a1), some (.inl a2), some (.inl a3), some (.inl a4)] [] M0
 have hF0 : Fr md_X12_feed_173 M0 M0 := Fr.rf _ _
 refine jx_load c1 hm rfl rfl rfl rfl ?_
 refine jy_ic c1 hm rfl (by decide) ?_
 obtain ⟨M1, e1, hH1, hF1, k1, n1, _⟩ := mup hH0 hF0 (c := 173) (i := 0) (v := 0) (A := (-2147483648)) (B := 2147483647) (bs_28_0 _ _ (by omega) (by omega)) ⟨by omega, by omega⟩ (jin_of 0 rfl ⟨by omega, by omega⟩)
 refine jm_puti c1 hm rfl sh_173 rfl e1 ?_
 refine jx_load c1 hm rfl rfl rfl rfl ?_
 obtain ⟨z2, k3, lz2, uz2⟩ := hH1.ld (c := 173) (i := 2) (A := 0) (B := 940) (bs_28_1 _ _ (by omega) (by omega))
 refine jx_geti c1 hm rfl sh_173 rfl k3 ?_
 refine jy_bp c1 hm rfl (by decide) ?_
 refine jy_add c1 hm (z2 + 20) rfl (by omega) ?_
 refine jy_sp c1 hm rfl (by decide) ?_
 refine jc_le c1 hm 20 rfl rfl (fun h4 => ?_) (fun h4 => ?_)
 ·
  refine jx_load c1 hm rfl rfl rfl rfl ?_
  refine jx_load c1 hm rfl rfl rfl rfl ?_
  refine jv_v c3 hm rfl pj_X12_come rfl rfl ⟨_, _, _, rfl, sh_173⟩ rfl ((ct_X12_come_173 X (by omega) M1 hH1 a0 ⟨by omega, by omega⟩ (by omega)).le (by decide)) (fun M6 ⟨hH6, hR6, p5⟩ => ?_)
  have hF6 := hF1.tr hR6 (by decide +kernel)
  obtain ⟨z7, k8, lz7, uz7⟩ := hH6.ld (c := 173) (i := 2) (A := 0) (B := 940) (bs_28_1 _ _ (by omega) (by omega))
  refine jx_load c1 hm rfl rfl rfl rfl ?_
  refine jx_load c1 hm rfl rfl rfl rfl ?_
  refine jv_v c3 hm rfl pj_X12_come rfl rfl ⟨_, _, _, rfl, sh_173⟩ rfl ((ct_X12_come_173 X (by omega) M6 hH6 a1 ⟨by omega, by omega⟩ (by omega)).le (by decide)) (fun M10 ⟨hH10, hR10, p9⟩ => ?_)
  have hF10 := hF6.tr hR10 (by decide +kernel)
  obtain ⟨z11, k12, lz11, uz11⟩ := hH10.ld (c := 173) (i := 2) (A := 0) (B := 940) (bs_28_1 _ _ (by omega) (by omega))
  refine jx_load c1 hm rfl rfl rfl rfl ?_
  refine jx_load c1 hm rfl rfl rfl rfl ?_
  refine jv_v c3 hm rfl pj_X12_come rfl rfl ⟨_, _, _, rfl, sh_173⟩ rfl ((ct_X12_come_173 X (by omega) M10 hH10 a2 ⟨by omega, by omega⟩ (by omega)).le (by decide)) (fun M14 ⟨hH14, hR14, p13⟩ => ?_)
  have hF14 := hF10.tr hR14 (by decide +kernel)
  obtain ⟨z15, k16, lz15, uz15⟩ := hH14.ld (c := 173) (i := 2) (A := 0) (B := 940) (bs_28_1 _ _ (by omega) (by omega))
  refine jx_load c1 hm rfl rfl rfl rfl ?_
  refine jx_load c1 hm rfl rfl rfl rfl ?_
  refine jv_v c3 hm rfl pj_X12_come rfl rfl ⟨_, _, _, rfl, sh_173⟩ rfl ((ct_X12_come_173 X (by omega) M14 hH14 a3 ⟨by omega, by omega⟩ (by omega)).le (by decide)) (fun M18 ⟨hH18, hR18, p17⟩ => ?_)
  have hF18 := hF14.tr hR18 (by decide +kernel)
  obtain ⟨z19, k20, lz19, uz19⟩ := hH18.ld (c := 173) (i := 2) (A := 0) (B := 940) (bs_28_1 _ _ (by omega) (by omega))
  refine jx_load c1 hm rfl rfl rfl rfl ?_
  refine jx_load c1 hm rfl rfl rfl rfl ?_
  refine jv_v c3 hm rfl pj_X12_come rfl rfl ⟨_, _, _, rfl, sh_173⟩ rfl ((ct_X12_come_173 X (by omega) M18 hH18 a4 ⟨by omega, by omega⟩ (by omega)).le (by decide)) (fun M22 ⟨hH22, hR22, p21⟩ => ?_)
  have hF22 := hF18.tr hR22 (by decide +kernel)
  obtain ⟨z23, k24, lz23, uz23⟩ := hH22.ld (c := 173) (i := 2) (A := 0) (B := 940) (bs_28_1 _ _ (by omega) (by omega))
  refine jx_load c1 hm rfl rfl rfl rfl ?_
  refine jx_geti c1 hm rfl sh_173 rfl k24 ?_
  exact jx_reti c2 hm rfl rfl ⟨_, rfl, hH22, hF22, by omega, by omega⟩
 refine jy_ic c1 hm rfl (by decide) ?_
 exact jx_reti c2 hm rfl rfl ⟨_, rfl, hH1, hF1, by omega, by omega⟩
def md_X12_end_173 : List (Nat × (Nat × Nat)) := [(173, (0, 0)), (173, (2, 2))]
theorem ct_X12_end_173 (X : Int) (hX : 0 ≤ X ∧ X ≤ 100000000) (M0 : JM) (hH0 : HI X M0) (a0 : Int) (ha0 : (-2147483648) ≤ a0 ∧ a0 ≤ 2147483647) : JOk shp PJ 1 100 [.inr (.inr (.inl 173)), .inl a0] M0 (jRi (fun v M' => HI X M' ∧ Fr md_X12_end_173 M0 M' ∧ 0 ≤ v ∧ v ≤ 1 )) := by
 refine ⟨jr_X12_end, pj_X12_end, fun F c1 c2 c3 => ?_⟩
 have hm := pj_X12_end
 change F 0 [some (.inr (.inr (.inl 173))), some (.inl a0)] [] M0
 have hF0 : Fr md_X12_end_173 M0 M0 := Fr.rf _ _
 refine jx_load c1 hm rfl rfl rfl rfl ?_
 refine jy_ic c1 hm rfl (by decide) ?_
 obtain ⟨M1, e1, hH1, hF1, k1, n1, _⟩ := mup hH0 hF0 (c := 173) (i := 0) (v := 0) (A := (-2147483648)) (B := 2147483647) (bs_28_0 _ _ (by omega) (by omega)) ⟨by omega, by omega⟩ (jin_of 0 rfl ⟨by omega, by omega⟩)
 refine jm_puti c1 hm rfl sh_173 rfl e1 ?_
 refine jx_load c1 hm rfl rfl rfl rfl ?_
 refine jz_lt c1 hm 17 rfl rfl (fun h2 => ?_) (fun h2 => ?_)
 ·
  refine jy_ic c1 hm rfl (by decide) ?_
  exact jx_retz c2 hm rfl rfl ⟨by omega, by omega⟩ ⟨_, rfl, hH1, hF1, by omega, by omega⟩
 refine jx_load c1 hm rfl rfl rfl rfl ?_
 refine jx_load c1 hm rfl rfl rfl rfl ?_
 obtain ⟨z3, k4, lz3, uz3⟩ := hH1.ld (c := 173) (i := 2) (A := 0) (B := 940) (bs_28_1 _ _ (by omega) (by omega))
 refine jx_geti c1 hm rfl sh_173 rfl k4 ?_
 refine jc_le c1 hm 19 rfl rfl (fun h5 => ?_) (fun h5 => ?_)
 ·
  refine jx_load c1 hm rfl rfl rfl rfl ?_
  refine jx_load c1 hm rfl rfl rfl rfl ?_
  obtain ⟨M6, e6, hH6, hF6, k6, n6, _⟩ := mup hH1 hF1 (c := 173) (i := 2) (v := a0) (A := 0) (B := 940) (bs_28_1 _ _ (by omega) (by omega)) ⟨by omega, by omega⟩ (jin_of 1 rfl ⟨by omega, by omega⟩)
  refine jm_puti c1 hm rfl sh_173 rfl e6 ?_
  refine jy_ic c1 hm rfl (by decide) ?_
  exact jx_retz c2 hm rfl rfl ⟨by omega, by omega⟩ ⟨_, rfl, hH6, hF6, by omega, by omega⟩
 refine jy_ic c1 hm rfl (by decide) ?_
 exact jx_retz c2 hm rfl rfl ⟨by omega, by omega⟩ ⟨_, rfl, hH1, hF1, by omega, by omega⟩
def md_X12_fault_173 : List (Nat × (Nat × Nat)) := [(173, (0, 0))]
theorem ct_X12_fault_173 (X : Int) (hX : 0 ≤ X ∧ X ≤ 100000000) (M0 : JM) (hH0 : HI X M0)  : JOk shp PJ 1 102 [.inr (.inr (.inl 173))] M0 (jRi (fun v M' => HI X M' ∧ Fr md_X12_fault_173 M0 M' ∧ (-2147483648) ≤ v ∧ v ≤ 2147483647 )) := by
 refine ⟨jr_X12_fault, pj_X12_fault, fun F c1 c2 c3 => ?_⟩
 have hm := pj_X12_fault
 change F 0 [some (.inr (.inr (.inl 173)))] [] M0
 have hF0 : Fr md_X12_fault_173 M0 M0 := Fr.rf _ _
 refine jx_load c1 hm rfl rfl rfl rfl ?_
 refine jy_ic c1 hm rfl (by decide) ?_
 obtain ⟨M1, e1, hH1, hF1, k1, n1, _⟩ := mup hH0 hF0 (c := 173) (i := 0) (v := 0) (A := (-2147483648)) (B := 2147483647) (bs_28_0 _ _ (by omega) (by omega)) ⟨by omega, by omega⟩ (jin_of 0 rfl ⟨by omega, by omega⟩)
 refine jm_puti c1 hm rfl sh_173 rfl e1 ?_
 refine jx_load c1 hm rfl rfl rfl rfl ?_
 obtain ⟨z2, k3, lz2, uz2⟩ := hH1.ld (c := 173) (i := 10) (A := (-2147483648)) (B := 2147483647) (bs_28_5 _ _ (by omega) (by omega))
 refine jx_geti c1 hm rfl sh_173 rfl k3 ?_
 exact jx_reti c2 hm rfl rfl ⟨_, rfl, hH1, hF1, by omega, by omega⟩
theorem ct_X12_isIn (X : Int) (hX : 0 ≤ X ∧ X ≤ 100000000) (M0 : JM) (hH0 : HI X M0) (a0 : Int) (ha0 : (-2147483648) ≤ a0 ∧ a0 ≤ 2147483647) (a1 : Int) (ha1 : (-2147483648) ≤ a1 ∧ a1 ≤ 2147483647) (a2 : Int) (ha2 : (-2147483648) ≤ a2 ∧ a2 ≤ 2147483647) : JOk shp PJ 1 118 [.inl a0, .inl a1, .inl a2] M0 (jRi (fun v M' => M0 = M' ∧ 0 ≤ v ∧ v ≤ 1 ∧ (v = 1 → a1 ≤ a0 ∧ a0 ≤ a2))) := by
 refine ⟨jr_X12_isIn, pj_X12_isIn, fun F c1 c2 c3 => ?_⟩
 have hm := pj_X12_isIn
 change F 0 [some (.inl a0), some (.inl a1), some (.inl a2)] [] M0
 refine jx_load c1 hm rfl rfl rfl rfl ?_
 refine jx_load c1 hm rfl rfl rfl rfl ?_
 refine jc_lt c1 hm 14 rfl rfl (fun h1 => ?_) (fun h1 => ?_)
 ·
  refine jy_ic c1 hm rfl (by decide) ?_
  exact jx_retz c2 hm rfl rfl ⟨by omega, by omega⟩ ⟨_, rfl, rfl, by omega, by omega, (by omega)⟩
 refine jx_load c1 hm rfl rfl rfl rfl ?_
 refine jx_load c1 hm rfl rfl rfl rfl ?_
 refine jc_gt c1 hm 14 rfl rfl (fun h2 => ?_) (fun h2 => ?_)
 ·
  refine jy_ic c1 hm rfl (by decide) ?_
  exact jx_retz c2 hm rfl rfl ⟨by omega, by omega⟩ ⟨_, rfl, rfl, by omega, by omega, (by omega)⟩
 refine jy_ic c1 hm rfl (by decide) ?_
 refine jx_goto c1 hm 15 rfl rfl ?_
 exact jx_retz c2 hm rfl rfl ⟨by omega, by omega⟩ ⟨_, rfl, rfl, by omega, by omega, (by omega)⟩
theorem ct_X12_isMan_173 (X : Int) (hX : 0 ≤ X ∧ X ≤ 100000000) (M0 : JM) (hH0 : HI X M0) (a0 : Int) (ha0 : (-2147483648) ≤ a0 ∧ a0 ≤ 2147483647) : JOk shp PJ 2 120 [.inr (.inr (.inl 173)), .inl a0] M0 (jRi (fun v M' => M0 = M' ∧ 0 ≤ v ∧ v ≤ 1 ∧ (v = 1 → 0 ≤ a0 ∧ a0 ≤ 5))) := by
 refine ⟨jr_X12_isMan, pj_X12_isMan, fun F c1 c2 c3 => ?_⟩
 have hm := pj_X12_isMan
 change F 0 [some (.inr (.inr (.inl 173))), some (.inl a0)] [] M0
 refine jx_load c1 hm rfl rfl rfl rfl ?_
 refine jy_ic c1 hm rfl (by decide) ?_
 refine jx_load c1 hm rfl rfl rfl rfl ?_
 refine jx_getr c1 hm rfl sh_173 rfl ?_
 refine jy_ic c1 hm rfl (by decide) ?_
 obtain ⟨z1, k2, lz1, uz1⟩ := hH0.ld (c := 175) (i := 0) (A := 0) (B := 6) (bs_11_0 _ _ (by omega) (by omega))
 refine jx_iald c1 hm rfl sh_175 ⟨by omega, by omega⟩ k2 ?_
 refine jy_ic c1 hm rfl (by decide) ?_
 refine jy_sub c1 hm (z1 - 1) rfl (by omega) ?_
 refine jt_i c3 hm rfl rfl pj_X12_isIn rfl rfl rfl ((ct_X12_isIn X (by omega) M0 hH0 a0 ⟨by omega, by omega⟩ 0 ⟨by omega, by omega⟩ (z1 - 1) ⟨by omega, by omega⟩).le (by decide)) (fun z3 _ ⟨rfl, lz3, uz3, p4⟩ => ?_)
 exact jx_retz c2 hm rfl rfl ⟨by omega, by omega⟩ ⟨_, rfl, rfl, by omega, by omega, (by omega)⟩
theorem ct_X12_owesOf_173 (X : Int) (hX : 0 ≤ X ∧ X ≤ 100000000) (M0 : JM) (hH0 : HI X M0) (a0 : Int) (ha0 : 0 ≤ a0 ∧ a0 ≤ 5) (a1 : Int) (ha1 : 0 ≤ a1 ∧ a1 ≤ 5) : JOk shp PJ 1 145 [.inr (.inr (.inl 173)), .inl a0, .inl a1] M0 (jRi (fun v M' => M0 = M' ∧ (-2147483648) ≤ v ∧ v ≤ 2147483647 )) := by
 refine ⟨jr_X12_owesOf, pj_X12_owesOf, fun F c1 c2 c3 => ?_⟩
 have hm := pj_X12_owesOf
 change F 0 [some (.inr (.inr (.inl 173))), some (.inl a0), some (.inl a1)] [] M0
 refine jx_load c1 hm rfl rfl rfl rfl ?_
 refine jx_getr c1 hm rfl sh_173 rfl ?_
 refine jy_bp c1 hm rfl (by decide) ?_
 refine jy_bp c1 hm rfl (by decide) ?_
 refine jx_load c1 hm rfl rfl rfl rfl ?_
 refine jy_mul c1 hm (6 * a0) rfl (by omega) ?_
 refine jy_add c1 hm (6 * a0 + 120) rfl (by omega) ?_
 refine jx_load c1 hm rfl rfl rfl rfl ?_
 refine jy_add c1 hm (6 * a0 + a1 + 120) rfl (by omega) ?_
 obtain ⟨z1, k2, lz1, uz1⟩ := hH0.ld (c := 175) (i := ((6 * a0 + a1 + 120)).toNat) (A := (-2147483648)) (B := 2147483647) (bs_11_9 _ _ (by omega) (by omega))
 refine jx_iald c1 hm rfl sh_175 ⟨by omega, by omega⟩ k2 ?_
 exact jx_reti c2 hm rfl rfl ⟨_, rfl, rfl, by omega, by omega⟩
theorem ct_X12_owesAll_173 (X : Int) (hX : 0 ≤ X ∧ X ≤ 100000000) (M0 : JM) (hH0 : HI X M0) (a0 : Int) (ha0 : 0 ≤ a0 ∧ a0 ≤ 5) : JOk shp PJ 2 144 [.inr (.inr (.inl 173)), .inl a0] M0 (jRi (fun v M' => M0 = M' ∧ (-2147483648) ≤ v ∧ v ≤ 2147483647 )) := by
 refine ⟨jr_X12_owesAll, pj_X12_owesAll, fun F c1 c2 c3 => ?_⟩
 have hm := pj_X12_owesAll
 change F 0 [some (.inr (.inr (.inl 173))), some (.inl a0), none, none] [] M0
 refine jy_ic c1 hm rfl (by decide) ?_
 refine jx_stor c1 hm (L' := [some (.inr (.inr (.inl 173))), some (.inl a0), some (.inl 0), none]) rfl rfl rfl rfl rfl ?_
 refine jy_ic c1 hm rfl (by decide) ?_
 refine jx_stor c1 hm (L' := [some (.inr (.inr (.inl 173))), some (.inl a0), some (.inl 0), some (.inl 0)]) rfl rfl rfl rfl rfl ?_
 have W3 : ∀ (n4 : Nat) (b1 : Int) (hb1 : (-2147483648) ≤ b1 ∧ b1 ≤ 2147483647) (b2 : Int) (hb2 : 0 ≤ b2 ∧ b2 ≤ 6), (-b2 + 6) < (n4 : Int) → F 4 [some (.inr (.inr (.inl 173))), some (.inl a0), some (.inl b1), some (.inl b2)] [] M0 := by
  intro n4
  induction n4 with
  | zero => intros; omega
  | succ n4 ihW3 =>
   intro b1 hb1 b2 hb2 hrW3
   refine jx_load c1 hm rfl rfl rfl rfl ?_
   refine jy_bp c1 hm rfl (by decide) ?_
   refine jc_ge c1 hm 25 rfl rfl (fun h5 => ?_) (fun h5 => ?_)
   ·
    refine jx_load c1 hm rfl rfl rfl rfl ?_
    exact jx_reti c2 hm rfl rfl ⟨_, rfl, rfl, by omega, by omega⟩
   refine jx_load c1 hm rfl rfl rfl rfl ?_
   refine jx_load c1 hm rfl rfl rfl rfl ?_
   refine jx_load c1 hm rfl rfl rfl rfl ?_
   refine jx_load c1 hm rfl rfl rfl rfl ?_
   refine jv_i c3 hm rfl pj_X12_owesOf rfl rfl ⟨_, _, _, rfl, sh_173⟩ rfl ((ct_X12_owesOf_173 X (by omega) M0 hH0 a0 ⟨by omega, by omega⟩ b2 ⟨by omega, by omega⟩).le (by decide)) (fun z6 _ ⟨rfl, lz6, uz6⟩ => ?_)
   refine jx_iopw c1 hm rfl rfl (fun z7 lz7 uz7 => ?_)
   refine jx_stor c1 hm (L' := [some (.inr (.inr (.inl 173))), some (.inl a0), some (.inl z7), some (.inl b2)]) rfl rfl rfl rfl rfl ?_
   refine jx_iinc c1 hm (v := (b2 + 1)) (L' := [some (.inr (.inr (.inl 173))), some (.inl a0), some (.inl z7), some (.inl (b2 + 1))]) rfl rfl (by omega) (by omega) rfl ?_
   refine jx_goto c1 hm 4 rfl rfl ?_
   exact ihW3 z7 (by omega) (b2 + 1) (by omega) (by omega)
 exact W3 (6 + 1 : Int).toNat 0 (by omega) 0 (by omega) (by omega)
theorem ct_X12_owedAll_173 (X : Int) (hX : 0 ≤ X ∧ X ≤ 100000000) (M0 : JM) (hH0 : HI X M0) (a0 : Int) (ha0 : 0 ≤ a0 ∧ a0 ≤ 5) : JOk shp PJ 2 142 [.inr (.inr (.inl 173)), .inl a0] M0 (jRi (fun v M' => M0 = M' ∧ (-2147483648) ≤ v ∧ v ≤ 2147483647 )) := by
 refine ⟨jr_X12_owedAll, pj_X12_owedAll, fun F c1 c2 c3 => ?_⟩
 have hm := pj_X12_owedAll
 change F 0 [some (.inr (.inr (.inl 173))), some (.inl a0), none, none] [] M0
 refine jy_ic c1 hm rfl (by decide) ?_
 refine jx_stor c1 hm (L' := [some (.inr (.inr (.inl 173))), some (.inl a0), some (.inl 0), none]) rfl rfl rfl rfl rfl ?_
 refine jy_ic c1 hm rfl (by decide) ?_
 refine jx_stor c1 hm (L' := [some (.inr (.inr (.inl 173))), some (.inl a0), some (.inl 0), some (.inl 0)]) rfl rfl rfl rfl rfl ?_
 have W3 : ∀ (n4 : Nat) (b1 : Int) (hb1 : (-2147483648) ≤ b1 ∧ b1 ≤ 2147483647) (b2 : Int) (hb2 : 0 ≤ b2 ∧ b2 ≤ 6), (-b2 + 6) < (n4 : Int) → F 4 [some (.inr (.inr (.inl 173))), some (.inl a0), some (.inl b1), some (.inl b2)] [] M0 := by
  intro n4
  induction n4 with
  | zero => intros; omega
  | succ n4 ihW3 =>
   intro b1 hb1 b2 hb2 hrW3
   refine jx_load c1 hm rfl rfl rfl rfl ?_
   refine jy_bp c1 hm rfl (by decide) ?_
   refine jc_ge c1 hm 25 rfl rfl (fun h5 => ?_) (fun h5 => ?_)
   ·
    refine jx_load c1 hm rfl rfl rfl rfl ?_
    exact jx_reti c2 hm rfl rfl ⟨_, rfl, rfl, by omega, by omega⟩
   refine jx_load c1 hm rfl rfl rfl rfl ?_
   refine jx_load c1 hm rfl rfl rfl rfl ?_
   refine jx_load c1 hm rfl rfl rfl rfl ?_
   refine jx_load c1 hm rfl rfl rfl rfl ?_
   refine jv_i c3 hm rfl pj_X12_owesOf rfl rfl ⟨_, _, _, rfl, sh_173⟩ rfl ((ct_X12_owesOf_173 X (by omega) M0 hH0 b2 ⟨by omega, by omega⟩ a0 ⟨by omega, by omega⟩).le (by decide)) (fun z6 _ ⟨rfl, lz6, uz6⟩ => ?_)
   refine jx_iopw c1 hm rfl rfl (fun z7 lz7 uz7 => ?_)
   refine jx_stor c1 hm (L' := [some (.inr (.inr (.inl 173))), some (.inl a0), some (.inl z7), some (.inl b2)]) rfl rfl rfl rfl rfl ?_
   refine jx_iinc c1 hm (v := (b2 + 1)) (L' := [some (.inr (.inr (.inl 173))), some (.inl a0), some (.inl z7), some (.inl (b2 + 1))]) rfl rfl (by omega) (by omega) rfl ?_
   refine jx_goto c1 hm 4 rfl rfl ?_
   exact ihW3 z7 (by omega) (b2 + 1) (by omega) (by omega)
 exact W3 (6 + 1 : Int).toNat 0 (by omega) 0 (by omega) (by omega)
theorem ct_X12_goodsOf_173 (X : Int) (hX : 0 ≤ X ∧ X ≤ 100000000) (M0 : JM) (hH0 : HI X M0) (a0 : Int) (ha0 : 0 ≤ a0 ∧ a0 ≤ 5) : JOk shp PJ 1 111 [.inr (.inr (.inl 173)), .inl a0] M0 (jRi (fun v M' => M0 = M' ∧ (-2147483648) ≤ v ∧ v ≤ 2147483647 )) := by
 refine ⟨jr_X12_goodsOf, pj_X12_goodsOf, fun F c1 c2 c3 => ?_⟩
 have hm := pj_X12_goodsOf
 change F 0 [some (.inr (.inr (.inl 173))), some (.inl a0), none, none] [] M0
 refine jy_ic c1 hm rfl (by decide) ?_
 refine jx_stor c1 hm (L' := [some (.inr (.inr (.inl 173))), some (.inl a0), some (.inl 0), none]) rfl rfl rfl rfl rfl ?_
 refine jy_ic c1 hm rfl (by decide) ?_
 refine jx_stor c1 hm (L' := [some (.inr (.inr (.inl 173))), some (.inl a0), some (.inl 0), some (.inl 0)]) rfl rfl rfl rfl rfl ?_
 have W3 : ∀ (n4 : Nat) (b1 : Int) (hb1 : (-2147483648) ≤ b1 ∧ b1 ≤ 2147483647) (b2 : Int) (hb2 : 0 ≤ b2 ∧ b2 ≤ 6), (-b2 + 6) < (n4 : Int) → F 4 [some (.inr (.inr (.inl 173))), some (.inl a0), some (.inl b1), some (.inl b2)] [] M0 := by
  intro n4
  induction n4 with
  | zero => intros; omega
  | succ n4 ihW3 =>
   intro b1 hb1 b2 hb2 hrW3
   refine jx_load c1 hm rfl rfl rfl rfl ?_
   refine jy_bp c1 hm rfl (by decide) ?_
   refine jc_ge c1 hm 40 rfl rfl (fun h5 => ?_) (fun h5 => ?_)
   ·
    refine jx_load c1 hm rfl rfl rfl rfl ?_
    exact jx_reti c2 hm rfl rfl ⟨_, rfl, rfl, by omega, by omega⟩
   refine jx_load c1 hm rfl rfl rfl rfl ?_
   refine jx_getr c1 hm rfl sh_173 rfl ?_
   refine jy_sp c1 hm rfl (by decide) ?_
   refine jy_bp c1 hm rfl (by decide) ?_
   refine jx_load c1 hm rfl rfl rfl rfl ?_
   refine jy_mul c1 hm (6 * a0) rfl (by omega) ?_
   refine jy_add c1 hm (6 * a0 + 192) rfl (by omega) ?_
   refine jx_load c1 hm rfl rfl rfl rfl ?_
   refine jy_add c1 hm (6 * a0 + b2 + 192) rfl (by omega) ?_
   obtain ⟨z6, k7, lz6, uz6⟩ := hH0.ld (c := 175) (i := ((6 * a0 + b2 + 192)).toNat) (A := (-2147483648)) (B := 2147483647) (bs_11_11 _ _ (by omega) (by omega))
   refine jx_iald c1 hm rfl sh_175 ⟨by omega, by omega⟩ k7 ?_
   have J12 : ∀ (b11 : Int) (hb11 : (-2147483648) ≤ b11 ∧ b11 ≤ 2147483647), F 34 [some (.inr (.inr (.inl 173))), some (.inl a0), some (.inl b11), some (.inl b2)] [] M0 := by
    intro b11 hb11
    refine jx_iinc c1 hm (v := (b2 + 1)) (L' := [some (.inr (.inr (.inl 173))), some (.inl a0), some (.inl b11), some (.inl (b2 + 1))]) rfl rfl (by omega) (by omega) rfl ?_
    refine jx_goto c1 hm 4 rfl rfl ?_
    exact ihW3 b11 (by omega) (b2 + 1) (by omega) (by omega)
   refine jz_le c1 hm 34 rfl rfl (fun h8 => ?_) (fun h8 => ?_)
   ·
    exact J12 b1 (by omega)
   refine jx_load c1 hm rfl rfl rfl rfl ?_
   refine jy_ic c1 hm rfl (by decide) ?_
   refine jx_load c1 hm rfl rfl rfl rfl ?_
   refine jy_sh1 c1 hm rfl ⟨by omega, by omega⟩ (fun z9 lz9 uz9 => ?_)
   refine jx_iopw c1 hm rfl rfl (fun z10 lz10 uz10 => ?_)
   refine jx_stor c1 hm (L' := [some (.inr (.inr (.inl 173))), some (.inl a0), some (.inl z10), some (.inl b2)]) rfl rfl rfl rfl rfl ?_
   exact J12 z10 (by omega)
 exact W3 (6 + 1 : Int).toNat 0 (by omega) 0 (by omega) (by omega)
theorem ct_X12_sumOf_173 (X : Int) (hX : 0 ≤ X ∧ X ≤ 100000000) (M0 : JM) (hH0 : HI X M0) (a0 : Int) (ha0 : 102 ≤ a0 ∧ a0 ≤ 192) (a1 : Int) (ha1 : 6 ≤ a1 ∧ a1 ≤ 36) : JOk shp PJ 1 187 [.inr (.inr (.inl 173)), .inl a0, .inl a1] M0 (jRi (fun v M' => M0 = M' ∧ (-2147483648) ≤ v ∧ v ≤ 2147483647 )) := by
 refine ⟨jr_X12_sumOf, pj_X12_sumOf, fun F c1 c2 c3 => ?_⟩
 have hm := pj_X12_sumOf
 change F 0 [some (.inr (.inr (.inl 173))), some (.inl a0), some (.inl a1), none, none] [] M0
 refine jy_ic c1 hm rfl (by decide) ?_
 refine jx_stor c1 hm (L' := [some (.inr (.inr (.inl 173))), some (.inl a0), some (.inl a1), some (.inl 0), none]) rfl rfl rfl rfl rfl ?_
 refine jy_ic c1 hm rfl (by decide) ?_
 refine jx_stor c1 hm (L' := [some (.inr (.inr (.inl 173))), some (.inl a0), some (.inl a1), some (.inl 0), some (.inl 0)]) rfl rfl rfl rfl rfl ?_
 have W3 : ∀ (n4 : Nat) (b1 : Int) (hb1 : (-2147483648) ≤ b1 ∧ b1 ≤ 2147483647) (b2 : Int) (hb2 : 0 ≤ b2 ∧ b2 ≤ 36), (-b2 + 36) < (n4 : Int) → F 5 [some (.inr (.inr (.inl 173))), some (.inl a0), some (.inl a1), some (.inl b1), some (.inl b2)] [] M0 := by
  intro n4
  induction n4 with
  | zero => intros; omega
  | succ n4 ihW3 =>
   intro b1 hb1 b2 hb2 hrW3
   refine jx_load c1 hm rfl rfl rfl rfl ?_
   refine jx_load c1 hm rfl rfl rfl rfl ?_
   refine jc_ge c1 hm 29 rfl rfl (fun h5 => ?_) (fun h5 => ?_)
   ·
    refine jx_load c1 hm rfl rfl rfl rfl ?_
    exact jx_reti c2 hm rfl rfl ⟨_, rfl, rfl, by omega, by omega⟩
   refine jx_load c1 hm rfl rfl rfl rfl ?_
   refine jx_load c1 hm rfl rfl rfl rfl ?_
   refine jx_getr c1 hm rfl sh_173 rfl ?_
   refine jx_load c1 hm rfl rfl rfl rfl ?_
   refine jx_load c1 hm rfl rfl rfl rfl ?_
   refine jy_add c1 hm (a0 + b2) rfl (by omega) ?_
   obtain ⟨z6, k7, lz6, uz6⟩ := hH0.any (by omega) (by omega) 175 ((a0 + b2)).toNat
   refine jx_iald c1 hm rfl sh_175 ⟨by omega, by omega⟩ k7 ?_
   refine jx_iopw c1 hm rfl rfl (fun z8 lz8 uz8 => ?_)
   refine jx_stor c1 hm (L' := [some (.inr (.inr (.inl 173))), some (.inl a0), some (.inl a1), some (.inl z8), some (.inl b2)]) rfl rfl rfl rfl rfl ?_
   refine jx_iinc c1 hm (v := (b2 + 1)) (L' := [some (.inr (.inr (.inl 173))), some (.inl a0), some (.inl a1), some (.inl z8), some (.inl (b2 + 1))]) rfl rfl (by omega) (by omega) rfl ?_
   refine jx_goto c1 hm 5 rfl rfl ?_
   exact ihW3 z8 (by omega) (b2 + 1) (by omega) (by omega)
 exact W3 (36 + 1 : Int).toNat 0 (by omega) 0 (by omega) (by omega)
def md_X12_refuse_173 : List (Nat × (Nat × Nat)) := [(173, (0, 0))]
theorem ct_X12_refuse_173 (X : Int) (hX : 0 ≤ X ∧ X ≤ 100000000) (M0 : JM) (hH0 : HI X M0)  : JOk shp PJ 1 173 [.inr (.inr (.inl 173))] M0 (jRi (fun v M' => HI X M' ∧ Fr md_X12_refuse_173 M0 M' ∧ 0 ≤ v ∧ v ≤ 0 )) := by
 refine ⟨jr_X12_refuse, pj_X12_refuse, fun F c1 c2 c3 => ?_⟩
 have hm := pj_X12_refuse
 change F 0 [some (.inr (.inr (.inl 173)))] [] M0
 have hF0 : Fr md_X12_refuse_173 M0 M0 := Fr.rf _ _
 refine jx_load c1 hm rfl rfl rfl rfl ?_
 refine jy_ic c1 hm rfl (by decide) ?_
 obtain ⟨M1, e1, hH1, hF1, k1, n1, _⟩ := mup hH0 hF0 (c := 173) (i := 0) (v := 1) (A := (-2147483648)) (B := 2147483647) (bs_28_0 _ _ (by omega) (by omega)) ⟨by omega, by omega⟩ (jin_of 0 rfl ⟨by omega, by omega⟩)
 refine jm_puti c1 hm rfl sh_173 rfl e1 ?_
 refine jy_ic c1 hm rfl (by decide) ?_
 exact jx_reti c2 hm rfl rfl ⟨_, rfl, hH1, hF1, by omega, by omega⟩
def md_X12_man_173 : List (Nat × (Nat × Nat)) := [(173, (0, 0))]
theorem ct_X12_man_173 (X : Int) (hX : 0 ≤ X ∧ X ≤ 100000000) (M0 : JM) (hH0 : HI X M0) (a0 : Int) (ha0 : (-2147483648) ≤ a0 ∧ a0 ≤ 2147483647) (a1 : Int) (ha1 : (-2147483648) ≤ a1 ∧ a1 ≤ 2147483647) : JOk shp PJ 3 135 [.inr (.inr (.inl 173)), .inl a0, .inl a1] M0 (jRi (fun v M' => HI X M' ∧ Fr md_X12_man_173 M0 M' ∧ (-2147483648) ≤ v ∧ v ≤ 2147483647 )) := by
 refine ⟨jr_X12_man, pj_X12_man, fun F c1 c2 c3 => ?_⟩
 have hm := pj_X12_man
 change F 0 [some (.inr (.inr (.inl 173))), some (.inl a0), some (.inl a1)] [] M0
 have hF0 : Fr md_X12_man_173 M0 M0 := Fr.rf _ _
 refine jx_load c1 hm rfl rfl rfl rfl ?_
 refine jy_ic c1 hm rfl (by decide) ?_
 obtain ⟨M1, e1, hH1, hF1, k1, n1, _⟩ := mup hH0 hF0 (c := 173) (i := 0) (v := 0) (A := (-2147483648)) (B := 2147483647) (bs_28_0 _ _ (by omega) (by omega)) ⟨by omega, by omega⟩ (jin_of 0 rfl ⟨by omega, by omega⟩)
 refine jm_puti c1 hm rfl sh_173 rfl e1 ?_
 refine jx_load c1 hm rfl rfl rfl rfl ?_
 refine jx_load c1 hm rfl rfl rfl rfl ?_
 refine jv_i c3 hm rfl pj_X12_isMan rfl rfl ⟨_, _, _, rfl, sh_173⟩ rfl ((ct_X12_isMan_173 X (by omega) M1 hH1 a0 ⟨by omega, by omega⟩).le (by decide)) (fun z2 _ ⟨rfl, lz2, uz2, p3⟩ => ?_)
 refine jz_ne c1 hm 18 rfl rfl (fun h4 => ?_) (fun h4 => ?_)
 ·
  refine jx_load c1 hm rfl rfl rfl rfl ?_
  by_cases h5 : a1 = 0
  ·
   refine jx_tswI c1 hm 64 rfl ⟨by omega, by omega⟩ (by rw [h5]; rfl) rfl ?_
   refine jx_load c1 hm rfl rfl rfl rfl ?_
   refine jx_getr c1 hm rfl sh_173 rfl ?_
   refine jy_bp c1 hm rfl (by decide) ?_
   refine jx_load c1 hm rfl rfl rfl rfl ?_
   refine jy_add c1 hm (a0 + 102) rfl (by omega) ?_
   obtain ⟨z6, k7, lz6, uz6⟩ := hH1.ld (c := 175) (i := ((a0 + 102)).toNat) (A := (-20) * X) (B := 99) (bs_11_8 _ _ (by omega) (by omega))
   refine jx_iald c1 hm rfl sh_175 ⟨by omega, by omega⟩ k7 ?_
   exact jx_reti c2 hm rfl rfl ⟨_, rfl, hH1, hF1, by omega, by omega⟩
  by_cases h8 : a1 = 1
  ·
   refine jx_tswI c1 hm 74 rfl ⟨by omega, by omega⟩ (by rw [h8]; rfl) rfl ?_
   refine jx_load c1 hm rfl rfl rfl rfl ?_
   refine jx_getr c1 hm rfl sh_173 rfl ?_
   refine jy_ic c1 hm rfl (by decide) ?_
   refine jx_load c1 hm rfl rfl rfl rfl ?_
   refine jy_add c1 hm (a0 + 5) rfl (by omega) ?_
   obtain ⟨z9, k10, lz9, uz9⟩ := hH1.ld (c := 175) (i := ((a0 + 5)).toNat) (A := 0) (B := 99) (bs_11_2 _ _ (by omega) (by omega))
   refine jx_iald c1 hm rfl sh_175 ⟨by omega, by omega⟩ k10 ?_
   exact jx_reti c2 hm rfl rfl ⟨_, rfl, hH1, hF1, by omega, by omega⟩
  by_cases h11 : a1 = 2
  ·
   refine jx_tswI c1 hm 83 rfl ⟨by omega, by omega⟩ (by rw [h11]; rfl) rfl ?_
   refine jx_load c1 hm rfl rfl rfl rfl ?_
   refine jx_getr c1 hm rfl sh_173 rfl ?_
   refine jy_bp c1 hm rfl (by decide) ?_
   refine jx_load c1 hm rfl rfl rfl rfl ?_
   refine jy_add c1 hm (a0 + 108) rfl (by omega) ?_
   obtain ⟨z12, k13, lz12, uz12⟩ := hH1.ld (c := 175) (i := ((a0 + 108)).toNat) (A := (-2147483648)) (B := 2147483647) (bs_11_9 _ _ (by omega) (by omega))
   refine jx_iald c1 hm rfl sh_175 ⟨by omega, by omega⟩ k13 ?_
   exact jx_reti c2 hm rfl rfl ⟨_, rfl, hH1, hF1, by omega, by omega⟩
  by_cases h14 : a1 = 3
  ·
   refine jx_tswI c1 hm 93 rfl ⟨by omega, by omega⟩ (by rw [h14]; rfl) rfl ?_
   refine jx_load c1 hm rfl rfl rfl rfl ?_
   refine jx_load c1 hm rfl rfl rfl rfl ?_
   refine jv_i c3 hm rfl pj_X12_owesAll rfl rfl ⟨_, _, _, rfl, sh_173⟩ rfl ((ct_X12_owesAll_173 X (by omega) M1 hH1 a0 ⟨by omega, by omega⟩).le (by decide)) (fun z15 _ ⟨rfl, lz15, uz15⟩ => ?_)
   exact jx_reti c2 hm rfl rfl ⟨_, rfl, hH1, hF1, by omega, by omega⟩
  by_cases h16 : a1 = 4
  ·
   refine jx_tswI c1 hm 99 rfl ⟨by omega, by omega⟩ (by rw [h16]; rfl) rfl ?_
   refine jx_load c1 hm rfl rfl rfl rfl ?_
   refine jx_load c1 hm rfl rfl rfl rfl ?_
   refine jv_i c3 hm rfl pj_X12_owedAll rfl rfl ⟨_, _, _, rfl, sh_173⟩ rfl ((ct_X12_owedAll_173 X (by omega) M1 hH1 a0 ⟨by omega, by omega⟩).le (by decide)) (fun z17 _ ⟨rfl, lz17, uz17⟩ => ?_)
   exact jx_reti c2 hm rfl rfl ⟨_, rfl, hH1, hF1, by omega, by omega⟩
  by_cases h18 : a1 = 5
  ·
   refine jx_tswI c1 hm 105 rfl ⟨by omega, by omega⟩ (by rw [h18]; rfl) rfl ?_
   refine jx_load c1 hm rfl rfl rfl rfl ?_
   refine jx_load c1 hm rfl rfl rfl rfl ?_
   refine jv_i c3 hm rfl pj_X12_goodsOf rfl rfl ⟨_, _, _, rfl, sh_173⟩ rfl ((ct_X12_goodsOf_173 X (by omega) M1 hH1 a0 ⟨by omega, by omega⟩).le (by decide)) (fun z19 _ ⟨rfl, lz19, uz19⟩ => ?_)
   exact jx_reti c2 hm rfl rfl ⟨_, rfl, hH1, hF1, by omega, by omega⟩
  by_cases h20 : a1 = 6
  ·
   refine jx_tswI c1 hm 111 rfl ⟨by omega, by omega⟩ (by rw [h20]; rfl) rfl ?_
   refine jx_load c1 hm rfl rfl rfl rfl ?_
   refine jy_sp c1 hm rfl (by decide) ?_
   refine jy_bp c1 hm rfl (by decide) ?_
   refine jx_load c1 hm rfl rfl rfl rfl ?_
   refine jy_mul c1 hm (6 * a0) rfl (by omega) ?_
   refine jy_add c1 hm (6 * a0 + 156) rfl (by omega) ?_
   refine jy_bp c1 hm rfl (by decide) ?_
   refine jv_i c3 hm rfl pj_X12_sumOf rfl rfl ⟨_, _, _, rfl, sh_173⟩ rfl ((ct_X12_sumOf_173 X (by omega) M1 hH1 (6 * a0 + 156) ⟨by omega, by omega⟩ 6 ⟨by omega, by omega⟩).le (by decide)) (fun z21 _ ⟨rfl, lz21, uz21⟩ => ?_)
   exact jx_reti c2 hm rfl rfl ⟨_, rfl, hH1, hF1, by omega, by omega⟩
  by_cases h22 : a1 = 7
  ·
   refine jx_tswI c1 hm 126 rfl ⟨by omega, by omega⟩ (by rw [h22]; rfl) rfl ?_
   refine jx_load c1 hm rfl rfl rfl rfl ?_
   refine jx_getr c1 hm rfl sh_173 rfl ?_
   refine jy_sp c1 hm rfl (by decide) ?_
   refine jx_load c1 hm rfl rfl rfl rfl ?_
   refine jy_add c1 hm (a0 + 228) rfl (by omega) ?_
   obtain ⟨z23, k24, lz23, uz23⟩ := hH1.ld (c := 175) (i := ((a0 + 228)).toNat) (A := (-2147483648)) (B := 2147483647) (bs_11_11 _ _ (by omega) (by omega))
   refine jx_iald c1 hm rfl sh_175 ⟨by omega, by omega⟩ k24 ?_
   exact jx_reti c2 hm rfl rfl ⟨_, rfl, hH1, hF1, by omega, by omega⟩
  refine jx_tswO c1 hm 137 rfl (by omega) rfl ?_
  refine jx_load c1 hm rfl rfl rfl rfl ?_
  refine jv_i c3 hm rfl pj_X12_refuse rfl rfl ⟨_, _, _, rfl, sh_173⟩ rfl ((ct_X12_refuse_173 X (by omega) M1 hH1 ).le (by decide)) (fun z25 M26 ⟨hH26, hR26, lz25, uz25⟩ => ?_)
  have hF26 := hF1.tr hR26 (by decide +kernel)
  exact jx_reti c2 hm rfl rfl ⟨_, rfl, hH26, hF26, by omega, by omega⟩
 refine jx_load c1 hm rfl rfl rfl rfl ?_
 refine jv_i c3 hm rfl pj_X12_refuse rfl rfl ⟨_, _, _, rfl, sh_173⟩ rfl ((ct_X12_refuse_173 X (by omega) M1 hH1 ).le (by decide)) (fun z27 M28 ⟨hH28, hR28, lz27, uz27⟩ => ?_)
 have hF28 := hF1.tr hR28 (by decide +kernel)
 exact jx_reti c2 hm rfl rfl ⟨_, rfl, hH28, hF28, by omega, by omega⟩
theorem ct_X12_isForfeit_173 (X : Int) (hX : 0 ≤ X ∧ X ≤ 100000000) (M0 : JM) (hH0 : HI X M0) (a0 : Int) (ha0 : (-2147483648) ≤ a0 ∧ a0 ≤ 2147483647) : JOk shp PJ 2 116 [.inr (.inr (.inl 173)), .inl a0] M0 (jRi (fun v M' => M0 = M' ∧ 0 ≤ v ∧ v ≤ 1 ∧ (v = 1 → 0 ≤ a0 ∧ a0 ≤ 5))) := by
 refine ⟨jr_X12_isForfeit, pj_X12_isForfeit, fun F c1 c2 c3 => ?_⟩
 have hm := pj_X12_isForfeit
 change F 0 [some (.inr (.inr (.inl 173))), some (.inl a0)] [] M0
 refine jx_load c1 hm rfl rfl rfl rfl ?_
 refine jy_ic c1 hm rfl (by decide) ?_
 refine jx_load c1 hm rfl rfl rfl rfl ?_
 refine jx_getr c1 hm rfl sh_173 rfl ?_
 refine jy_ic c1 hm rfl (by decide) ?_
 obtain ⟨z1, k2, lz1, uz1⟩ := hH0.ld (c := 175) (i := 1) (A := 0) (B := 6) (bs_11_0 _ _ (by omega) (by omega))
 refine jx_iald c1 hm rfl sh_175 ⟨by omega, by omega⟩ k2 ?_
 refine jy_ic c1 hm rfl (by decide) ?_
 refine jy_sub c1 hm (z1 - 1) rfl (by omega) ?_
 refine jt_i c3 hm rfl rfl pj_X12_isIn rfl rfl rfl ((ct_X12_isIn X (by omega) M0 hH0 a0 ⟨by omega, by omega⟩ 0 ⟨by omega, by omega⟩ (z1 - 1) ⟨by omega, by omega⟩).le (by decide)) (fun z3 _ ⟨rfl, lz3, uz3, p4⟩ => ?_)
 exact jx_retz c2 hm rfl rfl ⟨by omega, by omega⟩ ⟨_, rfl, rfl, by omega, by omega, (by omega)⟩
theorem ct_X12_timesOf_173 (X : Int) (hX : 0 ≤ X ∧ X ≤ 100000000) (M0 : JM) (hH0 : HI X M0) (a0 : Int) (ha0 : 0 ≤ a0 ∧ a0 ≤ 5) (a1 : Int) (ha1 : 0 ≤ a1 ∧ a1 ≤ 5) : JOk shp PJ 1 195 [.inr (.inr (.inl 173)), .inl a0, .inl a1] M0 (jRi (fun v M' => M0 = M' ∧ 0 ≤ v ∧ v ≤ 100000000 )) := by
 refine ⟨jr_X12_timesOf, pj_X12_timesOf, fun F c1 c2 c3 => ?_⟩
 have hm := pj_X12_timesOf
 change F 0 [some (.inr (.inr (.inl 173))), some (.inl a0), some (.inl a1)] [] M0
 refine jx_load c1 hm rfl rfl rfl rfl ?_
 refine jx_getr c1 hm rfl sh_173 rfl ?_
 refine jy_sp c1 hm rfl (by decide) ?_
 refine jy_bp c1 hm rfl (by decide) ?_
 refine jx_load c1 hm rfl rfl rfl rfl ?_
 refine jy_mul c1 hm (6 * a0) rfl (by omega) ?_
 refine jy_add c1 hm (6 * a0 + 156) rfl (by omega) ?_
 refine jx_load c1 hm rfl rfl rfl rfl ?_
 refine jy_add c1 hm (6 * a0 + a1 + 156) rfl (by omega) ?_
 obtain ⟨z1, k2, lz1, uz1⟩ := hH0.ld (c := 175) (i := ((6 * a0 + a1 + 156)).toNat) (A := 0) (B := 1 * X) (bs_11_10 _ _ (by omega) (by omega))
 refine jx_iald c1 hm rfl sh_175 ⟨by omega, by omega⟩ k2 ?_
 exact jx_reti c2 hm rfl rfl ⟨_, rfl, rfl, by omega, by omega⟩
theorem ct_X12_least (X : Int) (hX : 0 ≤ X ∧ X ≤ 100000000) (M0 : JM) (hH0 : HI X M0) (a0 : Int) (ha0 : (-2147483648) ≤ a0 ∧ a0 ≤ 2147483647) (a1 : Int) (ha1 : (-2147483648) ≤ a1 ∧ a1 ≤ 2147483647) : JOk shp PJ 1 131 [.inl a0, .inl a1] M0 (jRi (fun v M' => M0 = M' ∧ (-2147483648) ≤ v ∧ v ≤ 2147483647 ∧ (v ≤ a0 ∧ v ≤ a1) ∧ (v = a0 ∨ v = a1))) := by
 refine ⟨jr_X12_least, pj_X12_least, fun F c1 c2 c3 => ?_⟩
 have hm := pj_X12_least
 change F 0 [some (.inl a0), some (.inl a1)] [] M0
 refine jx_load c1 hm rfl rfl rfl rfl ?_
 refine jx_load c1 hm rfl rfl rfl rfl ?_
 refine jc_ge c1 hm 9 rfl rfl (fun h1 => ?_) (fun h1 => ?_)
 ·
  refine jx_load c1 hm rfl rfl rfl rfl ?_
  exact jx_reti c2 hm rfl rfl ⟨_, rfl, rfl, by omega, by omega, (by omega), (by omega)⟩
 refine jx_load c1 hm rfl rfl rfl rfl ?_
 refine jx_goto c1 hm 10 rfl rfl ?_
 exact jx_reti c2 hm rfl rfl ⟨_, rfl, rfl, by omega, by omega, (by omega), (by omega)⟩
theorem ct_X12_costBy_173 (X : Int) (hX : 0 ≤ X ∧ X ≤ 100000000) (M0 : JM) (hH0 : HI X M0) (a0 : Int) (ha0 : 0 ≤ a0 ∧ a0 ≤ 5) (a1 : Int) (ha1 : 0 ≤ a1 ∧ a1 ≤ 5) (a2 : Int) (ha2 : 0 ≤ a2 ∧ a2 ≤ 200000000) : JOk shp PJ 2 90 [.inr (.inr (.inl 173)), .inl a0, .inl a1, .inl a2] M0 (jRi (fun v M' => M0 = M' ∧ (-18) ≤ v ∧ v ≤ 20 )) := by
 refine ⟨jr_X12_costBy, pj_X12_costBy, fun F c1 c2 c3 => ?_⟩
 have hm := pj_X12_costBy
 change F 0 [some (.inr (.inr (.inl 173))), some (.inl a0), some (.inl a1), some (.inl a2), none, none] [] M0
 refine jx_load c1 hm rfl rfl rfl rfl ?_
 refine jx_getr c1 hm rfl sh_173 rfl ?_
 refine jy_bp c1 hm rfl (by decide) ?_
 refine jy_bp c1 hm rfl (by decide) ?_
 refine jx_load c1 hm rfl rfl rfl rfl ?_
 refine jy_mul c1 hm (6 * a0) rfl (by omega) ?_
 refine jy_add c1 hm (6 * a0 + 17) rfl (by omega) ?_
 refine jx_load c1 hm rfl rfl rfl rfl ?_
 refine jy_add c1 hm (6 * a0 + a1 + 17) rfl (by omega) ?_
 obtain ⟨z1, k2, lz1, uz1⟩ := hH0.ld (c := 175) (i := ((6 * a0 + a1 + 17)).toNat) (A := (-1)) (B := 20) (bs_11_4 _ _ (by omega) (by omega))
 refine jx_iald c1 hm rfl sh_175 ⟨by omega, by omega⟩ k2 ?_
 refine jx_stor c1 hm (L' := [some (.inr (.inr (.inl 173))), some (.inl a0), some (.inl a1), some (.inl a2), some (.inl z1), none]) rfl rfl rfl rfl rfl ?_
 refine jx_load c1 hm rfl rfl rfl rfl ?_
 refine jz_ne c1 hm 23 rfl rfl (fun h3 => ?_) (fun h3 => ?_)
 ·
  refine jx_load c1 hm rfl rfl rfl rfl ?_
  refine jy_bp c1 hm rfl (by decide) ?_
  refine jx_load c1 hm rfl rfl rfl rfl ?_
  refine jt_i c3 hm rfl rfl pj_X12_least rfl rfl rfl ((ct_X12_least X (by omega) M0 hH0 20 ⟨by omega, by omega⟩ a2 ⟨by omega, by omega⟩).le (by decide)) (fun z4 _ ⟨rfl, lz4, uz4, p5, p6⟩ => ?_)
  refine jx_load c1 hm rfl rfl rfl rfl ?_
  refine jx_getr c1 hm rfl sh_173 rfl ?_
  refine jy_ic c1 hm rfl (by decide) ?_
  obtain ⟨z7, k8, lz7, uz7⟩ := hH0.ld (c := 175) (i := 3) (A := 0) (B := 9) (bs_11_1 _ _ (by omega) (by omega))
  refine jx_iald c1 hm rfl sh_175 ⟨by omega, by omega⟩ k8 ?_
  refine jy_mup c1 hm 20 9 180 rfl ⟨by omega, by omega, by omega, by omega⟩ (by decide) (fun z9 lz9 uz9 => ?_)
  refine jy_sub c1 hm (z1 - z9) rfl (by omega) ?_
  refine jx_stor c1 hm (L' := [some (.inr (.inr (.inl 173))), some (.inl a0), some (.inl a1), some (.inl a2), some (.inl z1), some (.inl (z1 - z9))]) rfl rfl rfl rfl rfl ?_
  refine jx_load c1 hm rfl rfl rfl rfl ?_
  refine jy_ic c1 hm rfl (by decide) ?_
  refine jc_ge c1 hm 51 rfl rfl (fun h10 => ?_) (fun h10 => ?_)
  ·
   refine jx_load c1 hm rfl rfl rfl rfl ?_
   exact jx_reti c2 hm rfl rfl ⟨_, rfl, rfl, by omega, by omega⟩
  refine jy_ic c1 hm rfl (by decide) ?_
  refine jx_goto c1 hm 53 rfl rfl ?_
  exact jx_reti c2 hm rfl rfl ⟨_, rfl, rfl, by omega, by omega⟩
 refine jy_ic c1 hm rfl (by decide) ?_
 exact jx_reti c2 hm rfl rfl ⟨_, rfl, rfl, by omega, by omega⟩
theorem ct_X12_costOf_173 (X : Int) (hX : 0 ≤ X ∧ X ≤ 100000000) (M0 : JM) (hH0 : HI X M0) (a0 : Int) (ha0 : 0 ≤ a0 ∧ a0 ≤ 5) (a1 : Int) (ha1 : 0 ≤ a1 ∧ a1 ≤ 5) : JOk shp PJ 3 91 [.inr (.inr (.inl 173)), .inl a0, .inl a1] M0 (jRi (fun v M' => M0 = M' ∧ (-18) ≤ v ∧ v ≤ 20 )) := by
 refine ⟨jr_X12_costOf, pj_X12_costOf, fun F c1 c2 c3 => ?_⟩
 have hm := pj_X12_costOf
 change F 0 [some (.inr (.inr (.inl 173))), some (.inl a0), some (.inl a1)] [] M0
 refine jx_load c1 hm rfl rfl rfl rfl ?_
 refine jx_load c1 hm rfl rfl rfl rfl ?_
 refine jx_load c1 hm rfl rfl rfl rfl ?_
 refine jx_load c1 hm rfl rfl rfl rfl ?_
 refine jx_load c1 hm rfl rfl rfl rfl ?_
 refine jx_load c1 hm rfl rfl rfl rfl ?_
 refine jv_i c3 hm rfl pj_X12_timesOf rfl rfl ⟨_, _, _, rfl, sh_173⟩ rfl ((ct_X12_timesOf_173 X (by omega) M0 hH0 a0 ⟨by omega, by omega⟩ a1 ⟨by omega, by omega⟩).le (by decide)) (fun z1 _ ⟨rfl, lz1, uz1⟩ => ?_)
 refine jv_i c3 hm rfl pj_X12_costBy rfl rfl ⟨_, _, _, rfl, sh_173⟩ rfl ((ct_X12_costBy_173 X (by omega) M0 hH0 a0 ⟨by omega, by omega⟩ a1 ⟨by omega, by omega⟩ z1 ⟨by omega, by omega⟩).le (by decide)) (fun z2 _ ⟨rfl, lz2, uz2⟩ => ?_)
 exact jx_reti c2 hm rfl rfl ⟨_, rfl, rfl, by omega, by omega⟩
def md_X12_cost_173 : List (Nat × (Nat × Nat)) := [(173, (0, 0))]
theorem ct_X12_cost_173 (X : Int) (hX : 0 ≤ X ∧ X ≤ 100000000) (M0 : JM) (hH0 : HI X M0) (a0 : Int) (ha0 : (-2147483648) ≤ a0 ∧ a0 ≤ 2147483647) (a1 : Int) (ha1 : (-2147483648) ≤ a1 ∧ a1 ≤ 2147483647) : JOk shp PJ 4 89 [.inr (.inr (.inl 173)), .inl a0, .inl a1] M0 (jRi (fun v M' => HI X M' ∧ Fr md_X12_cost_173 M0 M' ∧ (-18) ≤ v ∧ v ≤ 20 )) := by
 refine ⟨jr_X12_cost, pj_X12_cost, fun F c1 c2 c3 => ?_⟩
 have hm := pj_X12_cost
 change F 0 [some (.inr (.inr (.inl 173))), some (.inl a0), some (.inl a1)] [] M0
 have hF0 : Fr md_X12_cost_173 M0 M0 := Fr.rf _ _
 refine jx_load c1 hm rfl rfl rfl rfl ?_
 refine jy_ic c1 hm rfl (by decide) ?_
 obtain ⟨M1, e1, hH1, hF1, k1, n1, _⟩ := mup hH0 hF0 (c := 173) (i := 0) (v := 0) (A := (-2147483648)) (B := 2147483647) (bs_28_0 _ _ (by omega) (by omega)) ⟨by omega, by omega⟩ (jin_of 0 rfl ⟨by omega, by omega⟩)
 refine jm_puti c1 hm rfl sh_173 rfl e1 ?_
 refine jx_load c1 hm rfl rfl rfl rfl ?_
 refine jx_load c1 hm rfl rfl rfl rfl ?_
 refine jv_i c3 hm rfl pj_X12_isMan rfl rfl ⟨_, _, _, rfl, sh_173⟩ rfl ((ct_X12_isMan_173 X (by omega) M1 hH1 a0 ⟨by omega, by omega⟩).le (by decide)) (fun z2 _ ⟨rfl, lz2, uz2, p3⟩ => ?_)
 refine jz_eq c1 hm 30 rfl rfl (fun h4 => ?_) (fun h4 => ?_)
 ·
  refine jy_ic c1 hm rfl (by decide) ?_
  exact jx_reti c2 hm rfl rfl ⟨_, rfl, hH1, hF1, by omega, by omega⟩
 refine jx_load c1 hm rfl rfl rfl rfl ?_
 refine jx_load c1 hm rfl rfl rfl rfl ?_
 refine jv_i c3 hm rfl pj_X12_isForfeit rfl rfl ⟨_, _, _, rfl, sh_173⟩ rfl ((ct_X12_isForfeit_173 X (by omega) M1 hH1 a1 ⟨by omega, by omega⟩).le (by decide)) (fun z5 _ ⟨rfl, lz5, uz5, p6⟩ => ?_)
 refine jz_eq c1 hm 30 rfl rfl (fun h7 => ?_) (fun h7 => ?_)
 ·
  refine jy_ic c1 hm rfl (by decide) ?_
  exact jx_reti c2 hm rfl rfl ⟨_, rfl, hH1, hF1, by omega, by omega⟩
 refine jx_load c1 hm rfl rfl rfl rfl ?_
 refine jx_load c1 hm rfl rfl rfl rfl ?_
 refine jx_load c1 hm rfl rfl rfl rfl ?_
 refine jv_i c3 hm rfl pj_X12_costOf rfl rfl ⟨_, _, _, rfl, sh_173⟩ rfl ((ct_X12_costOf_173 X (by omega) M1 hH1 a0 ⟨by omega, by omega⟩ a1 ⟨by omega, by omega⟩).le (by decide)) (fun z8 _ ⟨rfl, lz8, uz8⟩ => ?_)
 refine jx_goto c1 hm 31 rfl rfl ?_
 exact jx_reti c2 hm rfl rfl ⟨_, rfl, hH1, hF1, by omega, by omega⟩
def md_X12_times_173 : List (Nat × (Nat × Nat)) := [(173, (0, 0))]
theorem ct_X12_times_173 (X : Int) (hX : 0 ≤ X ∧ X ≤ 100000000) (M0 : JM) (hH0 : HI X M0) (a0 : Int) (ha0 : (-2147483648) ≤ a0 ∧ a0 ≤ 2147483647) (a1 : Int) (ha1 : (-2147483648) ≤ a1 ∧ a1 ≤ 2147483647) : JOk shp PJ 3 194 [.inr (.inr (.inl 173)), .inl a0, .inl a1] M0 (jRi (fun v M' => HI X M' ∧ Fr md_X12_times_173 M0 M' ∧ (-1) ≤ v ∧ v ≤ 100000000 )) := by
 refine ⟨jr_X12_times, pj_X12_times, fun F c1 c2 c3 => ?_⟩
 have hm := pj_X12_times
 change F 0 [some (.inr (.inr (.inl 173))), some (.inl a0), some (.inl a1)] [] M0
 have hF0 : Fr md_X12_times_173 M0 M0 := Fr.rf _ _
 refine jx_load c1 hm rfl rfl rfl rfl ?_
 refine jy_ic c1 hm rfl (by decide) ?_
 obtain ⟨M1, e1, hH1, hF1, k1, n1, _⟩ := mup hH0 hF0 (c := 173) (i := 0) (v := 0) (A := (-2147483648)) (B := 2147483647) (bs_28_0 _ _ (by omega) (by omega)) ⟨by omega, by omega⟩ (jin_of 0 rfl ⟨by omega, by omega⟩)
 refine jm_puti c1 hm rfl sh_173 rfl e1 ?_
 refine jx_load c1 hm rfl rfl rfl rfl ?_
 refine jx_load c1 hm rfl rfl rfl rfl ?_
 refine jv_i c3 hm rfl pj_X12_isMan rfl rfl ⟨_, _, _, rfl, sh_173⟩ rfl ((ct_X12_isMan_173 X (by omega) M1 hH1 a0 ⟨by omega, by omega⟩).le (by decide)) (fun z2 _ ⟨rfl, lz2, uz2, p3⟩ => ?_)
 refine jz_eq c1 hm 30 rfl rfl (fun h4 => ?_) (fun h4 => ?_)
 ·
  refine jy_ic c1 hm rfl (by decide) ?_
  exact jx_reti c2 hm rfl rfl ⟨_, rfl, hH1, hF1, by omega, by omega⟩
 refine jx_load c1 hm rfl rfl rfl rfl ?_
 refine jx_load c1 hm rfl rfl rfl rfl ?_
 refine jv_i c3 hm rfl pj_X12_isForfeit rfl rfl ⟨_, _, _, rfl, sh_173⟩ rfl ((ct_X12_isForfeit_173 X (by omega) M1 hH1 a1 ⟨by omega, by omega⟩).le (by decide)) (fun z5 _ ⟨rfl, lz5, uz5, p6⟩ => ?_)
 refine jz_eq c1 hm 30 rfl rfl (fun h7 => ?_) (fun h7 => ?_)
 ·
  refine jy_ic c1 hm rfl (by decide) ?_
  exact jx_reti c2 hm rfl rfl ⟨_, rfl, hH1, hF1, by omega, by omega⟩
 refine jx_load c1 hm rfl rfl rfl rfl ?_
 refine jx_load c1 hm rfl rfl rfl rfl ?_
 refine jx_load c1 hm rfl rfl rfl rfl ?_
 refine jv_i c3 hm rfl pj_X12_timesOf rfl rfl ⟨_, _, _, rfl, sh_173⟩ rfl ((ct_X12_timesOf_173 X (by omega) M1 hH1 a0 ⟨by omega, by omega⟩ a1 ⟨by omega, by omega⟩).le (by decide)) (fun z8 _ ⟨rfl, lz8, uz8⟩ => ?_)
 refine jx_goto c1 hm 31 rfl rfl ?_
 exact jx_reti c2 hm rfl rfl ⟨_, rfl, hH1, hF1, by omega, by omega⟩
theorem ct_X12_isGood_173 (X : Int) (hX : 0 ≤ X ∧ X ≤ 100000000) (M0 : JM) (hH0 : HI X M0) (a0 : Int) (ha0 : (-2147483648) ≤ a0 ∧ a0 ≤ 2147483647) : JOk shp PJ 2 117 [.inr (.inr (.inl 173)), .inl a0] M0 (jRi (fun v M' => M0 = M' ∧ 0 ≤ v ∧ v ≤ 1 ∧ (v = 1 → 0 ≤ a0 ∧ a0 ≤ 5))) := by
 refine ⟨jr_X12_isGood, pj_X12_isGood, fun F c1 c2 c3 => ?_⟩
 have hm := pj_X12_isGood
 change F 0 [some (.inr (.inr (.inl 173))), some (.inl a0)] [] M0
 refine jx_load c1 hm rfl rfl rfl rfl ?_
 refine jy_ic c1 hm rfl (by decide) ?_
 refine jx_load c1 hm rfl rfl rfl rfl ?_
 refine jx_getr c1 hm rfl sh_173 rfl ?_
 refine jy_ic c1 hm rfl (by decide) ?_
 obtain ⟨z1, k2, lz1, uz1⟩ := hH0.ld (c := 175) (i := 2) (A := 0) (B := 6) (bs_11_0 _ _ (by omega) (by omega))
 refine jx_iald c1 hm rfl sh_175 ⟨by omega, by omega⟩ k2 ?_
 refine jy_ic c1 hm rfl (by decide) ?_
 refine jy_sub c1 hm (z1 - 1) rfl (by omega) ?_
 refine jt_i c3 hm rfl rfl pj_X12_isIn rfl rfl rfl ((ct_X12_isIn X (by omega) M0 hH0 a0 ⟨by omega, by omega⟩ 0 ⟨by omega, by omega⟩ (z1 - 1) ⟨by omega, by omega⟩).le (by decide)) (fun z3 _ ⟨rfl, lz3, uz3, p4⟩ => ?_)
 exact jx_retz c2 hm rfl rfl ⟨by omega, by omega⟩ ⟨_, rfl, rfl, by omega, by omega, (by omega)⟩
def md_X12_bought_173 : List (Nat × (Nat × Nat)) := [(173, (0, 0))]
theorem ct_X12_bought_173 (X : Int) (hX : 0 ≤ X ∧ X ≤ 100000000) (M0 : JM) (hH0 : HI X M0) (a0 : Int) (ha0 : (-2147483648) ≤ a0 ∧ a0 ≤ 2147483647) (a1 : Int) (ha1 : (-2147483648) ≤ a1 ∧ a1 ≤ 2147483647) : JOk shp PJ 3 84 [.inr (.inr (.inl 173)), .inl a0, .inl a1] M0 (jRi (fun v M' => HI X M' ∧ Fr md_X12_bought_173 M0 M' ∧ (-2147483648) ≤ v ∧ v ≤ 2147483647 )) := by
 refine ⟨jr_X12_bought, pj_X12_bought, fun F c1 c2 c3 => ?_⟩
 have hm := pj_X12_bought
 change F 0 [some (.inr (.inr (.inl 173))), some (.inl a0), some (.inl a1)] [] M0
 have hF0 : Fr md_X12_bought_173 M0 M0 := Fr.rf _ _
 refine jx_load c1 hm rfl rfl rfl rfl ?_
 refine jy_ic c1 hm rfl (by decide) ?_
 obtain ⟨M1, e1, hH1, hF1, k1, n1, _⟩ := mup hH0 hF0 (c := 173) (i := 0) (v := 0) (A := (-2147483648)) (B := 2147483647) (bs_28_0 _ _ (by omega) (by omega)) ⟨by omega, by omega⟩ (jin_of 0 rfl ⟨by omega, by omega⟩)
 refine jm_puti c1 hm rfl sh_173 rfl e1 ?_
 refine jx_load c1 hm rfl rfl rfl rfl ?_
 refine jx_load c1 hm rfl rfl rfl rfl ?_
 refine jv_i c3 hm rfl pj_X12_isMan rfl rfl ⟨_, _, _, rfl, sh_173⟩ rfl ((ct_X12_isMan_173 X (by omega) M1 hH1 a0 ⟨by omega, by omega⟩).le (by decide)) (fun z2 _ ⟨rfl, lz2, uz2, p3⟩ => ?_)
 refine jz_eq c1 hm 39 rfl rfl (fun h4 => ?_) (fun h4 => ?_)
 ·
  refine jy_ic c1 hm rfl (by decide) ?_
  exact jx_reti c2 hm rfl rfl ⟨_, rfl, hH1, hF1, by omega, by omega⟩
 refine jx_load c1 hm rfl rfl rfl rfl ?_
 refine jx_load c1 hm rfl rfl rfl rfl ?_
 refine jv_i c3 hm rfl pj_X12_isGood rfl rfl ⟨_, _, _, rfl, sh_173⟩ rfl ((ct_X12_isGood_173 X (by omega) M1 hH1 a1 ⟨by omega, by omega⟩).le (by decide)) (fun z5 _ ⟨rfl, lz5, uz5, p6⟩ => ?_)
 refine jz_eq c1 hm 39 rfl rfl (fun h7 => ?_) (fun h7 => ?_)
 ·
  refine jy_ic c1 hm rfl (by decide) ?_
  exact jx_reti c2 hm rfl rfl ⟨_, rfl, hH1, hF1, by omega, by omega⟩
 refine jx_load c1 hm rfl rfl rfl rfl ?_
 refine jx_getr c1 hm rfl sh_173 rfl ?_
 refine jy_sp c1 hm rfl (by decide) ?_
 refine jy_bp c1 hm rfl (by decide) ?_
 refine jx_load c1 hm rfl rfl rfl rfl ?_
 refine jy_mul c1 hm (6 * a0) rfl (by omega) ?_
 refine jy_add c1 hm (6 * a0 + 192) rfl (by omega) ?_
 refine jx_load c1 hm rfl rfl rfl rfl ?_
 refine jy_add c1 hm (6 * a0 + a1 + 192) rfl (by omega) ?_
 obtain ⟨z8, k9, lz8, uz8⟩ := hH1.ld (c := 175) (i := ((6 * a0 + a1 + 192)).toNat) (A := (-2147483648)) (B := 2147483647) (bs_11_11 _ _ (by omega) (by omega))
 refine jx_iald c1 hm rfl sh_175 ⟨by omega, by omega⟩ k9 ?_
 refine jx_goto c1 hm 40 rfl rfl ?_
 exact jx_reti c2 hm rfl rfl ⟨_, rfl, hH1, hF1, by omega, by omega⟩
def md_X12_good_173 : List (Nat × (Nat × Nat)) := [(173, (0, 0))]
theorem ct_X12_good_173 (X : Int) (hX : 0 ≤ X ∧ X ≤ 100000000) (M0 : JM) (hH0 : HI X M0) (a0 : Int) (ha0 : (-2147483648) ≤ a0 ∧ a0 ≤ 2147483647) (a1 : Int) (ha1 : (-2147483648) ≤ a1 ∧ a1 ≤ 2147483647) : JOk shp PJ 3 110 [.inr (.inr (.inl 173)), .inl a0, .inl a1] M0 (jRi (fun v M' => HI X M' ∧ Fr md_X12_good_173 M0 M' ∧ (-2147483648) ≤ v ∧ v ≤ 2147483647 )) := by
 refine ⟨jr_X12_good, pj_X12_good, fun F c1 c2 c3 => ?_⟩
 have hm := pj_X12_good
 change F 0 [some (.inr (.inr (.inl 173))), some (.inl a0), some (.inl a1)] [] M0
 have hF0 : Fr md_X12_good_173 M0 M0 := Fr.rf _ _
 refine jx_load c1 hm rfl rfl rfl rfl ?_
 refine jy_ic c1 hm rfl (by decide) ?_
 obtain ⟨M1, e1, hH1, hF1, k1, n1, _⟩ := mup hH0 hF0 (c := 173) (i := 0) (v := 0) (A := (-2147483648)) (B := 2147483647) (bs_28_0 _ _ (by omega) (by omega)) ⟨by omega, by omega⟩ (jin_of 0 rfl ⟨by omega, by omega⟩)
 refine jm_puti c1 hm rfl sh_173 rfl e1 ?_
 refine jx_load c1 hm rfl rfl rfl rfl ?_
 refine jx_load c1 hm rfl rfl rfl rfl ?_
 refine jv_i c3 hm rfl pj_X12_isGood rfl rfl ⟨_, _, _, rfl, sh_173⟩ rfl ((ct_X12_isGood_173 X (by omega) M1 hH1 a0 ⟨by omega, by omega⟩).le (by decide)) (fun z2 _ ⟨rfl, lz2, uz2, p3⟩ => ?_)
 refine jz_ne c1 hm 15 rfl rfl (fun h4 => ?_) (fun h4 => ?_)
 ·
  refine jx_load c1 hm rfl rfl rfl rfl ?_
  refine jz_ne c1 hm 31 rfl rfl (fun h5 => ?_) (fun h5 => ?_)
  ·
   refine jx_load c1 hm rfl rfl rfl rfl ?_
   refine jy_ic c1 hm rfl (by decide) ?_
   refine jc_ne c1 hm 48 rfl rfl (fun h6 => ?_) (fun h6 => ?_)
   ·
    refine jy_ic c1 hm rfl (by decide) ?_
    exact jx_reti c2 hm rfl rfl ⟨_, rfl, hH1, hF1, by omega, by omega⟩
   refine jx_load c1 hm rfl rfl rfl rfl ?_
   refine jx_getr c1 hm rfl sh_173 rfl ?_
   refine jy_bp c1 hm rfl (by decide) ?_
   refine jx_load c1 hm rfl rfl rfl rfl ?_
   refine jy_add c1 hm (a0 + 114) rfl (by omega) ?_
   obtain ⟨z7, k8, lz7, uz7⟩ := hH1.ld (c := 175) (i := ((a0 + 114)).toNat) (A := (-2147483648)) (B := 2147483647) (bs_11_9 _ _ (by omega) (by omega))
   refine jx_iald c1 hm rfl sh_175 ⟨by omega, by omega⟩ k8 ?_
   refine jx_goto c1 hm 49 rfl rfl ?_
   exact jx_reti c2 hm rfl rfl ⟨_, rfl, hH1, hF1, by omega, by omega⟩
  refine jx_load c1 hm rfl rfl rfl rfl ?_
  refine jx_getr c1 hm rfl sh_173 rfl ?_
  refine jy_bp c1 hm rfl (by decide) ?_
  refine jx_load c1 hm rfl rfl rfl rfl ?_
  refine jy_add c1 hm (a0 + 53) rfl (by omega) ?_
  obtain ⟨z9, k10, lz9, uz9⟩ := hH1.ld (c := 175) (i := ((a0 + 53)).toNat) (A := 0) (B := 99) (bs_11_5 _ _ (by omega) (by omega))
  refine jx_iald c1 hm rfl sh_175 ⟨by omega, by omega⟩ k10 ?_
  refine jx_goto c1 hm 49 rfl rfl ?_
  exact jx_reti c2 hm rfl rfl ⟨_, rfl, hH1, hF1, by omega, by omega⟩
 refine jy_ic c1 hm rfl (by decide) ?_
 exact jx_reti c2 hm rfl rfl ⟨_, rfl, hH1, hF1, by omega, by omega⟩
def md_X12_owes_173 : List (Nat × (Nat × Nat)) := [(173, (0, 0))]
theorem ct_X12_owes_173 (X : Int) (hX : 0 ≤ X ∧ X ≤ 100000000) (M0 : JM) (hH0 : HI X M0) (a0 : Int) (ha0 : (-2147483648) ≤ a0 ∧ a0 ≤ 2147483647) (a1 : Int) (ha1 : (-2147483648) ≤ a1 ∧ a1 ≤ 2147483647) : JOk shp PJ 3 143 [.inr (.inr (.inl 173)), .inl a0, .inl a1] M0 (jRi (fun v M' => HI X M' ∧ Fr md_X12_owes_173 M0 M' ∧ (-2147483648) ≤ v ∧ v ≤ 2147483647 )) := by
 refine ⟨jr_X12_owes, pj_X12_owes, fun F c1 c2 c3 => ?_⟩
 have hm := pj_X12_owes
 change F 0 [some (.inr (.inr (.inl 173))), some (.inl a0), some (.inl a1)] [] M0
 have hF0 : Fr md_X12_owes_173 M0 M0 := Fr.rf _ _
 refine jx_load c1 hm rfl rfl rfl rfl ?_
 refine jy_ic c1 hm rfl (by decide) ?_
 obtain ⟨M1, e1, hH1, hF1, k1, n1, _⟩ := mup hH0 hF0 (c := 173) (i := 0) (v := 0) (A := (-2147483648)) (B := 2147483647) (bs_28_0 _ _ (by omega) (by omega)) ⟨by omega, by omega⟩ (jin_of 0 rfl ⟨by omega, by omega⟩)
 refine jm_puti c1 hm rfl sh_173 rfl e1 ?_
 refine jx_load c1 hm rfl rfl rfl rfl ?_
 refine jx_load c1 hm rfl rfl rfl rfl ?_
 refine jv_i c3 hm rfl pj_X12_isMan rfl rfl ⟨_, _, _, rfl, sh_173⟩ rfl ((ct_X12_isMan_173 X (by omega) M1 hH1 a0 ⟨by omega, by omega⟩).le (by decide)) (fun z2 _ ⟨rfl, lz2, uz2, p3⟩ => ?_)
 refine jz_eq c1 hm 30 rfl rfl (fun h4 => ?_) (fun h4 => ?_)
 ·
  refine jy_ic c1 hm rfl (by decide) ?_
  exact jx_reti c2 hm rfl rfl ⟨_, rfl, hH1, hF1, by omega, by omega⟩
 refine jx_load c1 hm rfl rfl rfl rfl ?_
 refine jx_load c1 hm rfl rfl rfl rfl ?_
 refine jv_i c3 hm rfl pj_X12_isMan rfl rfl ⟨_, _, _, rfl, sh_173⟩ rfl ((ct_X12_isMan_173 X (by omega) M1 hH1 a1 ⟨by omega, by omega⟩).le (by decide)) (fun z5 _ ⟨rfl, lz5, uz5, p6⟩ => ?_)
 refine jz_eq c1 hm 30 rfl rfl (fun h7 => ?_) (fun h7 => ?_)
 ·
  refine jy_ic c1 hm rfl (by decide) ?_
  exact jx_reti c2 hm rfl rfl ⟨_, rfl, hH1, hF1, by omega, by omega⟩
 refine jx_load c1 hm rfl rfl rfl rfl ?_
 refine jx_load c1 hm rfl rfl rfl rfl ?_
 refine jx_load c1 hm rfl rfl rfl rfl ?_
 refine jv_i c3 hm rfl pj_X12_owesOf rfl rfl ⟨_, _, _, rfl, sh_173⟩ rfl ((ct_X12_owesOf_173 X (by omega) M1 hH1 a0 ⟨by omega, by omega⟩ a1 ⟨by omega, by omega⟩).le (by decide)) (fun z8 _ ⟨rfl, lz8, uz8⟩ => ?_)
 refine jx_goto c1 hm 31 rfl rfl ?_
 exact jx_reti c2 hm rfl rfl ⟨_, rfl, hH1, hF1, by omega, by omega⟩
def md_X12_now_173 : List (Nat × (Nat × Nat)) := [(173, (0, 0))]
theorem ct_X12_now_173 (X : Int) (hX : 0 ≤ X ∧ X ≤ 100000000) (M0 : JM) (hH0 : HI X M0) (a0 : Int) (ha0 : (-2147483648) ≤ a0 ∧ a0 ≤ 2147483647) : JOk shp PJ 2 138 [.inr (.inr (.inl 173)), .inl a0] M0 (jRi (fun v M' => HI X M' ∧ Fr md_X12_now_173 M0 M' ∧ (-2147483648) ≤ v ∧ v ≤ 2147483647 )) := by
 refine ⟨jr_X12_now, pj_X12_now, fun F c1 c2 c3 => ?_⟩
 have hm := pj_X12_now
 change F 0 [some (.inr (.inr (.inl 173))), some (.inl a0)] [] M0
 have hF0 : Fr md_X12_now_173 M0 M0 := Fr.rf _ _
 refine jx_load c1 hm rfl rfl rfl rfl ?_
 refine jy_ic c1 hm rfl (by decide) ?_
 obtain ⟨M1, e1, hH1, hF1, k1, n1, _⟩ := mup hH0 hF0 (c := 173) (i := 0) (v := 0) (A := (-2147483648)) (B := 2147483647) (bs_28_0 _ _ (by omega) (by omega)) ⟨by omega, by omega⟩ (jin_of 0 rfl ⟨by omega, by omega⟩)
 refine jm_puti c1 hm rfl sh_173 rfl e1 ?_
 refine jx_load c1 hm rfl rfl rfl rfl ?_
 by_cases h2 : a0 = 0
 ·
  refine jx_tswI c1 hm 44 rfl ⟨by omega, by omega⟩ (by rw [h2]; rfl) rfl ?_
  refine jx_load c1 hm rfl rfl rfl rfl ?_
  refine jx_getr c1 hm rfl sh_173 rfl ?_
  refine jy_bp c1 hm rfl (by decide) ?_
  obtain ⟨z3, k4, lz3, uz3⟩ := hH1.ld (c := 175) (i := 101) (A := (-2147483648)) (B := 2147483647) (bs_11_7 _ _ (by omega) (by omega))
  refine jx_iald c1 hm rfl sh_175 ⟨by omega, by omega⟩ k4 ?_
  exact jx_reti c2 hm rfl rfl ⟨_, rfl, hH1, hF1, by omega, by omega⟩
 by_cases h5 : a0 = 1
 ·
  refine jx_tswI c1 hm 52 rfl ⟨by omega, by omega⟩ (by rw [h5]; rfl) rfl ?_
  refine jx_load c1 hm rfl rfl rfl rfl ?_
  refine jy_bp c1 hm rfl (by decide) ?_
  refine jy_bp c1 hm rfl (by decide) ?_
  refine jv_i c3 hm rfl pj_X12_sumOf rfl rfl ⟨_, _, _, rfl, sh_173⟩ rfl ((ct_X12_sumOf_173 X (by omega) M1 hH1 102 ⟨by omega, by omega⟩ 6 ⟨by omega, by omega⟩).le (by decide)) (fun z6 _ ⟨rfl, lz6, uz6⟩ => ?_)
  exact jx_reti c2 hm rfl rfl ⟨_, rfl, hH1, hF1, by omega, by omega⟩
 by_cases h7 : a0 = 2
 ·
  refine jx_tswI c1 hm 61 rfl ⟨by omega, by omega⟩ (by rw [h7]; rfl) rfl ?_
  refine jx_load c1 hm rfl rfl rfl rfl ?_
  refine jy_bp c1 hm rfl (by decide) ?_
  refine jy_bp c1 hm rfl (by decide) ?_
  refine jv_i c3 hm rfl pj_X12_sumOf rfl rfl ⟨_, _, _, rfl, sh_173⟩ rfl ((ct_X12_sumOf_173 X (by omega) M1 hH1 108 ⟨by omega, by omega⟩ 6 ⟨by omega, by omega⟩).le (by decide)) (fun z8 _ ⟨rfl, lz8, uz8⟩ => ?_)
  exact jx_reti c2 hm rfl rfl ⟨_, rfl, hH1, hF1, by omega, by omega⟩
 by_cases h9 : a0 = 3
 ·
  refine jx_tswI c1 hm 70 rfl ⟨by omega, by omega⟩ (by rw [h9]; rfl) rfl ?_
  refine jx_load c1 hm rfl rfl rfl rfl ?_
  refine jy_bp c1 hm rfl (by decide) ?_
  refine jy_bp c1 hm rfl (by decide) ?_
  refine jv_i c3 hm rfl pj_X12_sumOf rfl rfl ⟨_, _, _, rfl, sh_173⟩ rfl ((ct_X12_sumOf_173 X (by omega) M1 hH1 120 ⟨by omega, by omega⟩ 36 ⟨by omega, by omega⟩).le (by decide)) (fun z10 _ ⟨rfl, lz10, uz10⟩ => ?_)
  exact jx_reti c2 hm rfl rfl ⟨_, rfl, hH1, hF1, by omega, by omega⟩
 by_cases h11 : a0 = 4
 ·
  refine jx_tswI c1 hm 79 rfl ⟨by omega, by omega⟩ (by rw [h11]; rfl) rfl ?_
  refine jx_load c1 hm rfl rfl rfl rfl ?_
  refine jy_sp c1 hm rfl (by decide) ?_
  refine jy_bp c1 hm rfl (by decide) ?_
  refine jv_i c3 hm rfl pj_X12_sumOf rfl rfl ⟨_, _, _, rfl, sh_173⟩ rfl ((ct_X12_sumOf_173 X (by omega) M1 hH1 156 ⟨by omega, by omega⟩ 36 ⟨by omega, by omega⟩).le (by decide)) (fun z12 _ ⟨rfl, lz12, uz12⟩ => ?_)
  exact jx_reti c2 hm rfl rfl ⟨_, rfl, hH1, hF1, by omega, by omega⟩
 by_cases h13 : a0 = 5
 ·
  refine jx_tswI c1 hm 89 rfl ⟨by omega, by omega⟩ (by rw [h13]; rfl) rfl ?_
  refine jx_load c1 hm rfl rfl rfl rfl ?_
  refine jy_sp c1 hm rfl (by decide) ?_
  refine jy_bp c1 hm rfl (by decide) ?_
  refine jv_i c3 hm rfl pj_X12_sumOf rfl rfl ⟨_, _, _, rfl, sh_173⟩ rfl ((ct_X12_sumOf_173 X (by omega) M1 hH1 192 ⟨by omega, by omega⟩ 36 ⟨by omega, by omega⟩).le (by decide)) (fun z14 _ ⟨rfl, lz14, uz14⟩ => ?_)
  exact jx_reti c2 hm rfl rfl ⟨_, rfl, hH1, hF1, by omega, by omega⟩
 refine jx_tswO c1 hm 99 rfl (by omega) rfl ?_
 refine jy_ic c1 hm rfl (by decide) ?_
 exact jx_reti c2 hm rfl rfl ⟨_, rfl, hH1, hF1, by omega, by omega⟩
def md_X12_undo_173 : List (Nat × (Nat × Nat)) := [(173, (0, 0)), (173, (23, 23)), (175, (0, 475))]
theorem ct_X12_undo_173 (X : Int) (hX : 0 ≤ X ∧ X ≤ 100000000) (M0 : JM) (hH0 : HI X M0)  : JOk shp PJ 1 198 [.inr (.inr (.inl 173))] M0 (jRi (fun v M' => HI X M' ∧ Fr md_X12_undo_173 M0 M' ∧ (-1) ≤ v ∧ v ≤ 7 )) := by
 refine ⟨jr_X12_undo, pj_X12_undo, fun F c1 c2 c3 => ?_⟩
 have hm := pj_X12_undo
 change F 0 [some (.inr (.inr (.inl 173))), none] [] M0
 have hF0 : Fr md_X12_undo_173 M0 M0 := Fr.rf _ _
 refine jx_load c1 hm rfl rfl rfl rfl ?_
 refine jy_ic c1 hm rfl (by decide) ?_
 obtain ⟨M1, e1, hH1, hF1, k1, n1, _⟩ := mup hH0 hF0 (c := 173) (i := 0) (v := 0) (A := (-2147483648)) (B := 2147483647) (bs_28_0 _ _ (by omega) (by omega)) ⟨by omega, by omega⟩ (jin_of 0 rfl ⟨by omega, by omega⟩)
 refine jm_puti c1 hm rfl sh_173 rfl e1 ?_
 refine jx_load c1 hm rfl rfl rfl rfl ?_
 obtain ⟨z2, k3, lz2, uz2⟩ := hH1.ld (c := 173) (i := 23) (A := 0) (B := 8) (bs_28_8 _ _ (by omega) (by omega))
 refine jx_geti c1 hm rfl sh_173 rfl k3 ?_
 refine jz_ne c1 hm 14 rfl rfl (fun h4 => ?_) (fun h4 => ?_)
 ·
  refine jx_load c1 hm rfl rfl rfl rfl ?_
  refine jx_dup c1 hm rfl rfl ?_
  refine jx_geti c1 hm rfl sh_173 rfl k3 ?_
  refine jy_ic c1 hm rfl (by decide) ?_
  refine jy_sub c1 hm (z2 - 1) rfl (by omega) ?_
  obtain ⟨M5, e5, hH5, hF5, k5, n5, _⟩ := mup hH1 hF1 (c := 173) (i := 23) (v := (z2 - 1)) (A := 0) (B := 8) (bs_28_8 _ _ (by omega) (by omega)) ⟨by omega, by omega⟩ (jin_of 1 rfl ⟨by omega, by omega⟩)
  refine jm_puti c1 hm rfl sh_173 rfl e5 ?_
  refine jy_ic c1 hm rfl (by decide) ?_
  refine jx_stor c1 hm (L' := [some (.inr (.inr (.inl 173))), some (.inl 0)]) rfl rfl rfl rfl rfl ?_
  have W11 : ∀ (n12 : Nat) (b6 : Int) (hb6 : 0 ≤ b6 ∧ b6 ≤ 133) (M7 : JM) (hH7 : HI (X) M7) (hF7 : Fr md_X12_undo_173 M0 M7) (k9 : M7.1 173 0 = 0) (k10 : M7.1 173 23 = (z2 - 1)), (-b6 + 133) < (n12 : Int) → F 26 [some (.inr (.inr (.inl 173))), some (.inl b6)] [] M7 := by
   intro n12
   induction n12 with
   | zero => intros; omega
   | succ n12 ihW11 =>
    intro b6 hb6 M7 hH7 hF7 k9 k10 hrW11
    refine jx_load c1 hm rfl rfl rfl rfl ?_
    refine jy_sp c1 hm rfl (by decide) ?_
    refine jc_ge c1 hm 63 rfl rfl (fun h13 => ?_) (fun h13 => ?_)
    ·
     refine jx_load c1 hm rfl rfl rfl rfl ?_
     refine jx_geti c1 hm rfl sh_173 rfl k10 ?_
     exact jx_reti c2 hm rfl rfl ⟨_, rfl, hH7, hF7, by omega, by omega⟩
    refine jx_load c1 hm rfl rfl rfl rfl ?_
    refine jx_getr c1 hm rfl sh_173 rfl ?_
    refine jy_bp c1 hm rfl (by decide) ?_
    refine jx_load c1 hm rfl rfl rfl rfl ?_
    refine jy_add c1 hm (b6 + 101) rfl (by omega) ?_
    refine jx_load c1 hm rfl rfl rfl rfl ?_
    refine jx_getr c1 hm rfl sh_173 rfl ?_
    refine jy_sp c1 hm rfl (by decide) ?_
    refine jx_load c1 hm rfl rfl rfl rfl ?_
    refine jx_geti c1 hm rfl sh_173 rfl k10 ?_
    refine jy_mul c1 hm (133 * z2 - 133) rfl (by omega) ?_
    refine jx_load c1 hm rfl rfl rfl rfl ?_
    refine jy_add c1 hm (b6 + 133 * z2 - 133) rfl (by omega) ?_
    obtain ⟨z14, k15, lz14, uz14⟩ := hH7.any (by omega) (by omega) 178 ((b6 + 133 * z2 - 133)).toNat
    refine jx_iald c1 hm rfl sh_178 ⟨by omega, by omega⟩ k15 ?_
    obtain ⟨M16, e16, hH16, hF16, k16, n16, _⟩ := mupc hH7 hF7 hH7 (c := 175) (i := ((b6 + 101)).toNat) (c1 := 178) (i1 := ((b6 + 133 * z2 - 133)).toNat) (v := z14) k15 ((cso (by omega)).symm) (jin_of 2 rfl ⟨by omega, by omega⟩)
    refine jm_iast c1 hm rfl sh_175 ⟨by omega, by omega⟩ e16 ?_
    refine jx_iinc c1 hm (v := (b6 + 1)) (L' := [some (.inr (.inr (.inl 173))), some (.inl (b6 + 1))]) rfl rfl (by omega) (by omega) rfl ?_
    refine jx_goto c1 hm 26 rfl rfl ?_
    have k17 : M16.1 173 0 = 0 := (n16 173 0 (fun h => absurd h.1 (by decide))).trans k9
    have k18 : M16.1 173 23 = (z2 - 1) := (n16 173 23 (fun h => absurd h.1 (by decide))).trans k10
    exact ihW11 (b6 + 1) (by omega) M16 hH16 hF16 k17 k18 (by omega)
  have k8 : M5.1 173 0 = 0 := (n5 173 0 (by decide)).trans k1
  exact W11 (133 + 1 : Int).toNat 0 (by omega) M5 hH5 hF5 k8 k5 (by omega)
 refine jy_ic c1 hm rfl (by decide) ?_
 exact jx_reti c2 hm rfl rfl ⟨_, rfl, hH1, hF1, by omega, by omega⟩
def md_X12_ringAt_173 : List (Nat × (Nat × Nat)) := [(173, (0, 0))]
theorem ct_X12_ringAt_173 (X : Int) (hX : 0 ≤ X ∧ X ≤ 100000000) (M0 : JM) (hH0 : HI X M0) (a0 : Int) (ha0 : (-2147483648) ≤ a0 ∧ a0 ≤ 2147483647) : JOk shp PJ 2 177 [.inr (.inr (.inl 173)), .inl a0] M0 (jRi (fun v M' => HI X M' ∧ Fr md_X12_ringAt_173 M0 M' ∧ (-1) ≤ v ∧ v ≤ 5 )) := by
 refine ⟨jr_X12_ringAt, pj_X12_ringAt, fun F c1 c2 c3 => ?_⟩
 have hm := pj_X12_ringAt
 change F 0 [some (.inr (.inr (.inl 173))), some (.inl a0)] [] M0
 have hF0 : Fr md_X12_ringAt_173 M0 M0 := Fr.rf _ _
 refine jx_load c1 hm rfl rfl rfl rfl ?_
 refine jy_ic c1 hm rfl (by decide) ?_
 obtain ⟨M1, e1, hH1, hF1, k1, n1, _⟩ := mup hH0 hF0 (c := 173) (i := 0) (v := 0) (A := (-2147483648)) (B := 2147483647) (bs_28_0 _ _ (by omega) (by omega)) ⟨by omega, by omega⟩ (jin_of 0 rfl ⟨by omega, by omega⟩)
 refine jm_puti c1 hm rfl sh_173 rfl e1 ?_
 refine jx_load c1 hm rfl rfl rfl rfl ?_
 refine jy_ic c1 hm rfl (by decide) ?_
 refine jx_load c1 hm rfl rfl rfl rfl ?_
 obtain ⟨z2, k3, lz2, uz2⟩ := hH1.ld (c := 173) (i := 28) (A := 0) (B := 6) (bs_28_11 _ _ (by omega) (by omega))
 refine jx_geti c1 hm rfl sh_173 rfl k3 ?_
 refine jy_ic c1 hm rfl (by decide) ?_
 refine jy_sub c1 hm (z2 - 1) rfl (by omega) ?_
 refine jt_i c3 hm rfl rfl pj_X12_isIn rfl rfl rfl ((ct_X12_isIn X (by omega) M1 hH1 a0 ⟨by omega, by omega⟩ 0 ⟨by omega, by omega⟩ (z2 - 1) ⟨by omega, by omega⟩).le (by decide)) (fun z4 _ ⟨rfl, lz4, uz4, p5⟩ => ?_)
 refine jz_eq c1 hm 28 rfl rfl (fun h6 => ?_) (fun h6 => ?_)
 ·
  refine jy_ic c1 hm rfl (by decide) ?_
  exact jx_reti c2 hm rfl rfl ⟨_, rfl, hH1, hF1, by omega, by omega⟩
 refine jx_load c1 hm rfl rfl rfl rfl ?_
 refine jx_getr c1 hm rfl sh_173 rfl ?_
 refine jx_load c1 hm rfl rfl rfl rfl ?_
 obtain ⟨z7, k8, lz7, uz7⟩ := hH1.ld (c := 185) (i := (a0).toNat) (A := 0) (B := 5) rfl
 refine jx_iald c1 hm rfl sh_185 ⟨by omega, by omega⟩ k8 ?_
 refine jx_goto c1 hm 29 rfl rfl ?_
 exact jx_reti c2 hm rfl rfl ⟨_, rfl, hH1, hF1, by omega, by omega⟩
def md_X12_planned_173 : List (Nat × (Nat × Nat)) := [(173, (0, 0))]
theorem ct_X12_planned_173 (X : Int) (hX : 0 ≤ X ∧ X ≤ 100000000) (M0 : JM) (hH0 : HI X M0) (a0 : Int) (ha0 : (-2147483648) ≤ a0 ∧ a0 ≤ 2147483647) : JOk shp PJ 2 149 [.inr (.inr (.inl 173)), .inl a0] M0 (jRi (fun v M' => HI X M' ∧ Fr md_X12_planned_173 M0 M' ∧ (-2147483648) ≤ v ∧ v ≤ 2147483647 )) := by
 refine ⟨jr_X12_planned, pj_X12_planned, fun F c1 c2 c3 => ?_⟩
 have hm := pj_X12_planned
 change F 0 [some (.inr (.inr (.inl 173))), some (.inl a0)] [] M0
 have hF0 : Fr md_X12_planned_173 M0 M0 := Fr.rf _ _
 refine jx_load c1 hm rfl rfl rfl rfl ?_
 refine jy_ic c1 hm rfl (by decide) ?_
 obtain ⟨M1, e1, hH1, hF1, k1, n1, _⟩ := mup hH0 hF0 (c := 173) (i := 0) (v := 0) (A := (-2147483648)) (B := 2147483647) (bs_28_0 _ _ (by omega) (by omega)) ⟨by omega, by omega⟩ (jin_of 0 rfl ⟨by omega, by omega⟩)
 refine jm_puti c1 hm rfl sh_173 rfl e1 ?_
 refine jx_load c1 hm rfl rfl rfl rfl ?_
 obtain ⟨z2, k3, lz2, uz2⟩ := hH1.ld (c := 173) (i := 32) (A := 0) (B := 1) (bs_28_14 _ _ (by omega) (by omega))
 refine jx_getz c1 hm rfl sh_173 rfl k3 ?_
 refine jz_eq c1 hm 35 rfl rfl (fun h4 => ?_) (fun h4 => ?_)
 ·
  refine jy_ic c1 hm rfl (by decide) ?_
  exact jx_reti c2 hm rfl rfl ⟨_, rfl, hH1, hF1, by omega, by omega⟩
 refine jx_load c1 hm rfl rfl rfl rfl ?_
 refine jy_ic c1 hm rfl (by decide) ?_
 refine jx_load c1 hm rfl rfl rfl rfl ?_
 obtain ⟨z5, k6, lz5, uz5⟩ := hH1.ld (c := 173) (i := 31) (A := 0) (B := 6) (bs_28_13 _ _ (by omega) (by omega))
 refine jx_geti c1 hm rfl sh_173 rfl k6 ?_
 refine jy_ic c1 hm rfl (by decide) ?_
 refine jy_sub c1 hm (z5 - 1) rfl (by omega) ?_
 refine jt_i c3 hm rfl rfl pj_X12_isIn rfl rfl rfl ((ct_X12_isIn X (by omega) M1 hH1 a0 ⟨by omega, by omega⟩ 0 ⟨by omega, by omega⟩ (z5 - 1) ⟨by omega, by omega⟩).le (by decide)) (fun z7 _ ⟨rfl, lz7, uz7, p8⟩ => ?_)
 refine jz_eq c1 hm 35 rfl rfl (fun h9 => ?_) (fun h9 => ?_)
 ·
  refine jy_ic c1 hm rfl (by decide) ?_
  exact jx_reti c2 hm rfl rfl ⟨_, rfl, hH1, hF1, by omega, by omega⟩
 refine jx_load c1 hm rfl rfl rfl rfl ?_
 refine jx_getr c1 hm rfl sh_173 rfl ?_
 refine jx_load c1 hm rfl rfl rfl rfl ?_
 obtain ⟨z10, k11, lz10, uz10⟩ := hH1.ld (c := 187) (i := (a0).toNat) (A := (-2147483648)) (B := 2147483647) rfl
 refine jx_iald c1 hm rfl sh_187 ⟨by omega, by omega⟩ k11 ?_
 refine jx_goto c1 hm 36 rfl rfl ?_
 exact jx_reti c2 hm rfl rfl ⟨_, rfl, hH1, hF1, by omega, by omega⟩
def md_X12_tells_173 : List (Nat × (Nat × Nat)) := [(173, (0, 0))]
theorem ct_X12_tells_173 (X : Int) (hX : 0 ≤ X ∧ X ≤ 100000000) (M0 : JM) (hH0 : HI X M0)  : JOk shp PJ 1 193 [.inr (.inr (.inl 173))] M0 (jRi (fun v M' => HI X M' ∧ Fr md_X12_tells_173 M0 M' ∧ (-2147483648) ≤ v ∧ v ≤ 2147483647 )) := by
 refine ⟨jr_X12_tells, pj_X12_tells, fun F c1 c2 c3 => ?_⟩
 have hm := pj_X12_tells
 change F 0 [some (.inr (.inr (.inl 173)))] [] M0
 have hF0 : Fr md_X12_tells_173 M0 M0 := Fr.rf _ _
 refine jx_load c1 hm rfl rfl rfl rfl ?_
 refine jy_ic c1 hm rfl (by decide) ?_
 obtain ⟨M1, e1, hH1, hF1, k1, n1, _⟩ := mup hH0 hF0 (c := 173) (i := 0) (v := 0) (A := (-2147483648)) (B := 2147483647) (bs_28_0 _ _ (by omega) (by omega)) ⟨by omega, by omega⟩ (jin_of 0 rfl ⟨by omega, by omega⟩)
 refine jm_puti c1 hm rfl sh_173 rfl e1 ?_
 refine jx_load c1 hm rfl rfl rfl rfl ?_
 obtain ⟨z2, k3, lz2, uz2⟩ := hH1.ld (c := 173) (i := 35) (A := (-2147483648)) (B := 2147483647) (bs_28_15 _ _ (by omega) (by omega))
 refine jx_geti c1 hm rfl sh_173 rfl k3 ?_
 exact jx_reti c2 hm rfl rfl ⟨_, rfl, hH1, hF1, by omega, by omega⟩
def md_X12_taxOf_173 : List (Nat × (Nat × Nat)) := [(173, (0, 0))]
theorem ct_X12_taxOf_173 (X : Int) (hX : 0 ≤ X ∧ X ≤ 100000000) (M0 : JM) (hH0 : HI X M0) (a0 : Int) (ha0 : (-2147483648) ≤ a0 ∧ a0 ≤ 2147483647) : JOk shp PJ 2 192 [.inr (.inr (.inl 173)), .inl a0] M0 (jRi (fun v M' => HI X M' ∧ Fr md_X12_taxOf_173 M0 M' ∧ (-2147483648) ≤ v ∧ v ≤ 2147483647 )) := by
 refine ⟨jr_X12_taxOf, pj_X12_taxOf, fun F c1 c2 c3 => ?_⟩
 have hm := pj_X12_taxOf
 change F 0 [some (.inr (.inr (.inl 173))), some (.inl a0)] [] M0
 have hF0 : Fr md_X12_taxOf_173 M0 M0 := Fr.rf _ _
 refine jx_load c1 hm rfl rfl rfl rfl ?_
 refine jy_ic c1 hm rfl (by decide) ?_
 obtain ⟨M1, e1, hH1, hF1, k1, n1, _⟩ := mup hH0 hF0 (c := 173) (i := 0) (v := 0) (A := (-2147483648)) (B := 2147483647) (bs_28_0 _ _ (by omega) (by omega)) ⟨by omega, by omega⟩ (jin_of 0 rfl ⟨by omega, by omega⟩)
 refine jm_puti c1 hm rfl sh_173 rfl e1 ?_
 refine jx_load c1 hm rfl rfl rfl rfl ?_
 obtain ⟨z2, k3, lz2, uz2⟩ := hH1.ld (c := 173) (i := 40) (A := 0) (B := 1) (bs_28_16 _ _ (by omega) (by omega))
 refine jx_getz c1 hm rfl sh_173 rfl k3 ?_
 refine jz_eq c1 hm 30 rfl rfl (fun h4 => ?_) (fun h4 => ?_)
 ·
  refine jy_ic c1 hm rfl (by decide) ?_
  exact jx_reti c2 hm rfl rfl ⟨_, rfl, hH1, hF1, by omega, by omega⟩
 refine jx_load c1 hm rfl rfl rfl rfl ?_
 refine jy_ic c1 hm rfl (by decide) ?_
 refine jy_ic c1 hm rfl (by decide) ?_
 refine jt_i c3 hm rfl rfl pj_X12_isIn rfl rfl rfl ((ct_X12_isIn X (by omega) M1 hH1 a0 ⟨by omega, by omega⟩ 0 ⟨by omega, by omega⟩ 5 ⟨by omega, by omega⟩).le (by decide)) (fun z5 _ ⟨rfl, lz5, uz5, p6⟩ => ?_)
 refine jz_eq c1 hm 30 rfl rfl (fun h7 => ?_) (fun h7 => ?_)
 ·
  refine jy_ic c1 hm rfl (by decide) ?_
  exact jx_reti c2 hm rfl rfl ⟨_, rfl, hH1, hF1, by omega, by omega⟩
 refine jx_load c1 hm rfl rfl rfl rfl ?_
 refine jx_getr c1 hm rfl sh_173 rfl ?_
 refine jx_load c1 hm rfl rfl rfl rfl ?_
 obtain ⟨z8, k9, lz8, uz8⟩ := hH1.ld (c := 193) (i := (a0).toNat) (A := (-2147483648)) (B := 2147483647) rfl
 refine jx_iald c1 hm rfl sh_193 ⟨by omega, by omega⟩ k9 ?_
 refine jx_goto c1 hm 31 rfl rfl ?_
 exact jx_reti c2 hm rfl rfl ⟨_, rfl, hH1, hF1, by omega, by omega⟩
def md_X12_byteAt_173 : List (Nat × (Nat × Nat)) := [(173, (0, 0))]
theorem ct_X12_byteAt_173 (X : Int) (hX : 0 ≤ X ∧ X ≤ 100000000) (M0 : JM) (hH0 : HI X M0) (a0 : Int) (ha0 : (-2147483648) ≤ a0 ∧ a0 ≤ 2147483647) : JOk shp PJ 2 86 [.inr (.inr (.inl 173)), .inl a0] M0 (jRi (fun v M' => HI X M' ∧ Fr md_X12_byteAt_173 M0 M' ∧ (-2147483648) ≤ v ∧ v ≤ 2147483647 )) := by
 refine ⟨jr_X12_byteAt, pj_X12_byteAt, fun F c1 c2 c3 => ?_⟩
 have hm := pj_X12_byteAt
 change F 0 [some (.inr (.inr (.inl 173))), some (.inl a0)] [] M0
 have hF0 : Fr md_X12_byteAt_173 M0 M0 := Fr.rf _ _
 refine jx_load c1 hm rfl rfl rfl rfl ?_
 refine jy_ic c1 hm rfl (by decide) ?_
 obtain ⟨M1, e1, hH1, hF1, k1, n1, _⟩ := mup hH0 hF0 (c := 173) (i := 0) (v := 0) (A := (-2147483648)) (B := 2147483647) (bs_28_0 _ _ (by omega) (by omega)) ⟨by omega, by omega⟩ (jin_of 0 rfl ⟨by omega, by omega⟩)
 refine jm_puti c1 hm rfl sh_173 rfl e1 ?_
 refine jx_load c1 hm rfl rfl rfl rfl ?_
 refine jy_ic c1 hm rfl (by decide) ?_
 refine jx_load c1 hm rfl rfl rfl rfl ?_
 obtain ⟨z2, k3, lz2, uz2⟩ := hH1.ld (c := 173) (i := 42) (A := 0) (B := 64) (bs_28_18 _ _ (by omega) (by omega))
 refine jx_geti c1 hm rfl sh_173 rfl k3 ?_
 refine jy_ic c1 hm rfl (by decide) ?_
 refine jy_sub c1 hm (z2 - 1) rfl (by omega) ?_
 refine jt_i c3 hm rfl rfl pj_X12_isIn rfl rfl rfl ((ct_X12_isIn X (by omega) M1 hH1 a0 ⟨by omega, by omega⟩ 0 ⟨by omega, by omega⟩ (z2 - 1) ⟨by omega, by omega⟩).le (by decide)) (fun z4 _ ⟨rfl, lz4, uz4, p5⟩ => ?_)
 refine jz_eq c1 hm 28 rfl rfl (fun h6 => ?_) (fun h6 => ?_)
 ·
  refine jy_ic c1 hm rfl (by decide) ?_
  exact jx_reti c2 hm rfl rfl ⟨_, rfl, hH1, hF1, by omega, by omega⟩
 refine jx_load c1 hm rfl rfl rfl rfl ?_
 refine jx_getr c1 hm rfl sh_173 rfl ?_
 refine jx_load c1 hm rfl rfl rfl rfl ?_
 obtain ⟨z7, k8, lz7, uz7⟩ := hH1.ld (c := 194) (i := (a0).toNat) (A := (-2147483648)) (B := 2147483647) rfl
 refine jx_iald c1 hm rfl sh_194 ⟨by omega, by omega⟩ k8 ?_
 refine jx_goto c1 hm 29 rfl rfl ?_
 exact jx_reti c2 hm rfl rfl ⟨_, rfl, hH1, hF1, by omega, by omega⟩
def md_X12_told_173 : List (Nat × (Nat × Nat)) := [(173, (0, 0))]
theorem ct_X12_told_173 (X : Int) (hX : 0 ≤ X ∧ X ≤ 100000000) (M0 : JM) (hH0 : HI X M0) (a0 : Int) (ha0 : (-2147483648) ≤ a0 ∧ a0 ≤ 2147483647) : JOk shp PJ 2 196 [.inr (.inr (.inl 173)), .inl a0] M0 (jRi (fun v M' => HI X M' ∧ Fr md_X12_told_173 M0 M' ∧ (-2147483648) ≤ v ∧ v ≤ 2147483647 )) := by
 refine ⟨jr_X12_told, pj_X12_told, fun F c1 c2 c3 => ?_⟩
 have hm := pj_X12_told
 change F 0 [some (.inr (.inr (.inl 173))), some (.inl a0)] [] M0
 have hF0 : Fr md_X12_told_173 M0 M0 := Fr.rf _ _
 refine jx_load c1 hm rfl rfl rfl rfl ?_
 refine jy_ic c1 hm rfl (by decide) ?_
 obtain ⟨M1, e1, hH1, hF1, k1, n1, _⟩ := mup hH0 hF0 (c := 173) (i := 0) (v := 0) (A := (-2147483648)) (B := 2147483647) (bs_28_0 _ _ (by omega) (by omega)) ⟨by omega, by omega⟩ (jin_of 0 rfl ⟨by omega, by omega⟩)
 refine jm_puti c1 hm rfl sh_173 rfl e1 ?_
 refine jx_load c1 hm rfl rfl rfl rfl ?_
 obtain ⟨z2, k3, lz2, uz2⟩ := hH1.ld (c := 173) (i := 47) (A := 0) (B := 1) (bs_28_21 _ _ (by omega) (by omega))
 refine jx_getz c1 hm rfl sh_173 rfl k3 ?_
 refine jz_eq c1 hm 30 rfl rfl (fun h4 => ?_) (fun h4 => ?_)
 ·
  refine jy_ic c1 hm rfl (by decide) ?_
  exact jx_reti c2 hm rfl rfl ⟨_, rfl, hH1, hF1, by omega, by omega⟩
 refine jx_load c1 hm rfl rfl rfl rfl ?_
 refine jy_ic c1 hm rfl (by decide) ?_
 refine jy_ic c1 hm rfl (by decide) ?_
 refine jt_i c3 hm rfl rfl pj_X12_isIn rfl rfl rfl ((ct_X12_isIn X (by omega) M1 hH1 a0 ⟨by omega, by omega⟩ 0 ⟨by omega, by omega⟩ 3 ⟨by omega, by omega⟩).le (by decide)) (fun z5 _ ⟨rfl, lz5, uz5, p6⟩ => ?_)
 refine jz_eq c1 hm 30 rfl rfl (fun h7 => ?_) (fun h7 => ?_)
 ·
  refine jy_ic c1 hm rfl (by decide) ?_
  exact jx_reti c2 hm rfl rfl ⟨_, rfl, hH1, hF1, by omega, by omega⟩
 refine jx_load c1 hm rfl rfl rfl rfl ?_
 refine jx_getr c1 hm rfl sh_173 rfl ?_
 refine jx_load c1 hm rfl rfl rfl rfl ?_
 obtain ⟨z8, k9, lz8, uz8⟩ := hH1.ld (c := 196) (i := (a0).toNat) (A := (-2147483648)) (B := 2147483647) rfl
 refine jx_iald c1 hm rfl sh_196 ⟨by omega, by omega⟩ k9 ?_
 refine jx_goto c1 hm 31 rfl rfl ?_
 exact jx_reti c2 hm rfl rfl ⟨_, rfl, hH1, hF1, by omega, by omega⟩
def md_X12_image_173 : List (Nat × (Nat × Nat)) := [(173, (0, 0)), (177, (0, 951)), (183, (0, 1))]
theorem ct_X12_image_173 (X : Int) (hX : 0 ≤ X ∧ X ≤ 100000000) (M0 : JM) (hH0 : HI X M0) (a0 : Int) (ha0 : (-2147483648) ≤ a0 ∧ a0 ≤ 2147483647) : JOk shp PJ 2 114 [.inr (.inr (.inl 173)), .inl a0] M0 (jRi (fun v M' => HI X M' ∧ Fr md_X12_image_173 M0 M' ∧ 0 ≤ v ∧ v ≤ 1 )) := by
 refine ⟨jr_X12_image, pj_X12_image, fun F c1 c2 c3 => ?_⟩
 have hm := pj_X12_image
 change F 0 [some (.inr (.inr (.inl 173))), some (.inl a0), none] [] M0
 have hF0 : Fr md_X12_image_173 M0 M0 := Fr.rf _ _
 refine jx_load c1 hm rfl rfl rfl rfl ?_
 refine jy_ic c1 hm rfl (by decide) ?_
 obtain ⟨M1, e1, hH1, hF1, k1, n1, _⟩ := mup hH0 hF0 (c := 173) (i := 0) (v := 0) (A := (-2147483648)) (B := 2147483647) (bs_28_0 _ _ (by omega) (by omega)) ⟨by omega, by omega⟩ (jin_of 0 rfl ⟨by omega, by omega⟩)
 refine jm_puti c1 hm rfl sh_173 rfl e1 ?_
 refine jx_load c1 hm rfl rfl rfl rfl ?_
 refine jy_ic c1 hm rfl (by decide) ?_
 refine jy_ic c1 hm rfl (by decide) ?_
 refine jt_i c3 hm rfl rfl pj_X12_isIn rfl rfl rfl ((ct_X12_isIn X (by omega) M1 hH1 a0 ⟨by omega, by omega⟩ 0 ⟨by omega, by omega⟩ 1 ⟨by omega, by omega⟩).le (by decide)) (fun z2 _ ⟨rfl, lz2, uz2, p3⟩ => ?_)
 refine jz_ne c1 hm 16 rfl rfl (fun h4 => ?_) (fun h4 => ?_)
 ·
  refine jy_ic c1 hm rfl (by decide) ?_
  refine jx_stor c1 hm (L' := [some (.inr (.inr (.inl 173))), some (.inl a0), some (.inl 0)]) rfl rfl rfl rfl rfl ?_
  have W8 : ∀ (n9 : Nat) (b5 : Int) (hb5 : 0 ≤ b5 ∧ b5 ≤ 476) (M6 : JM) (hH6 : HI (X) M6) (hF6 : Fr md_X12_image_173 M0 M6) (k7 : M6.1 173 0 = 0), (-b5 + 476) < (n9 : Int) → F 18 [some (.inr (.inr (.inl 173))), some (.inl a0), some (.inl b5)] [] M6 := by
   intro n9
   induction n9 with
   | zero => intros; omega
   | succ n9 ihW8 =>
    intro b5 hb5 M6 hH6 hF6 k7 hrW8
    refine jx_load c1 hm rfl rfl rfl rfl ?_
    refine jy_sp c1 hm rfl (by decide) ?_
    refine jc_ge c1 hm 49 rfl rfl (fun h10 => ?_) (fun h10 => ?_)
    ·
     refine jy_ic c1 hm rfl (by decide) ?_
     refine jx_stor c1 hm (L' := [some (.inr (.inr (.inl 173))), some (.inl a0), some (.inl 0)]) rfl rfl rfl rfl rfl ?_
     have W17 : ∀ (n18 : Nat) (b14 : Int) (hb14 : 0 ≤ b14 ∧ b14 ≤ 18) (M15 : JM) (hH15 : HI (X) M15) (hF15 : Fr md_X12_image_173 M0 M15) (k16 : M15.1 173 0 = 0), (-b14 + 18) < (n18 : Int) → F 51 [some (.inr (.inr (.inl 173))), some (.inl a0), some (.inl b14)] [] M15 := by
      intro n18
      induction n18 with
      | zero => intros; omega
      | succ n18 ihW17 =>
       intro b14 hb14 M15 hH15 hF15 k16 hrW17
       refine jx_load c1 hm rfl rfl rfl rfl ?_
       refine jy_bp c1 hm rfl (by decide) ?_
       refine jc_ge c1 hm 80 rfl rfl (fun h19 => ?_) (fun h19 => ?_)
       ·
        refine jx_load c1 hm rfl rfl rfl rfl ?_
        refine jx_getr c1 hm rfl sh_173 rfl ?_
        refine jx_load c1 hm rfl rfl rfl rfl ?_
        refine jy_ic c1 hm rfl (by decide) ?_
        obtain ⟨M22, e22, hH22, hF22, k22, n22, _⟩ := mup hH15 hF15 (c := 183) (i := (a0).toNat) (v := 1) (A := 0) (B := 1) rfl ⟨by omega, by omega⟩ (jin_of 2 rfl ⟨by omega, by omega⟩)
        refine jm_bast c1 hm rfl sh_183 (Or.inr ⟨rfl, by omega, by omega⟩) ⟨by omega, by omega⟩ e22 ?_
        refine jy_ic c1 hm rfl (by decide) ?_
        exact jx_retz c2 hm rfl rfl ⟨by omega, by omega⟩ ⟨_, rfl, hH22, hF22, by omega, by omega⟩
       refine jx_load c1 hm rfl rfl rfl rfl ?_
       refine jx_getr c1 hm rfl sh_173 rfl ?_
       refine jy_bp c1 hm rfl (by decide) ?_
       refine jx_load c1 hm rfl rfl rfl rfl ?_
       refine jy_mul c1 hm (18 * a0) rfl (by omega) ?_
       refine jx_load c1 hm rfl rfl rfl rfl ?_
       refine jy_add c1 hm (18 * a0 + b14) rfl (by omega) ?_
       refine jx_load c1 hm rfl rfl rfl rfl ?_
       refine jx_getr c1 hm rfl sh_173 rfl ?_
       refine jx_load c1 hm rfl rfl rfl rfl ?_
       obtain ⟨w20, kw20⟩ : ∃ w, M15.2 180 (b14).toNat = w := ⟨_, rfl⟩
       have bw20 : LB w20.toInt := kw20 ▸ hH15.2 180 _ rfl
       refine jx_lald c1 hm rfl sh_180 ⟨by omega, by omega⟩ kw20 ?_
       obtain ⟨M21, e21, hH21, hF21, n21, k21, _⟩ := mul hH15 hF15 (c := 182) (i := ((18 * a0 + b14)).toNat) (v := w20) (fun _ => bw20)
       refine jm_last c1 hm rfl sh_182 ⟨by omega, by omega⟩ e21 ?_
       refine jx_iinc c1 hm (v := (b14 + 1)) (L' := [some (.inr (.inr (.inl 173))), some (.inl a0), some (.inl (b14 + 1))]) rfl rfl (by omega) (by omega) rfl ?_
       refine jx_goto c1 hm 51 rfl rfl ?_
       have k23 : M21.1 173 0 = 0 := (n21 173 0).trans k16
       exact ihW17 (b14 + 1) (by omega) M21 hH21 hF21 k23 (by omega)
     exact W17 (18 + 1 : Int).toNat 0 (by omega) M6 hH6 hF6 k7 (by omega)
    refine jx_load c1 hm rfl rfl rfl rfl ?_
    refine jx_getr c1 hm rfl sh_173 rfl ?_
    refine jy_sp c1 hm rfl (by decide) ?_
    refine jx_load c1 hm rfl rfl rfl rfl ?_
    refine jy_mul c1 hm (476 * a0) rfl (by omega) ?_
    refine jx_load c1 hm rfl rfl rfl rfl ?_
    refine jy_add c1 hm (476 * a0 + b5) rfl (by omega) ?_
    refine jx_load c1 hm rfl rfl rfl rfl ?_
    refine jx_getr c1 hm rfl sh_173 rfl ?_
    refine jx_load c1 hm rfl rfl rfl rfl ?_
    obtain ⟨z11, k12, lz11, uz11⟩ := hH6.any (by omega) (by omega) 175 (b5).toNat
    refine jx_iald c1 hm rfl sh_175 ⟨by omega, by omega⟩ k12 ?_
    obtain ⟨M13, e13, hH13, hF13, k13, n13, _⟩ := mupc hH6 hF6 hH6 (c := 177) (i := ((476 * a0 + b5)).toNat) (c1 := 175) (i1 := (b5).toNat) (v := z11) k12 (ckp (by omega)) (jin_of 1 rfl ⟨by omega, by omega⟩)
    refine jm_iast c1 hm rfl sh_177 ⟨by omega, by omega⟩ e13 ?_
    refine jx_iinc c1 hm (v := (b5 + 1)) (L' := [some (.inr (.inr (.inl 173))), some (.inl a0), some (.inl (b5 + 1))]) rfl rfl (by omega) (by omega) rfl ?_
    refine jx_goto c1 hm 18 rfl rfl ?_
    have k24 : M13.1 173 0 = 0 := (n13 173 0 (fun h => absurd h.1 (by decide))).trans k7
    exact ihW8 (b5 + 1) (by omega) M13 hH13 hF13 k24 (by omega)
  exact W8 (476 + 1 : Int).toNat 0 (by omega) M1 hH1 hF1 k1 (by omega)
 refine jy_ic c1 hm rfl (by decide) ?_
 exact jx_retz c2 hm rfl rfl ⟨by omega, by omega⟩ ⟨_, rfl, hH1, hF1, by omega, by omega⟩
def md_X12_restore_173 : List (Nat × (Nat × Nat)) := [(173, (0, 0)), (173, (23, 23)), (175, (0, 475))]
theorem ct_X12_restore_173 (X : Int) (hX : 0 ≤ X ∧ X ≤ 100000000) (M0 : JM) (hH0 : HI X M0) (a0 : Int) (ha0 : (-2147483648) ≤ a0 ∧ a0 ≤ 2147483647) : JOk shp PJ 2 175 [.inr (.inr (.inl 173)), .inl a0] M0 (jRi (fun v M' => HI X M' ∧ Fr md_X12_restore_173 M0 M' ∧ 0 ≤ v ∧ v ≤ 1 )) := by
 refine ⟨jr_X12_restore, pj_X12_restore, fun F c1 c2 c3 => ?_⟩
 have hm := pj_X12_restore
 change F 0 [some (.inr (.inr (.inl 173))), some (.inl a0), none] [] M0
 have hF0 : Fr md_X12_restore_173 M0 M0 := Fr.rf _ _
 refine jx_load c1 hm rfl rfl rfl rfl ?_
 refine jy_ic c1 hm rfl (by decide) ?_
 obtain ⟨M1, e1, hH1, hF1, k1, n1, _⟩ := mup hH0 hF0 (c := 173) (i := 0) (v := 0) (A := (-2147483648)) (B := 2147483647) (bs_28_0 _ _ (by omega) (by omega)) ⟨by omega, by omega⟩ (jin_of 0 rfl ⟨by omega, by omega⟩)
 refine jm_puti c1 hm rfl sh_173 rfl e1 ?_
 refine jx_load c1 hm rfl rfl rfl rfl ?_
 refine jy_ic c1 hm rfl (by decide) ?_
 refine jy_ic c1 hm rfl (by decide) ?_
 refine jt_i c3 hm rfl rfl pj_X12_isIn rfl rfl rfl ((ct_X12_isIn X (by omega) M1 hH1 a0 ⟨by omega, by omega⟩ 0 ⟨by omega, by omega⟩ 1 ⟨by omega, by omega⟩).le (by decide)) (fun z2 _ ⟨rfl, lz2, uz2, p3⟩ => ?_)
 refine jz_eq c1 hm 23 rfl rfl (fun h4 => ?_) (fun h4 => ?_)
 ·
  refine jy_ic c1 hm rfl (by decide) ?_
  exact jx_retz c2 hm rfl rfl ⟨by omega, by omega⟩ ⟨_, rfl, hH1, hF1, by omega, by omega⟩
 refine jx_load c1 hm rfl rfl rfl rfl ?_
 refine jx_getr c1 hm rfl sh_173 rfl ?_
 refine jx_load c1 hm rfl rfl rfl rfl ?_
 obtain ⟨z5, k6, lz5, uz5⟩ := hH1.ld (c := 183) (i := (a0).toNat) (A := 0) (B := 1) rfl
 refine jx_bald c1 hm rfl sh_183 rfl ⟨by omega, by omega⟩ k6 ?_
 refine jz_ne c1 hm 25 rfl rfl (fun h7 => ?_) (fun h7 => ?_)
 ·
  refine jy_ic c1 hm rfl (by decide) ?_
  refine jx_stor c1 hm (L' := [some (.inr (.inr (.inl 173))), some (.inl a0), some (.inl 0)]) rfl rfl rfl rfl rfl ?_
  have W11 : ∀ (n12 : Nat) (b8 : Int) (hb8 : 0 ≤ b8 ∧ b8 ≤ 476) (M9 : JM) (hH9 : HI (X) M9) (hF9 : Fr md_X12_restore_173 M0 M9) (k10 : M9.1 173 0 = 0), (-b8 + 476) < (n12 : Int) → F 27 [some (.inr (.inr (.inl 173))), some (.inl a0), some (.inl b8)] [] M9 := by
   intro n12
   induction n12 with
   | zero => intros; omega
   | succ n12 ihW11 =>
    intro b8 hb8 M9 hH9 hF9 k10 hrW11
    refine jx_load c1 hm rfl rfl rfl rfl ?_
    refine jy_sp c1 hm rfl (by decide) ?_
    refine jc_ge c1 hm 58 rfl rfl (fun h13 => ?_) (fun h13 => ?_)
    ·
     refine jy_ic c1 hm rfl (by decide) ?_
     refine jx_stor c1 hm (L' := [some (.inr (.inr (.inl 173))), some (.inl a0), some (.inl 0)]) rfl rfl rfl rfl rfl ?_
     have W20 : ∀ (n21 : Nat) (b17 : Int) (hb17 : 0 ≤ b17 ∧ b17 ≤ 18) (M18 : JM) (hH18 : HI (X) M18) (hF18 : Fr md_X12_restore_173 M0 M18) (k19 : M18.1 173 0 = 0), (-b17 + 18) < (n21 : Int) → F 60 [some (.inr (.inr (.inl 173))), some (.inl a0), some (.inl b17)] [] M18 := by
      intro n21
      induction n21 with
      | zero => intros; omega
      | succ n21 ihW20 =>
       intro b17 hb17 M18 hH18 hF18 k19 hrW20
       refine jx_load c1 hm rfl rfl rfl rfl ?_
       refine jy_bp c1 hm rfl (by decide) ?_
       refine jc_ge c1 hm 89 rfl rfl (fun h22 => ?_) (fun h22 => ?_)
       ·
        refine jx_load c1 hm rfl rfl rfl rfl ?_
        refine jy_ic c1 hm rfl (by decide) ?_
        obtain ⟨M25, e25, hH25, hF25, k25, n25, _⟩ := mup hH18 hF18 (c := 173) (i := 23) (v := 0) (A := 0) (B := 8) (bs_28_8 _ _ (by omega) (by omega)) ⟨by omega, by omega⟩ (jin_of 1 rfl ⟨by omega, by omega⟩)
        refine jm_puti c1 hm rfl sh_173 rfl e25 ?_
        refine jy_ic c1 hm rfl (by decide) ?_
        exact jx_retz c2 hm rfl rfl ⟨by omega, by omega⟩ ⟨_, rfl, hH25, hF25, by omega, by omega⟩
       refine jx_load c1 hm rfl rfl rfl rfl ?_
       refine jx_getr c1 hm rfl sh_173 rfl ?_
       refine jx_load c1 hm rfl rfl rfl rfl ?_
       refine jx_load c1 hm rfl rfl rfl rfl ?_
       refine jx_getr c1 hm rfl sh_173 rfl ?_
       refine jy_bp c1 hm rfl (by decide) ?_
       refine jx_load c1 hm rfl rfl rfl rfl ?_
       refine jy_mul c1 hm (18 * a0) rfl (by omega) ?_
       refine jx_load c1 hm rfl rfl rfl rfl ?_
       refine jy_add c1 hm (18 * a0 + b17) rfl (by omega) ?_
       obtain ⟨w23, kw23⟩ : ∃ w, M18.2 182 ((18 * a0 + b17)).toNat = w := ⟨_, rfl⟩
       have bw23 : LB w23.toInt := kw23 ▸ hH18.2 182 _ rfl
       refine jx_lald c1 hm rfl sh_182 ⟨by omega, by omega⟩ kw23 ?_
       obtain ⟨M24, e24, hH24, hF24, n24, k24, _⟩ := mul hH18 hF18 (c := 180) (i := (b17).toNat) (v := w23) (fun _ => bw23)
       refine jm_last c1 hm rfl sh_180 ⟨by omega, by omega⟩ e24 ?_
       refine jx_iinc c1 hm (v := (b17 + 1)) (L' := [some (.inr (.inr (.inl 173))), some (.inl a0), some (.inl (b17 + 1))]) rfl rfl (by omega) (by omega) rfl ?_
       refine jx_goto c1 hm 60 rfl rfl ?_
       have k26 : M24.1 173 0 = 0 := (n24 173 0).trans k19
       exact ihW20 (b17 + 1) (by omega) M24 hH24 hF24 k26 (by omega)
     exact W20 (18 + 1 : Int).toNat 0 (by omega) M9 hH9 hF9 k10 (by omega)
    refine jx_load c1 hm rfl rfl rfl rfl ?_
    refine jx_getr c1 hm rfl sh_173 rfl ?_
    refine jx_load c1 hm rfl rfl rfl rfl ?_
    refine jx_load c1 hm rfl rfl rfl rfl ?_
    refine jx_getr c1 hm rfl sh_173 rfl ?_
    refine jy_sp c1 hm rfl (by decide) ?_
    refine jx_load c1 hm rfl rfl rfl rfl ?_
    refine jy_mul c1 hm (476 * a0) rfl (by omega) ?_
    refine jx_load c1 hm rfl rfl rfl rfl ?_
    refine jy_add c1 hm (476 * a0 + b8) rfl (by omega) ?_
    obtain ⟨z14, k15, lz14, uz14⟩ := hH9.any (by omega) (by omega) 177 ((476 * a0 + b8)).toNat
    refine jx_iald c1 hm rfl sh_177 ⟨by omega, by omega⟩ k15 ?_
    obtain ⟨M16, e16, hH16, hF16, k16, n16, _⟩ := mupc hH9 hF9 hH9 (c := 175) (i := (b8).toNat) (c1 := 177) (i1 := ((476 * a0 + b8)).toNat) (v := z14) k15 ((ckp (by omega)).symm) (jin_of 2 rfl ⟨by omega, by omega⟩)
    refine jm_iast c1 hm rfl sh_175 ⟨by omega, by omega⟩ e16 ?_
    refine jx_iinc c1 hm (v := (b8 + 1)) (L' := [some (.inr (.inr (.inl 173))), some (.inl a0), some (.inl (b8 + 1))]) rfl rfl (by omega) (by omega) rfl ?_
    refine jx_goto c1 hm 27 rfl rfl ?_
    have k27 : M16.1 173 0 = 0 := (n16 173 0 (fun h => absurd h.1 (by decide))).trans k10
    exact ihW11 (b8 + 1) (by omega) M16 hH16 hF16 k27 (by omega)
  exact W11 (476 + 1 : Int).toNat 0 (by omega) M1 hH1 hF1 k1 (by omega)
 refine jy_ic c1 hm rfl (by decide) ?_
 exact jx_retz c2 hm rfl rfl ⟨by omega, by omega⟩ ⟨_, rfl, hH1, hF1, by omega, by omega⟩
def md_X12_count_173 : List (Nat × (Nat × Nat)) := [(173, (0, 0))]
theorem ct_X12_count_173 (X : Int) (hX : 0 ≤ X ∧ X ≤ 100000000) (M0 : JM) (hH0 : HI X M0) (a0 : Int) (ha0 : (-2147483648) ≤ a0 ∧ a0 ≤ 2147483647) : JOk shp PJ 1 92 [.inr (.inr (.inl 173)), .inl a0] M0 (jRi (fun v M' => HI X M' ∧ Fr md_X12_count_173 M0 M' ∧ (-1) ≤ v ∧ v ≤ 940 )) := by
 refine ⟨jr_X12_count, pj_X12_count, fun F c1 c2 c3 => ?_⟩
 have hm := pj_X12_count
 change F 0 [some (.inr (.inr (.inl 173))), some (.inl a0)] [] M0
 have hF0 : Fr md_X12_count_173 M0 M0 := Fr.rf _ _
 refine jx_load c1 hm rfl rfl rfl rfl ?_
 refine jy_ic c1 hm rfl (by decide) ?_
 obtain ⟨M1, e1, hH1, hF1, k1, n1, _⟩ := mup hH0 hF0 (c := 173) (i := 0) (v := 0) (A := (-2147483648)) (B := 2147483647) (bs_28_0 _ _ (by omega) (by omega)) ⟨by omega, by omega⟩ (jin_of 0 rfl ⟨by omega, by omega⟩)
 refine jm_puti c1 hm rfl sh_173 rfl e1 ?_
 refine jx_load c1 hm rfl rfl rfl rfl ?_
 by_cases h2 : a0 = 0
 ·
  refine jx_tswI c1 hm 44 rfl ⟨by omega, by omega⟩ (by rw [h2]; rfl) rfl ?_
  refine jx_load c1 hm rfl rfl rfl rfl ?_
  refine jx_getr c1 hm rfl sh_173 rfl ?_
  refine jy_ic c1 hm rfl (by decide) ?_
  obtain ⟨z3, k4, lz3, uz3⟩ := hH1.ld (c := 175) (i := 0) (A := 0) (B := 6) (bs_11_0 _ _ (by omega) (by omega))
  refine jx_iald c1 hm rfl sh_175 ⟨by omega, by omega⟩ k4 ?_
  exact jx_reti c2 hm rfl rfl ⟨_, rfl, hH1, hF1, by omega, by omega⟩
 by_cases h5 : a0 = 1
 ·
  refine jx_tswI c1 hm 51 rfl ⟨by omega, by omega⟩ (by rw [h5]; rfl) rfl ?_
  refine jx_load c1 hm rfl rfl rfl rfl ?_
  refine jx_getr c1 hm rfl sh_173 rfl ?_
  refine jy_ic c1 hm rfl (by decide) ?_
  obtain ⟨z6, k7, lz6, uz6⟩ := hH1.ld (c := 175) (i := 1) (A := 0) (B := 6) (bs_11_0 _ _ (by omega) (by omega))
  refine jx_iald c1 hm rfl sh_175 ⟨by omega, by omega⟩ k7 ?_
  exact jx_reti c2 hm rfl rfl ⟨_, rfl, hH1, hF1, by omega, by omega⟩
 by_cases h8 : a0 = 2
 ·
  refine jx_tswI c1 hm 58 rfl ⟨by omega, by omega⟩ (by rw [h8]; rfl) rfl ?_
  refine jx_load c1 hm rfl rfl rfl rfl ?_
  refine jx_getr c1 hm rfl sh_173 rfl ?_
  refine jy_ic c1 hm rfl (by decide) ?_
  obtain ⟨z9, k10, lz9, uz9⟩ := hH1.ld (c := 175) (i := 2) (A := 0) (B := 6) (bs_11_0 _ _ (by omega) (by omega))
  refine jx_iald c1 hm rfl sh_175 ⟨by omega, by omega⟩ k10 ?_
  exact jx_reti c2 hm rfl rfl ⟨_, rfl, hH1, hF1, by omega, by omega⟩
 by_cases h11 : a0 = 3
 ·
  refine jx_tswI c1 hm 65 rfl ⟨by omega, by omega⟩ (by rw [h11]; rfl) rfl ?_
  refine jx_load c1 hm rfl rfl rfl rfl ?_
  refine jx_getr c1 hm rfl sh_173 rfl ?_
  refine jy_ic c1 hm rfl (by decide) ?_
  obtain ⟨z12, k13, lz12, uz12⟩ := hH1.ld (c := 175) (i := 3) (A := 0) (B := 9) (bs_11_1 _ _ (by omega) (by omega))
  refine jx_iald c1 hm rfl sh_175 ⟨by omega, by omega⟩ k13 ?_
  exact jx_reti c2 hm rfl rfl ⟨_, rfl, hH1, hF1, by omega, by omega⟩
 by_cases h14 : a0 = 4
 ·
  refine jx_tswI c1 hm 72 rfl ⟨by omega, by omega⟩ (by rw [h14]; rfl) rfl ?_
  refine jx_load c1 hm rfl rfl rfl rfl ?_
  refine jx_getr c1 hm rfl sh_173 rfl ?_
  refine jy_ic c1 hm rfl (by decide) ?_
  obtain ⟨z15, k16, lz15, uz15⟩ := hH1.ld (c := 175) (i := 4) (A := 0) (B := 9) (bs_11_1 _ _ (by omega) (by omega))
  refine jx_iald c1 hm rfl sh_175 ⟨by omega, by omega⟩ k16 ?_
  exact jx_reti c2 hm rfl rfl ⟨_, rfl, hH1, hF1, by omega, by omega⟩
 by_cases h17 : a0 = 5
 ·
  refine jx_tswI c1 hm 79 rfl ⟨by omega, by omega⟩ (by rw [h17]; rfl) rfl ?_
  refine jx_load c1 hm rfl rfl rfl rfl ?_
  obtain ⟨z18, k19, lz18, uz18⟩ := hH1.ld (c := 173) (i := 2) (A := 0) (B := 940) (bs_28_1 _ _ (by omega) (by omega))
  refine jx_geti c1 hm rfl sh_173 rfl k19 ?_
  exact jx_reti c2 hm rfl rfl ⟨_, rfl, hH1, hF1, by omega, by omega⟩
 refine jx_tswO c1 hm 84 rfl (by omega) rfl ?_
 refine jy_ic c1 hm rfl (by decide) ?_
 exact jx_reti c2 hm rfl rfl ⟨_, rfl, hH1, hF1, by omega, by omega⟩
