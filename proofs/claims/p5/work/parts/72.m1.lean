/-! Contracts of the reference (by wip/q/wlk.py). -/
def md_X12_come_173 : List (Nat × (Nat × Nat)) := [(173, (2, 2)), (174, (0, 939))]
theorem ct_X12_come_173 (X : Int) (hX : 0 ≤ X ∧ X ≤ 100000000) (M0 : JM) (hH0 : HI X M0) (a0 : Int) (ha0 : (-2147483648) ≤ a0 ∧ a0 ≤ 2147483647) (hp0 : M0.1 173 2 ≤ 936) : JOk shp PJ 1 88 [.inr (.inr (.inl 173)), .inl a0] M0 (jRv (fun M' => HI X M' ∧ Fr md_X12_come_173 M0 M' ∧ (M'.1 173 2 = M0.1 173 2 + 4))) := by
 refine ⟨jr_X12_come, pj_X12_come, fun F c1 c2 c3 => ?_⟩
 have hm := pj_X12_come
 change F 0 [some (.inr (.inr (.inl 173))), some (.inl a0), none] [] M0
 have hF0 : Fr md_X12_come_173 M0 M0 := Fr.rf _ _
 obtain ⟨z1, k2, lz1, uz1⟩ := hH0.ld (c := 173) (i := 2) (A := 0) (B := 940) (bs_28_1 _ _ (by omega) (by omega))
 refine jy_bp c1 hm rfl (by decide) ?_
 refine jx_stor c1 hm (L' := [some (.inr (.inr (.inl 173))), some (.inl a0), some (.inl 24)]) rfl rfl rfl rfl rfl ?_
 have W8 : ∀ (n9 : Nat) (b3 : Int) (hb3 : (-8) ≤ b3 ∧ b3 ≤ 24) (M4 : JM) (hH4 : HI (X) M4) (hF4 : Fr md_X12_come_173 M0 M4) (b5 : Int) (hb5 : 0 ≤ b5 ∧ b5 ≤ 940) (k6 : M4.1 173 2 = b5) (h7 : 8 * M4.1 173 2 + b3 = 8 * M0.1 173 2 + 24), (b3 + 8) < (n9 : Int) → F 3 [some (.inr (.inr (.inl 173))), some (.inl a0), some (.inl b3)] [] M4 := by
  intro n9
  induction n9 with
  | zero => intros; omega
  | succ n9 ihW8 =>
   intro b3 hb3 M4 hH4 hF4 b5 hb5 k6 h7 hrW8
   refine jx_load c1 hm rfl rfl rfl rfl ?_
   refine jz_lt c1 hm 39 rfl rfl (fun h10 => ?_) (fun h10 => ?_)
   ·
    exact jx_retv c2 hm rfl rfl ⟨rfl, hH4, hF4, (by omega)⟩
   refine jx_load c1 hm rfl rfl rfl rfl ?_
   refine jx_getr c1 hm rfl sh_173 rfl ?_
   refine jx_load c1 hm rfl rfl rfl rfl ?_
   refine jx_geti c1 hm rfl sh_173 rfl k6 ?_
   refine jx_load c1 hm rfl rfl rfl rfl ?_
   refine jx_load c1 hm rfl rfl rfl rfl ?_
   refine jx_iopw c1 hm rfl rfl (fun z11 lz11 uz11 => ?_)
   refine jy_sp c1 hm rfl (by decide) ?_
   refine jy_anr c1 hm rfl ⟨by omega, by omega⟩ (fun z12 lz12 uz12 => ?_)
   have t13 : 0 ≤ b5 ∧ b5 ≤ 939 := by omega
   obtain ⟨M14, e14, hH14, hF14, k14, n14, q14⟩ := mup hH4 hF4 (c := 174) (i := (b5).toNat) (v := z12) (A := 0) (B := 255) rfl ⟨by omega, by omega⟩ (jin_of 1 rfl ⟨by omega, by omega⟩)
   refine jm_iast c1 hm rfl sh_174 ⟨by omega, by omega⟩ e14 ?_
   refine jx_load c1 hm rfl rfl rfl rfl ?_
   refine jx_dup c1 hm rfl rfl ?_
   have k15 : M14.1 173 2 = b5 := (n14 173 2 (fun h => absurd h.1 (by decide))).trans k6
   refine jx_geti c1 hm rfl sh_173 rfl k15 ?_
   refine jy_ic c1 hm rfl (by decide) ?_
   refine jy_add c1 hm (b5 + 1) rfl (by omega) ?_
   obtain ⟨M16, e16, hH16, hF16, k16, n16, q16⟩ := mup hH14 hF14 (c := 173) (i := 2) (v := (b5 + 1)) (A := 0) (B := 940) (bs_28_1 _ _ (by omega) (by omega)) ⟨by omega, by omega⟩ (jin_of 0 rfl ⟨by omega, by omega⟩)
   refine jm_puti c1 hm rfl sh_173 rfl e16 ?_
   refine jx_iinc c1 hm (v := (b3 - 8)) (L' := [some (.inr (.inr (.inl 173))), some (.inl a0), some (.inl (b3 - 8))]) rfl rfl (by omega) (by omega) rfl ?_
   refine jx_goto c1 hm 3 rfl rfl ?_
   exact ihW8 (b3 - 8) (by omega) M16 hH16 hF16 (b5 + 1) (by omega) k16 (by omega) (by omega)
 exact W8 (32 + 1 : Int).toNat 24 (by omega) M0 hH0 hF0 z1 (by omega) k2 (by omega) (by omega)
def md_X12_feed_173 : List (Nat × (Nat × Nat)) := [(173, (0, 0)), (173, (2, 2)), (174, (0, 939))]
theorem ct_X12_feed_173 (X : Int) (hX : 0 ≤ X ∧ X ≤ 100000000) (M0 : JM) (hH0 : HI X M0) (a0 : Int) (ha0 : (-2147483648) ≤ a0 ∧ a0 ≤ 2147483647) (a1 : Int) (ha1 : (-2147483648) ≤ a1 ∧ a1 ≤ 2147483647) (a2 : Int) (ha2 : (-2147483648) ≤ a2 ∧ a2 ≤ 2147483647) (a3 : Int) (ha3 : (-2147483648) ≤ a3 ∧ a3 ≤ 2147483647) (a4 : Int) (ha4 : (-2147483648) ≤ a4 ∧ a4 ≤ 2147483647) : JOk shp PJ 2 103 [.inr (.inr (.inl 173)), .inl a0, .inl a1, .inl a2, .inl a3, .inl a4] M0 (jRi (fun v M' => HI X M' ∧ Fr md_X12_feed_173 M0 M' ∧ (-1) ≤ v ∧ v ≤ 940 )) := by
 refine ⟨jr_X12_feed, pj_X12_feed, fun F c1 c2 c3 => ?_⟩
 have hm := pj_X12_feed
 change F 0 [some (.inr (.inr (.inl 173))), some (.inl a0), some (.inl a1), some (.inl a2), some (.inl a3), some (.inl a4)] [] M0
 have hF0 : Fr md_X12_feed_173 M0 M0 := Fr.rf _ _
 refine jx_load c1 hm rfl rfl rfl rfl ?_
 refine jy_ic c1 hm rfl (by decide) ?_
 obtain ⟨M1, e1, hH1, hF1, k1, n1, q1⟩ := mup hH0 hF0 (c := 173) (i := 0) (v := 0) (A := (-2147483648)) (B := 2147483647) (bs_28_0 _ _ (by omega) (by omega)) ⟨by omega, by omega⟩ (jin_of 0 rfl ⟨by omega, by omega⟩)
 refine jm_puti c1 hm rfl sh_173 rfl e1 ?_
 refine jx_load c1 hm rfl rfl rfl rfl ?_
 obtain ⟨z2, k3, lz2, uz2⟩ := hH1.ld (c := 173) (i := 2) (A := 0) (B := 940) (bs_28_1 _ _ (by omega) (by omega))
 refine jx_geti c1 hm rfl sh_173 rfl k3 ?_
 refine jy_bp c1 hm rfl (by decide) ?_
 refine jy_add c1 hm (z2 + 20) rfl (by omega) ?_
 refine jy_sp c1 hm rfl (by decide) ?_
 refine jc_le c1 hm 20 rfl rfl (fun h4 => ?_) (fun h4 => ?_)
 ·
  refine jx_load c1 hm rfl rfl rfl rfl ?_
  refine jx_load c1 hm rfl rfl rfl rfl ?_
  refine jv_v c3 hm rfl pj_X12_come rfl rfl ⟨_, _, _, rfl, sh_173⟩ rfl ((ct_X12_come_173 X (by omega) M1 hH1 a0 ⟨by omega, by omega⟩ (by omega)).le (by decide)) (fun M6 ⟨hH6, hR6, p5⟩ => ?_)
  have hF6 := hF1.tr hR6 (by decide +kernel)
  obtain ⟨z7, k8, lz7, uz7⟩ := hH6.ld (c := 173) (i := 2) (A := 0) (B := 940) (bs_28_1 _ _ (by omega) (by omega))
  refine jx_load c1 hm rfl rfl rfl rfl ?_
  refine jx_load c1 hm rfl rfl rfl rfl ?_
  refine jv_v c3 hm rfl pj_X12_come rfl rfl ⟨_, _, _, rfl, sh_173⟩ rfl ((ct_X12_come_173 X (by omega) M6 hH6 a1 ⟨by omega, by omega⟩ (by omega)).le (by decide)) (fun M10 ⟨hH10, hR10, p9⟩ => ?_)
  have hF10 := hF6.tr hR10 (by decide +kernel)
  obtain ⟨z11, k12, lz11, uz11⟩ := hH10.ld (c := 173) (i := 2) (A := 0) (B := 940) (bs_28_1 _ _ (by omega) (by omega))
  refine jx_load c1 hm rfl rfl rfl rfl ?_
  refine jx_load c1 hm rfl rfl rfl rfl ?_
  refine jv_v c3 hm rfl pj_X12_come rfl rfl ⟨_, _, _, rfl, sh_173⟩ rfl ((ct_X12_come_173 X (by omega) M10 hH10 a2 ⟨by omega, by omega⟩ (by omega)).le (by decide)) (fun M14 ⟨hH14, hR14, p13⟩ => ?_)
  have hF14 := hF10.tr hR14 (by decide +kernel)
  obtain ⟨z15, k16, lz15, uz15⟩ := hH14.ld (c := 173) (i := 2) (A := 0) (B := 940) (bs_28_1 _ _ (by omega) (by omega))
  refine jx_load c1 hm rfl rfl rfl rfl ?_
  refine jx_load c1 hm rfl rfl rfl rfl ?_
  refine jv_v c3 hm rfl pj_X12_come rfl rfl ⟨_, _, _, rfl, sh_173⟩ rfl ((ct_X12_come_173 X (by omega) M14 hH14 a3 ⟨by omega, by omega⟩ (by omega)).le (by decide)) (fun M18 ⟨hH18, hR18, p17⟩ => ?_)
  have hF18 := hF14.tr hR18 (by decide +kernel)
  obtain ⟨z19, k20, lz19, uz19⟩ := hH18.ld (c := 173) (i := 2) (A := 0) (B := 940) (bs_28_1 _ _ (by omega) (by omega))
  refine jx_load c1 hm rfl rfl rfl rfl ?_
  refine jx_load c1 hm rfl rfl rfl rfl ?_
  refine jv_v c3 hm rfl pj_X12_come rfl rfl ⟨_, _, _, rfl, sh_173⟩ rfl ((ct_X12_come_173 X (by omega) M18 hH18 a4 ⟨by omega, by omega⟩ (by omega)).le (by decide)) (fun M22 ⟨hH22, hR22, p21⟩ => ?_)
  have hF22 := hF18.tr hR22 (by decide +kernel)
  obtain ⟨z23, k24, lz23, uz23⟩ := hH22.ld (c := 173) (i := 2) (A := 0) (B := 940) (bs_28_1 _ _ (by omega) (by omega))
  refine jx_load c1 hm rfl rfl rfl rfl ?_
  refine jx_geti c1 hm rfl sh_173 rfl k24 ?_
  exact jx_reti c2 hm rfl rfl ⟨_, rfl, hH22, hF22, by omega, by omega⟩
 refine jy_ic c1 hm rfl (by decide) ?_
 exact jx_reti c2 hm rfl rfl ⟨_, rfl, hH1, hF1, by omega, by omega⟩
def md_X12_end_173 : List (Nat × (Nat × Nat)) := [(173, (0, 0)), (173, (2, 2))]
theorem ct_X12_end_173 (X : Int) (hX : 0 ≤ X ∧ X ≤ 100000000) (M0 : JM) (hH0 : HI X M0) (a0 : Int) (ha0 : (-2147483648) ≤ a0 ∧ a0 ≤ 2147483647) : JOk shp PJ 1 100 [.inr (.inr (.inl 173)), .inl a0] M0 (jRi (fun v M' => HI X M' ∧ Fr md_X12_end_173 M0 M' ∧ 0 ≤ v ∧ v ≤ 1 )) := by
 refine ⟨jr_X12_end, pj_X12_end, fun F c1 c2 c3 => ?_⟩
 have hm := pj_X12_end
 change F 0 [some (.inr (.inr (.inl 173))), some (.inl a0)] [] M0
 have hF0 : Fr md_X12_end_173 M0 M0 := Fr.rf _ _
 refine jx_load c1 hm rfl rfl rfl rfl ?_
 refine jy_ic c1 hm rfl (by decide) ?_
 obtain ⟨M1, e1, hH1, hF1, k1, n1, q1⟩ := mup hH0 hF0 (c := 173) (i := 0) (v := 0) (A := (-2147483648)) (B := 2147483647) (bs_28_0 _ _ (by omega) (by omega)) ⟨by omega, by omega⟩ (jin_of 0 rfl ⟨by omega, by omega⟩)
 refine jm_puti c1 hm rfl sh_173 rfl e1 ?_
 refine jx_load c1 hm rfl rfl rfl rfl ?_
 refine jz_lt c1 hm 17 rfl rfl (fun h2 => ?_) (fun h2 => ?_)
 ·
  refine jy_ic c1 hm rfl (by decide) ?_
  exact jx_retz c2 hm rfl rfl ⟨by omega, by omega⟩ ⟨_, rfl, hH1, hF1, by omega, by omega⟩
 refine jx_load c1 hm rfl rfl rfl rfl ?_
 refine jx_load c1 hm rfl rfl rfl rfl ?_
 obtain ⟨z3, k4, lz3, uz3⟩ := hH1.ld (c := 173) (i := 2) (A := 0) (B := 940) (bs_28_1 _ _ (by omega) (by omega))
 refine jx_geti c1 hm rfl sh_173 rfl k4 ?_
 refine jc_le c1 hm 19 rfl rfl (fun h5 => ?_) (fun h5 => ?_)
 ·
  refine jx_load c1 hm rfl rfl rfl rfl ?_
  refine jx_load c1 hm rfl rfl rfl rfl ?_
  obtain ⟨M6, e6, hH6, hF6, k6, n6, q6⟩ := mup hH1 hF1 (c := 173) (i := 2) (v := a0) (A := 0) (B := 940) (bs_28_1 _ _ (by omega) (by omega)) ⟨by omega, by omega⟩ (jin_of 1 rfl ⟨by omega, by omega⟩)
  refine jm_puti c1 hm rfl sh_173 rfl e6 ?_
  refine jy_ic c1 hm rfl (by decide) ?_
  exact jx_retz c2 hm rfl rfl ⟨by omega, by omega⟩ ⟨_, rfl, hH6, hF6, by omega, by omega⟩
 refine jy_ic c1 hm rfl (by decide) ?_
 exact jx_retz c2 hm rfl rfl ⟨by omega, by omega⟩ ⟨_, rfl, hH1, hF1, by omega, by omega⟩
def md_X12_fault_173 : List (Nat × (Nat × Nat)) := [(173, (0, 0))]
theorem ct_X12_fault_173 (X : Int) (hX : 0 ≤ X ∧ X ≤ 100000000) (M0 : JM) (hH0 : HI X M0)  : JOk shp PJ 1 102 [.inr (.inr (.inl 173))] M0 (jRi (fun v M' => HI X M' ∧ Fr md_X12_fault_173 M0 M' ∧ (-2147483648) ≤ v ∧ v ≤ 2147483647 )) := by
 refine ⟨jr_X12_fault, pj_X12_fault, fun F c1 c2 c3 => ?_⟩
 have hm := pj_X12_fault
 change F 0 [some (.inr (.inr (.inl 173)))] [] M0
 have hF0 : Fr md_X12_fault_173 M0 M0 := Fr.rf _ _
 refine jx_load c1 hm rfl rfl rfl rfl ?_
 refine jy_ic c1 hm rfl (by decide) ?_
 obtain ⟨M1, e1, hH1, hF1, k1, n1, q1⟩ := mup hH0 hF0 (c := 173) (i := 0) (v := 0) (A := (-2147483648)) (B := 2147483647) (bs_28_0 _ _ (by omega) (by omega)) ⟨by omega, by omega⟩ (jin_of 0 rfl ⟨by omega, by omega⟩)
 refine jm_puti c1 hm rfl sh_173 rfl e1 ?_
 refine jx_load c1 hm rfl rfl rfl rfl ?_
 obtain ⟨z2, k3, lz2, uz2⟩ := hH1.ld (c := 173) (i := 10) (A := (-2147483648)) (B := 2147483647) (bs_28_5 _ _ (by omega) (by omega))
 refine jx_geti c1 hm rfl sh_173 rfl k3 ?_
 exact jx_reti c2 hm rfl rfl ⟨_, rfl, hH1, hF1, by omega, by omega⟩
theorem ct_X12_isIn (X : Int) (hX : 0 ≤ X ∧ X ≤ 100000000) (M0 : JM) (hH0 : HI X M0) (a0 : Int) (ha0 : (-2147483648) ≤ a0 ∧ a0 ≤ 2147483647) (a1 : Int) (ha1 : (-2147483648) ≤ a1 ∧ a1 ≤ 2147483647) (a2 : Int) (ha2 : (-2147483648) ≤ a2 ∧ a2 ≤ 2147483647) : JOk shp PJ 1 118 [.inl a0, .inl a1, .inl a2] M0 (jRi (fun v M' => M0 = M' ∧ 0 ≤ v ∧ v ≤ 1 ∧ (v = 1 → a1 ≤ a0 ∧ a0 ≤ a2))) := by
 refine ⟨jr_X12_isIn, pj_X12_isIn, fun F c1 c2 c3 => ?_⟩
 have hm := pj_X12_isIn
 change F 0 [some (.inl a0), some (.inl a1), some (.inl a2)] [] M0
 refine jx_load c1 hm rfl rfl rfl rfl ?_
 refine jx_load c1 hm rfl rfl rfl rfl ?_
 refine jc_lt c1 hm 14 rfl rfl (fun h1 => ?_) (fun h1 => ?_)
 ·
  refine jy_ic c1 hm rfl (by decide) ?_
  exact jx_retz c2 hm rfl rfl ⟨by omega, by omega⟩ ⟨_, rfl, rfl, by omega, by omega, (by omega)⟩
 refine jx_load c1 hm rfl rfl rfl rfl ?_
 refine jx_load c1 hm rfl rfl rfl rfl ?_
 refine jc_gt c1 hm 14 rfl rfl (fun h2 => ?_) (fun h2 => ?_)
 ·
  refine jy_ic c1 hm rfl (by decide) ?_
  exact jx_retz c2 hm rfl rfl ⟨by omega, by omega⟩ ⟨_, rfl, rfl, by omega, by omega, (by omega)⟩
 refine jy_ic c1 hm rfl (by decide) ?_
 refine jx_goto c1 hm 15 rfl rfl ?_
 exact jx_retz c2 hm rfl rfl ⟨by omega, by omega⟩ ⟨_, rfl, rfl, by omega, by omega, (by omega)⟩
theorem ct_X12_isMan_173 (X : Int) (hX : 0 ≤ X ∧ X ≤ 100000000) (M0 : JM) (hH0 : HI X M0) (a0 : Int) (ha0 : (-2147483648) ≤ a0 ∧ a0 ≤ 2147483647) : JOk shp PJ 2 120 [.inr (.inr (.inl 173)), .inl a0] M0 (jRi (fun v M' => M0 = M' ∧ 0 ≤ v ∧ v ≤ 1 ∧ (v = 1 → 0 ≤ a0 ∧ a0 ≤ 5))) := by
 refine ⟨jr_X12_isMan, pj_X12_isMan, fun F c1 c2 c3 => ?_⟩
 have hm := pj_X12_isMan
 change F 0 [some (.inr (.inr (.inl 173))), some (.inl a0)] [] M0
 refine jx_load c1 hm rfl rfl rfl rfl ?_
 refine jy_ic c1 hm rfl (by decide) ?_
 refine jx_load c1 hm rfl rfl rfl rfl ?_
 refine jx_getr c1 hm rfl sh_173 rfl ?_
 refine jy_ic c1 hm rfl (by decide) ?_
 obtain ⟨z1, k2, lz1, uz1⟩ := hH0.ld (c := 175) (i := 0) (A := 0) (B := 6) (bs_11_0 _ _ (by omega) (by omega))
 refine jx_iald c1 hm rfl sh_175 ⟨by omega, by omega⟩ k2 ?_
 refine jy_ic c1 hm rfl (by decide) ?_
 refine jy_sub c1 hm (z1 - 1) rfl (by omega) ?_
 refine jt_i c3 hm rfl rfl pj_X12_isIn rfl rfl rfl ((ct_X12_isIn X (by omega) M0 hH0 a0 ⟨by omega, by omega⟩ 0 ⟨by omega, by omega⟩ (z1 - 1) ⟨by omega, by omega⟩).le (by decide)) (fun z3 _ ⟨rfl, lz3, uz3, p4⟩ => ?_)
 exact jx_retz c2 hm rfl rfl ⟨by omega, by omega⟩ ⟨_, rfl, rfl, by omega, by omega, (by omega)⟩
theorem ct_X12_owesOf_173 (X : Int) (hX : 0 ≤ X ∧ X ≤ 100000000) (M0 : JM) (hH0 : HI X M0) (a0 : Int) (ha0 : 0 ≤ a0 ∧ a0 ≤ 5) (a1 : Int) (ha1 : 0 ≤ a1 ∧ a1 ≤ 5) : JOk shp PJ 1 145 [.inr (.inr (.inl 173)), .inl a0, .inl a1] M0 (jRi (fun v M' => M0 = M' ∧ (-2147483648) ≤ v ∧ v ≤ 2147483647 ∧ (v = M0.1 175 (6 * a0 + a1 + 120).toNat))) := by
 refine ⟨jr_X12_owesOf, pj_X12_owesOf, fun F c1 c2 c3 => ?_⟩
 have hm := pj_X12_owesOf
 change F 0 [some (.inr (.inr (.inl 173))), some (.inl a0), some (.inl a1)] [] M0
 refine jx_load c1 hm rfl rfl rfl rfl ?_
 refine jx_getr c1 hm rfl sh_173 rfl ?_
 refine jy_bp c1 hm rfl (by decide) ?_
 refine jy_bp c1 hm rfl (by decide) ?_
 refine jx_load c1 hm rfl rfl rfl rfl ?_
 refine jy_mul c1 hm (6 * a0) rfl (by omega) ?_
 refine jy_add c1 hm (6 * a0 + 120) rfl (by omega) ?_
 refine jx_load c1 hm rfl rfl rfl rfl ?_
 refine jy_add c1 hm (6 * a0 + a1 + 120) rfl (by omega) ?_
 obtain ⟨z1, k2, lz1, uz1⟩ := hH0.ld (c := 175) (i := ((6 * a0 + a1 + 120)).toNat) (A := (-2147483648)) (B := 2147483647) (bs_11_9 _ _ (by omega) (by omega))
 refine jx_iald c1 hm rfl sh_175 ⟨by omega, by omega⟩ k2 ?_
 exact jx_reti c2 hm rfl rfl ⟨_, rfl, rfl, by omega, by omega, (by omega)⟩
theorem ct_X12_owesAll_173 (X : Int) (hX : 0 ≤ X ∧ X ≤ 100000000) (M0 : JM) (hH0 : HI X M0) (a0 : Int) (ha0 : 0 ≤ a0 ∧ a0 ≤ 5) : JOk shp PJ 2 144 [.inr (.inr (.inl 173)), .inl a0] M0 (jRi (fun v M' => M0 = M' ∧ (-2147483648) ≤ v ∧ v ≤ 2147483647 )) := by
 refine ⟨jr_X12_owesAll, pj_X12_owesAll, fun F c1 c2 c3 => ?_⟩
 have hm := pj_X12_owesAll
 change F 0 [some (.inr (.inr (.inl 173))), some (.inl a0), none, none] [] M0
 refine jy_ic c1 hm rfl (by decide) ?_
 refine jx_stor c1 hm (L' := [some (.inr (.inr (.inl 173))), some (.inl a0), some (.inl 0), none]) rfl rfl rfl rfl rfl ?_
 refine jy_ic c1 hm rfl (by decide) ?_
 refine jx_stor c1 hm (L' := [some (.inr (.inr (.inl 173))), some (.inl a0), some (.inl 0), some (.inl 0)]) rfl rfl rfl rfl rfl ?_
 have W3 : ∀ (n4 : Nat) (b1 : Int) (hb1 : (-2147483648) ≤ b1 ∧ b1 ≤ 2147483647) (b2 : Int) (hb2 : 0 ≤ b2 ∧ b2 ≤ 6), (-b2 + 6) < (n4 : Int) → F 4 [some (.inr (.inr (.inl 173))), some (.inl a0), some (.inl b1), some (.inl b2)] [] M0 := by
  intro n4
  induction n4 with
  | zero => intros; omega
  | succ n4 ihW3 =>
   intro b1 hb1 b2 hb2 hrW3
   refine jx_load c1 hm rfl rfl rfl rfl ?_
   refine jy_bp c1 hm rfl (by decide) ?_
   refine jc_ge c1 hm 25 rfl rfl (fun h5 => ?_) (fun h5 => ?_)
   ·
    refine jx_load c1 hm rfl rfl rfl rfl ?_
    exact jx_reti c2 hm rfl rfl ⟨_, rfl, rfl, by omega, by omega⟩
   refine jx_load c1 hm rfl rfl rfl rfl ?_
   refine jx_load c1 hm rfl rfl rfl rfl ?_
   refine jx_load c1 hm rfl rfl rfl rfl ?_
   refine jx_load c1 hm rfl rfl rfl rfl ?_
   refine jv_i c3 hm rfl pj_X12_owesOf rfl rfl ⟨_, _, _, rfl, sh_173⟩ rfl ((ct_X12_owesOf_173 X (by omega) M0 hH0 a0 ⟨by omega, by omega⟩ b2 ⟨by omega, by omega⟩).le (by decide)) (fun z6 _ ⟨rfl, lz6, uz6, p7⟩ => ?_)
   refine jx_iopw c1 hm rfl rfl (fun z8 lz8 uz8 => ?_)
   refine jx_stor c1 hm (L' := [some (.inr (.inr (.inl 173))), some (.inl a0), some (.inl z8), some (.inl b2)]) rfl rfl rfl rfl rfl ?_
   refine jx_iinc c1 hm (v := (b2 + 1)) (L' := [some (.inr (.inr (.inl 173))), some (.inl a0), some (.inl z8), some (.inl (b2 + 1))]) rfl rfl (by omega) (by omega) rfl ?_
   refine jx_goto c1 hm 4 rfl rfl ?_
   exact ihW3 z8 (by omega) (b2 + 1) (by omega) (by omega)
 exact W3 (6 + 1 : Int).toNat 0 (by omega) 0 (by omega) (by omega)
theorem ct_X12_owedAll_173 (X : Int) (hX : 0 ≤ X ∧ X ≤ 100000000) (M0 : JM) (hH0 : HI X M0) (a0 : Int) (ha0 : 0 ≤ a0 ∧ a0 ≤ 5) : JOk shp PJ 2 142 [.inr (.inr (.inl 173)), .inl a0] M0 (jRi (fun v M' => M0 = M' ∧ (-2147483648) ≤ v ∧ v ≤ 2147483647 )) := by
 refine ⟨jr_X12_owedAll, pj_X12_owedAll, fun F c1 c2 c3 => ?_⟩
 have hm := pj_X12_owedAll
 change F 0 [some (.inr (.inr (.inl 173))), some (.inl a0), none, none] [] M0
 refine jy_ic c1 hm rfl (by decide) ?_
 refine jx_stor c1 hm (L' := [some (.inr (.inr (.inl 173))), some (.inl a0), some (.inl 0), none]) rfl rfl rfl rfl rfl ?_
 refine jy_ic c1 hm rfl (by decide) ?_
 refine jx_stor c1 hm (L' := [some (.inr (.inr (.inl 173))), some (.inl a0), some (.inl 0), some (.inl 0)]) rfl rfl rfl rfl rfl ?_
 have W3 : ∀ (n4 : Nat) (b1 : Int) (hb1 : (-2147483648) ≤ b1 ∧ b1 ≤ 2147483647) (b2 : Int) (hb2 : 0 ≤ b2 ∧ b2 ≤ 6), (-b2 + 6) < (n4 : Int) → F 4 [some (.inr (.inr (.inl 173))), some (.inl a0), some (.inl b1), some (.inl b2)] [] M0 := by
  intro n4
  induction n4 with
  | zero => intros; omega
  | succ n4 ihW3 =>
   intro b1 hb1 b2 hb2 hrW3
   refine jx_load c1 hm rfl rfl rfl rfl ?_
   refine jy_bp c1 hm rfl (by decide) ?_
   refine jc_ge c1 hm 25 rfl rfl (fun h5 => ?_) (fun h5 => ?_)
   ·
    refine jx_load c1 hm rfl rfl rfl rfl ?_
    exact jx_reti c2 hm rfl rfl ⟨_, rfl, rfl, by omega, by omega⟩
   refine jx_load c1 hm rfl rfl rfl rfl ?_
   refine jx_load c1 hm rfl rfl rfl rfl ?_
   refine jx_load c1 hm rfl rfl rfl rfl ?_
   refine jx_load c1 hm rfl rfl rfl rfl ?_
   refine jv_i c3 hm rfl pj_X12_owesOf rfl rfl ⟨_, _, _, rfl, sh_173⟩ rfl ((ct_X12_owesOf_173 X (by omega) M0 hH0 b2 ⟨by omega, by omega⟩ a0 ⟨by omega, by omega⟩).le (by decide)) (fun z6 _ ⟨rfl, lz6, uz6, p7⟩ => ?_)
   refine jx_iopw c1 hm rfl rfl (fun z8 lz8 uz8 => ?_)
   refine jx_stor c1 hm (L' := [some (.inr (.inr (.inl 173))), some (.inl a0), some (.inl z8), some (.inl b2)]) rfl rfl rfl rfl rfl ?_
   refine jx_iinc c1 hm (v := (b2 + 1)) (L' := [some (.inr (.inr (.inl 173))), some (.inl a0), some (.inl z8), some (.inl (b2 + 1))]) rfl rfl (by omega) (by omega) rfl ?_
   refine jx_goto c1 hm 4 rfl rfl ?_
   exact ihW3 z8 (by omega) (b2 + 1) (by omega) (by omega)
 exact W3 (6 + 1 : Int).toNat 0 (by omega) 0 (by omega) (by omega)
theorem ct_X12_goodsOf_173 (X : Int) (hX : 0 ≤ X ∧ X ≤ 100000000) (M0 : JM) (hH0 : HI X M0) (a0 : Int) (ha0 : 0 ≤ a0 ∧ a0 ≤ 5) : JOk shp PJ 1 111 [.inr (.inr (.inl 173)), .inl a0] M0 (jRi (fun v M' => M0 = M' ∧ (-2147483648) ≤ v ∧ v ≤ 2147483647 )) := by
 refine ⟨jr_X12_goodsOf, pj_X12_goodsOf, fun F c1 c2 c3 => ?_⟩
 have hm := pj_X12_goodsOf
 change F 0 [some (.inr (.inr (.inl 173))), some (.inl a0), none, none] [] M0
 refine jy_ic c1 hm rfl (by decide) ?_
 refine jx_stor c1 hm (L' := [some (.inr (.inr (.inl 173))), some (.inl a0), some (.inl 0), none]) rfl rfl rfl rfl rfl ?_
 refine jy_ic c1 hm rfl (by decide) ?_
 refine jx_stor c1 hm (L' := [some (.inr (.inr (.inl 173))), some (.inl a0), some (.inl 0), some (.inl 0)]) rfl rfl rfl rfl rfl ?_
 have W3 : ∀ (n4 : Nat) (b1 : Int) (hb1 : (-2147483648) ≤ b1 ∧ b1 ≤ 2147483647) (b2 : Int) (hb2 : 0 ≤ b2 ∧ b2 ≤ 6), (-b2 + 6) < (n4 : Int) → F 4 [some (.inr (.inr (.inl 173))), some (.inl a0), some (.inl b1), some (.inl b2)] [] M0 := by
  intro n4
  induction n4 with
  | zero => intros; omega
  | succ n4 ihW3 =>
   intro b1 hb1 b2 hb2 hrW3
   refine jx_load c1 hm rfl rfl rfl rfl ?_
   refine jy_bp c1 hm rfl (by decide) ?_
   refine jc_ge c1 hm 40 rfl rfl (fun h5 => ?_) (fun h5 => ?_)
   ·
    refine jx_load c1 hm rfl rfl rfl rfl ?_
    exact jx_reti c2 hm rfl rfl ⟨_, rfl, rfl, by omega, by omega⟩
   refine jx_load c1 hm rfl rfl rfl rfl ?_
   refine jx_getr c1 hm rfl sh_173 rfl ?_
   refine jy_sp c1 hm rfl (by decide) ?_
   refine jy_bp c1 hm rfl (by decide) ?_
   refine jx_load c1 hm rfl rfl rfl rfl ?_
   refine jy_mul c1 hm (6 * a0) rfl (by omega) ?_
   refine jy_add c1 hm (6 * a0 + 192) rfl (by omega) ?_
   refine jx_load c1 hm rfl rfl rfl rfl ?_
   refine jy_add c1 hm (6 * a0 + b2 + 192) rfl (by omega) ?_
   obtain ⟨z6, k7, lz6, uz6⟩ := hH0.ld (c := 175) (i := ((6 * a0 + b2 + 192)).toNat) (A := (-2147483648)) (B := 2147483647) (bs_11_11 _ _ (by omega) (by omega))
   refine jx_iald c1 hm rfl sh_175 ⟨by omega, by omega⟩ k7 ?_
   have J12 : ∀ (b11 : Int) (hb11 : (-2147483648) ≤ b11 ∧ b11 ≤ 2147483647), F 34 [some (.inr (.inr (.inl 173))), some (.inl a0), some (.inl b11), some (.inl b2)] [] M0 := by
    intro b11 hb11
    refine jx_iinc c1 hm (v := (b2 + 1)) (L' := [some (.inr (.inr (.inl 173))), some (.inl a0), some (.inl b11), some (.inl (b2 + 1))]) rfl rfl (by omega) (by omega) rfl ?_
    refine jx_goto c1 hm 4 rfl rfl ?_
    exact ihW3 b11 (by omega) (b2 + 1) (by omega) (by omega)
   refine jz_le c1 hm 34 rfl rfl (fun h8 => ?_) (fun h8 => ?_)
   ·
    exact J12 b1 (by omega)
   refine jx_load c1 hm rfl rfl rfl rfl ?_
   refine jy_ic c1 hm rfl (by decide) ?_
   refine jx_load c1 hm rfl rfl rfl rfl ?_
   refine jy_sh1 c1 hm rfl ⟨by omega, by omega⟩ (fun z9 lz9 uz9 => ?_)
   refine jx_iopw c1 hm rfl rfl (fun z10 lz10 uz10 => ?_)
   refine jx_stor c1 hm (L' := [some (.inr (.inr (.inl 173))), some (.inl a0), some (.inl z10), some (.inl b2)]) rfl rfl rfl rfl rfl ?_
   exact J12 z10 (by omega)
 exact W3 (6 + 1 : Int).toNat 0 (by omega) 0 (by omega) (by omega)
theorem ct_X12_sumOf_173 (X : Int) (hX : 0 ≤ X ∧ X ≤ 100000000) (M0 : JM) (hH0 : HI X M0) (a0 : Int) (ha0 : 102 ≤ a0 ∧ a0 ≤ 192) (a1 : Int) (ha1 : 6 ≤ a1 ∧ a1 ≤ 36) : JOk shp PJ 1 187 [.inr (.inr (.inl 173)), .inl a0, .inl a1] M0 (jRi (fun v M' => M0 = M' ∧ (-2147483648) ≤ v ∧ v ≤ 2147483647 )) := by
 refine ⟨jr_X12_sumOf, pj_X12_sumOf, fun F c1 c2 c3 => ?_⟩
 have hm := pj_X12_sumOf
 change F 0 [some (.inr (.inr (.inl 173))), some (.inl a0), some (.inl a1), none, none] [] M0
 refine jy_ic c1 hm rfl (by decide) ?_
 refine jx_stor c1 hm (L' := [some (.inr (.inr (.inl 173))), some (.inl a0), some (.inl a1), some (.inl 0), none]) rfl rfl rfl rfl rfl ?_
 refine jy_ic c1 hm rfl (by decide) ?_
 refine jx_stor c1 hm (L' := [some (.inr (.inr (.inl 173))), some (.inl a0), some (.inl a1), some (.inl 0), some (.inl 0)]) rfl rfl rfl rfl rfl ?_
 have W3 : ∀ (n4 : Nat) (b1 : Int) (hb1 : (-2147483648) ≤ b1 ∧ b1 ≤ 2147483647) (b2 : Int) (hb2 : 0 ≤ b2 ∧ b2 ≤ 36), (-b2 + 36) < (n4 : Int) → F 5 [some (.inr (.inr (.inl 173))), some (.inl a0), some (.inl a1), some (.inl b1), some (.inl b2)] [] M0 := by
  intro n4
  induction n4 with
  | zero => intros; omega
  | succ n4 ihW3 =>
   intro b1 hb1 b2 hb2 hrW3
   refine jx_load c1 hm rfl rfl rfl rfl ?_
   refine jx_load c1 hm rfl rfl rfl rfl ?_
   refine jc_ge c1 hm 29 rfl rfl (fun h5 => ?_) (fun h5 => ?_)
   ·
    refine jx_load c1 hm rfl rfl rfl rfl ?_
    exact jx_reti c2 hm rfl rfl ⟨_, rfl, rfl, by omega, by omega⟩
   refine jx_load c1 hm rfl rfl rfl rfl ?_
   refine jx_load c1 hm rfl rfl rfl rfl ?_
   refine jx_getr c1 hm rfl sh_173 rfl ?_
   refine jx_load c1 hm rfl rfl rfl rfl ?_
   refine jx_load c1 hm rfl rfl rfl rfl ?_
   refine jy_add c1 hm (a0 + b2) rfl (by omega) ?_
   obtain ⟨z6, k7, lz6, uz6⟩ := hH0.any (by omega) (by omega) 175 ((a0 + b2)).toNat
   refine jx_iald c1 hm rfl sh_175 ⟨by omega, by omega⟩ k7 ?_
   refine jx_iopw c1 hm rfl rfl (fun z8 lz8 uz8 => ?_)
   refine jx_stor c1 hm (L' := [some (.inr (.inr (.inl 173))), some (.inl a0), some (.inl a1), some (.inl z8), some (.inl b2)]) rfl rfl rfl rfl rfl ?_
   refine jx_iinc c1 hm (v := (b2 + 1)) (L' := [some (.inr (.inr (.inl 173))), some (.inl a0), some (.inl a1), some (.inl z8), some (.inl (b2 + 1))]) rfl rfl (by omega) (by omega) rfl ?_
   refine jx_goto c1 hm 5 rfl rfl ?_
   exact ihW3 z8 (by omega) (b2 + 1) (by omega) (by omega)
 exact W3 (36 + 1 : Int).toNat 0 (by omega) 0 (by omega) (by omega)
def md_X12_refuse_173 : List (Nat × (Nat × Nat)) := [(173, (0, 0))]
theorem ct_X12_refuse_173 (X : Int) (hX : 0 ≤ X ∧ X ≤ 100000000) (M0 : JM) (hH0 : HI X M0)  : JOk shp PJ 1 173 [.inr (.inr (.inl 173))] M0 (jRi (fun v M' => HI X M' ∧ Fr md_X12_refuse_173 M0 M' ∧ 0 ≤ v ∧ v ≤ 0 )) := by
 refine ⟨jr_X12_refuse, pj_X12_refuse, fun F c1 c2 c3 => ?_⟩
 have hm := pj_X12_refuse
 change F 0 [some (.inr (.inr (.inl 173)))] [] M0
 have hF0 : Fr md_X12_refuse_173 M0 M0 := Fr.rf _ _
 refine jx_load c1 hm rfl rfl rfl rfl ?_
 refine jy_ic c1 hm rfl (by decide) ?_
 obtain ⟨M1, e1, hH1, hF1, k1, n1, q1⟩ := mup hH0 hF0 (c := 173) (i := 0) (v := 1) (A := (-2147483648)) (B := 2147483647) (bs_28_0 _ _ (by omega) (by omega)) ⟨by omega, by omega⟩ (jin_of 0 rfl ⟨by omega, by omega⟩)
 refine jm_puti c1 hm rfl sh_173 rfl e1 ?_
 refine jy_ic c1 hm rfl (by decide) ?_
 exact jx_reti c2 hm rfl rfl ⟨_, rfl, hH1, hF1, by omega, by omega⟩
def md_X12_man_173 : List (Nat × (Nat × Nat)) := [(173, (0, 0))]
theorem ct_X12_man_173 (X : Int) (hX : 0 ≤ X ∧ X ≤ 100000000) (M0 : JM) (hH0 : HI X M0) (a0 : Int) (ha0 : (-2147483648) ≤ a0 ∧ a0 ≤ 2147483647) (a1 : Int) (ha1 : (-2147483648) ≤ a1 ∧ a1 ≤ 2147483647) : JOk shp PJ 3 135 [.inr (.inr (.inl 173)), .inl a0, .inl a1] M0 (jRi (fun v M' => HI X M' ∧ Fr md_X12_man_173 M0 M' ∧ (-2147483648) ≤ v ∧ v ≤ 2147483647 )) := by
 refine ⟨jr_X12_man, pj_X12_man, fun F c1 c2 c3 => ?_⟩
 have hm := pj_X12_man
 change F 0 [some (.inr (.inr (.inl 173))), some (.inl a0), some (.inl a1)] [] M0
 have hF0 : Fr md_X12_man_173 M0 M0 := Fr.rf _ _
 refine jx_load c1 hm rfl rfl rfl rfl ?_
 refine jy_ic c1 hm rfl (by decide) ?_
 obtain ⟨M1, e1, hH1, hF1, k1, n1, q1⟩ := mup hH0 hF0 (c := 173) (i := 0) (v := 0) (A := (-2147483648)) (B := 2147483647) (bs_28_0 _ _ (by omega) (by omega)) ⟨by omega, by omega⟩ (jin_of 0 rfl ⟨by omega, by omega⟩)
 refine jm_puti c1 hm rfl sh_173 rfl e1 ?_
 refine jx_load c1 hm rfl rfl rfl rfl ?_
 refine jx_load c1 hm rfl rfl rfl rfl ?_
 refine jv_i c3 hm rfl pj_X12_isMan rfl rfl ⟨_, _, _, rfl, sh_173⟩ rfl ((ct_X12_isMan_173 X (by omega) M1 hH1 a0 ⟨by omega, by omega⟩).le (by decide)) (fun z2 _ ⟨rfl, lz2, uz2, p3⟩ => ?_)
 refine jz_ne c1 hm 18 rfl rfl (fun h4 => ?_) (fun h4 => ?_)
 ·
  refine jx_load c1 hm rfl rfl rfl rfl ?_
  by_cases h5 : a1 = 0
  ·
   refine jx_tswI c1 hm 64 rfl ⟨by omega, by omega⟩ (by rw [h5] <;> rfl) rfl ?_
   refine jx_load c1 hm rfl rfl rfl rfl ?_
   refine jx_getr c1 hm rfl sh_173 rfl ?_
   refine jy_bp c1 hm rfl (by decide) ?_
   refine jx_load c1 hm rfl rfl rfl rfl ?_
   refine jy_add c1 hm (a0 + 102) rfl (by omega) ?_
   obtain ⟨z6, k7, lz6, uz6⟩ := hH1.ld (c := 175) (i := ((a0 + 102)).toNat) (A := (-20) * X) (B := 99) (bs_11_8 _ _ (by omega) (by omega))
   refine jx_iald c1 hm rfl sh_175 ⟨by omega, by omega⟩ k7 ?_
   exact jx_reti c2 hm rfl rfl ⟨_, rfl, hH1, hF1, by omega, by omega⟩
  by_cases h8 : a1 = 1
  ·
   refine jx_tswI c1 hm 74 rfl ⟨by omega, by omega⟩ (by rw [h8] <;> rfl) rfl ?_
   refine jx_load c1 hm rfl rfl rfl rfl ?_
   refine jx_getr c1 hm rfl sh_173 rfl ?_
   refine jy_ic c1 hm rfl (by decide) ?_
   refine jx_load c1 hm rfl rfl rfl rfl ?_
   refine jy_add c1 hm (a0 + 5) rfl (by omega) ?_
   obtain ⟨z9, k10, lz9, uz9⟩ := hH1.ld (c := 175) (i := ((a0 + 5)).toNat) (A := 0) (B := 99) (bs_11_2 _ _ (by omega) (by omega))
   refine jx_iald c1 hm rfl sh_175 ⟨by omega, by omega⟩ k10 ?_
   exact jx_reti c2 hm rfl rfl ⟨_, rfl, hH1, hF1, by omega, by omega⟩
  by_cases h11 : a1 = 2
  ·
   refine jx_tswI c1 hm 83 rfl ⟨by omega, by omega⟩ (by rw [h11] <;> rfl) rfl ?_
   refine jx_load c1 hm rfl rfl rfl rfl ?_
   refine jx_getr c1 hm rfl sh_173 rfl ?_
   refine jy_bp c1 hm rfl (by decide) ?_
   refine jx_load c1 hm rfl rfl rfl rfl ?_
   refine jy_add c1 hm (a0 + 108) rfl (by omega) ?_
   obtain ⟨z12, k13, lz12, uz12⟩ := hH1.ld (c := 175) (i := ((a0 + 108)).toNat) (A := (-2147483648)) (B := 2147483647) (bs_11_9 _ _ (by omega) (by omega))
   refine jx_iald c1 hm rfl sh_175 ⟨by omega, by omega⟩ k13 ?_
   exact jx_reti c2 hm rfl rfl ⟨_, rfl, hH1, hF1, by omega, by omega⟩
  by_cases h14 : a1 = 3
  ·
   refine jx_tswI c1 hm 93 rfl ⟨by omega, by omega⟩ (by rw [h14] <;> rfl) rfl ?_
   refine jx_load c1 hm rfl rfl rfl rfl ?_
   refine jx_load c1 hm rfl rfl rfl rfl ?_
   refine jv_i c3 hm rfl pj_X12_owesAll rfl rfl ⟨_, _, _, rfl, sh_173⟩ rfl ((ct_X12_owesAll_173 X (by omega) M1 hH1 a0 ⟨by omega, by omega⟩).le (by decide)) (fun z15 _ ⟨rfl, lz15, uz15⟩ => ?_)
   exact jx_reti c2 hm rfl rfl ⟨_, rfl, hH1, hF1, by omega, by omega⟩
  by_cases h16 : a1 = 4
  ·
   refine jx_tswI c1 hm 99 rfl ⟨by omega, by omega⟩ (by rw [h16] <;> rfl) rfl ?_
   refine jx_load c1 hm rfl rfl rfl rfl ?_
   refine jx_load c1 hm rfl rfl rfl rfl ?_
   refine jv_i c3 hm rfl pj_X12_owedAll rfl rfl ⟨_, _, _, rfl, sh_173⟩ rfl ((ct_X12_owedAll_173 X (by omega) M1 hH1 a0 ⟨by omega, by omega⟩).le (by decide)) (fun z17 _ ⟨rfl, lz17, uz17⟩ => ?_)
   exact jx_reti c2 hm rfl rfl ⟨_, rfl, hH1, hF1, by omega, by omega⟩
  by_cases h18 : a1 = 5
  ·
   refine jx_tswI c1 hm 105 rfl ⟨by omega, by omega⟩ (by rw [h18] <;> rfl) rfl ?_
   refine jx_load c1 hm rfl rfl rfl rfl ?_
   refine jx_load c1 hm rfl rfl rfl rfl ?_
   refine jv_i c3 hm rfl pj_X12_goodsOf rfl rfl ⟨_, _, _, rfl, sh_173⟩ rfl ((ct_X12_goodsOf_173 X (by omega) M1 hH1 a0 ⟨by omega, by omega⟩).le (by decide)) (fun z19 _ ⟨rfl, lz19, uz19⟩ => ?_)
   exact jx_reti c2 hm rfl rfl ⟨_, rfl, hH1, hF1, by omega, by omega⟩
  by_cases h20 : a1 = 6
  ·
   refine jx_tswI c1 hm 111 rfl ⟨by omega, by omega⟩ (by rw [h20] <;> rfl) rfl ?_
   refine jx_load c1 hm rfl rfl rfl rfl ?_
   refine jy_sp c1 hm rfl (by decide) ?_
   refine jy_bp c1 hm rfl (by decide) ?_
   refine jx_load c1 hm rfl rfl rfl rfl ?_
   refine jy_mul c1 hm (6 * a0) rfl (by omega) ?_
   refine jy_add c1 hm (6 * a0 + 156) rfl (by omega) ?_
   refine jy_bp c1 hm rfl (by decide) ?_
   refine jv_i c3 hm rfl pj_X12_sumOf rfl rfl ⟨_, _, _, rfl, sh_173⟩ rfl ((ct_X12_sumOf_173 X (by omega) M1 hH1 (6 * a0 + 156) ⟨by omega, by omega⟩ 6 ⟨by omega, by omega⟩).le (by decide)) (fun z21 _ ⟨rfl, lz21, uz21⟩ => ?_)
   exact jx_reti c2 hm rfl rfl ⟨_, rfl, hH1, hF1, by omega, by omega⟩
  by_cases h22 : a1 = 7
  ·
   refine jx_tswI c1 hm 126 rfl ⟨by omega, by omega⟩ (by rw [h22] <;> rfl) rfl ?_
   refine jx_load c1 hm rfl rfl rfl rfl ?_
   refine jx_getr c1 hm rfl sh_173 rfl ?_
   refine jy_sp c1 hm rfl (by decide) ?_
   refine jx_load c1 hm rfl rfl rfl rfl ?_
   refine jy_add c1 hm (a0 + 228) rfl (by omega) ?_
   obtain ⟨z23, k24, lz23, uz23⟩ := hH1.ld (c := 175) (i := ((a0 + 228)).toNat) (A := (-2147483648)) (B := 2147483647) (bs_11_11 _ _ (by omega) (by omega))
   refine jx_iald c1 hm rfl sh_175 ⟨by omega, by omega⟩ k24 ?_
   exact jx_reti c2 hm rfl rfl ⟨_, rfl, hH1, hF1, by omega, by omega⟩
  refine jx_tswO c1 hm 137 rfl (by omega) rfl ?_
  refine jx_load c1 hm rfl rfl rfl rfl ?_
  refine jv_i c3 hm rfl pj_X12_refuse rfl rfl ⟨_, _, _, rfl, sh_173⟩ rfl ((ct_X12_refuse_173 X (by omega) M1 hH1 ).le (by decide)) (fun z25 M26 ⟨hH26, hR26, lz25, uz25⟩ => ?_)
  have hF26 := hF1.tr hR26 (by decide +kernel)
  exact jx_reti c2 hm rfl rfl ⟨_, rfl, hH26, hF26, by omega, by omega⟩
 refine jx_load c1 hm rfl rfl rfl rfl ?_
 refine jv_i c3 hm rfl pj_X12_refuse rfl rfl ⟨_, _, _, rfl, sh_173⟩ rfl ((ct_X12_refuse_173 X (by omega) M1 hH1 ).le (by decide)) (fun z27 M28 ⟨hH28, hR28, lz27, uz27⟩ => ?_)
 have hF28 := hF1.tr hR28 (by decide +kernel)
 exact jx_reti c2 hm rfl rfl ⟨_, rfl, hH28, hF28, by omega, by omega⟩
theorem ct_X12_isForfeit_173 (X : Int) (hX : 0 ≤ X ∧ X ≤ 100000000) (M0 : JM) (hH0 : HI X M0) (a0 : Int) (ha0 : (-2147483648) ≤ a0 ∧ a0 ≤ 2147483647) : JOk shp PJ 2 116 [.inr (.inr (.inl 173)), .inl a0] M0 (jRi (fun v M' => M0 = M' ∧ 0 ≤ v ∧ v ≤ 1 ∧ (v = 1 → 0 ≤ a0 ∧ a0 ≤ 5))) := by
 refine ⟨jr_X12_isForfeit, pj_X12_isForfeit, fun F c1 c2 c3 => ?_⟩
 have hm := pj_X12_isForfeit
 change F 0 [some (.inr (.inr (.inl 173))), some (.inl a0)] [] M0
 refine jx_load c1 hm rfl rfl rfl rfl ?_
 refine jy_ic c1 hm rfl (by decide) ?_
 refine jx_load c1 hm rfl rfl rfl rfl ?_
 refine jx_getr c1 hm rfl sh_173 rfl ?_
 refine jy_ic c1 hm rfl (by decide) ?_
 obtain ⟨z1, k2, lz1, uz1⟩ := hH0.ld (c := 175) (i := 1) (A := 0) (B := 6) (bs_11_0 _ _ (by omega) (by omega))
 refine jx_iald c1 hm rfl sh_175 ⟨by omega, by omega⟩ k2 ?_
 refine jy_ic c1 hm rfl (by decide) ?_
 refine jy_sub c1 hm (z1 - 1) rfl (by omega) ?_
 refine jt_i c3 hm rfl rfl pj_X12_isIn rfl rfl rfl ((ct_X12_isIn X (by omega) M0 hH0 a0 ⟨by omega, by omega⟩ 0 ⟨by omega, by omega⟩ (z1 - 1) ⟨by omega, by omega⟩).le (by decide)) (fun z3 _ ⟨rfl, lz3, uz3, p4⟩ => ?_)
 exact jx_retz c2 hm rfl rfl ⟨by omega, by omega⟩ ⟨_, rfl, rfl, by omega, by omega, (by omega)⟩
theorem ct_X12_timesOf_173 (X : Int) (hX : 0 ≤ X ∧ X ≤ 100000000) (M0 : JM) (hH0 : HI X M0) (a0 : Int) (ha0 : 0 ≤ a0 ∧ a0 ≤ 5) (a1 : Int) (ha1 : 0 ≤ a1 ∧ a1 ≤ 5) : JOk shp PJ 1 195 [.inr (.inr (.inl 173)), .inl a0, .inl a1] M0 (jRi (fun v M' => M0 = M' ∧ 0 ≤ v ∧ v ≤ 100000000 ∧ (v = M0.1 175 (6 * a0 + a1 + 156).toNat))) := by
 refine ⟨jr_X12_timesOf, pj_X12_timesOf, fun F c1 c2 c3 => ?_⟩
 have hm := pj_X12_timesOf
 change F 0 [some (.inr (.inr (.inl 173))), some (.inl a0), some (.inl a1)] [] M0
 refine jx_load c1 hm rfl rfl rfl rfl ?_
 refine jx_getr c1 hm rfl sh_173 rfl ?_
 refine jy_sp c1 hm rfl (by decide) ?_
 refine jy_bp c1 hm rfl (by decide) ?_
 refine jx_load c1 hm rfl rfl rfl rfl ?_
 refine jy_mul c1 hm (6 * a0) rfl (by omega) ?_
 refine jy_add c1 hm (6 * a0 + 156) rfl (by omega) ?_
 refine jx_load c1 hm rfl rfl rfl rfl ?_
 refine jy_add c1 hm (6 * a0 + a1 + 156) rfl (by omega) ?_
 obtain ⟨z1, k2, lz1, uz1⟩ := hH0.ld (c := 175) (i := ((6 * a0 + a1 + 156)).toNat) (A := 0) (B := 1 * X) (bs_11_10 _ _ (by omega) (by omega))
 refine jx_iald c1 hm rfl sh_175 ⟨by omega, by omega⟩ k2 ?_
 exact jx_reti c2 hm rfl rfl ⟨_, rfl, rfl, by omega, by omega, (by omega)⟩
theorem ct_X12_least (X : Int) (hX : 0 ≤ X ∧ X ≤ 100000000) (M0 : JM) (hH0 : HI X M0) (a0 : Int) (ha0 : (-2147483648) ≤ a0 ∧ a0 ≤ 2147483647) (a1 : Int) (ha1 : (-2147483648) ≤ a1 ∧ a1 ≤ 2147483647) : JOk shp PJ 1 131 [.inl a0, .inl a1] M0 (jRi (fun v M' => M0 = M' ∧ (-2147483648) ≤ v ∧ v ≤ 2147483647 ∧ (v ≤ a0 ∧ v ≤ a1) ∧ (v = a0 ∨ v = a1))) := by
 refine ⟨jr_X12_least, pj_X12_least, fun F c1 c2 c3 => ?_⟩
 have hm := pj_X12_least
 change F 0 [some (.inl a0), some (.inl a1)] [] M0
 refine jx_load c1 hm rfl rfl rfl rfl ?_
 refine jx_load c1 hm rfl rfl rfl rfl ?_
 refine jc_ge c1 hm 9 rfl rfl (fun h1 => ?_) (fun h1 => ?_)
 ·
  refine jx_load c1 hm rfl rfl rfl rfl ?_
  exact jx_reti c2 hm rfl rfl ⟨_, rfl, rfl, by omega, by omega, (by omega), (by omega)⟩
 refine jx_load c1 hm rfl rfl rfl rfl ?_
 refine jx_goto c1 hm 10 rfl rfl ?_
 exact jx_reti c2 hm rfl rfl ⟨_, rfl, rfl, by omega, by omega, (by omega), (by omega)⟩
theorem ct_X12_costBy_173 (X : Int) (hX : 0 ≤ X ∧ X ≤ 100000000) (M0 : JM) (hH0 : HI X M0) (a0 : Int) (ha0 : 0 ≤ a0 ∧ a0 ≤ 5) (a1 : Int) (ha1 : 0 ≤ a1 ∧ a1 ≤ 5) (a2 : Int) (ha2 : (-2147483648) ≤ a2 ∧ a2 ≤ 2147483647) : JOk shp PJ 2 90 [.inr (.inr (.inl 173)), .inl a0, .inl a1, .inl a2] M0 (jRi (fun v M' => M0 = M' ∧ 0 ≤ v ∧ v ≤ 2147483647 ∧ (a2 < 0 ∨ v ≤ 20) ∧ (a2 < 0 ∨ v = cbv M0 a0 a1 a2))) := by
 refine ⟨jr_X12_costBy, pj_X12_costBy, fun F c1 c2 c3 => ?_⟩
 have hm := pj_X12_costBy
 change F 0 [some (.inr (.inr (.inl 173))), some (.inl a0), some (.inl a1), some (.inl a2), none, none] [] M0
 rcases (show (0 ≤ a2) ∨ (a2 < 0) by omega) with hs | hs
 ·
  refine jx_load c1 hm rfl rfl rfl rfl ?_
  refine jx_getr c1 hm rfl sh_173 rfl ?_
  refine jy_bp c1 hm rfl (by decide) ?_
  refine jy_bp c1 hm rfl (by decide) ?_
  refine jx_load c1 hm rfl rfl rfl rfl ?_
  refine jy_mul c1 hm (6 * a0) rfl (by omega) ?_
  refine jy_add c1 hm (6 * a0 + 17) rfl (by omega) ?_
  refine jx_load c1 hm rfl rfl rfl rfl ?_
  refine jy_add c1 hm (6 * a0 + a1 + 17) rfl (by omega) ?_
  obtain ⟨z1, k2, lz1, uz1⟩ := hH0.ld (c := 175) (i := ((6 * a0 + a1 + 17)).toNat) (A := (-1)) (B := 20) (bs_11_4 _ _ (by omega) (by omega))
  refine jx_iald c1 hm rfl sh_175 ⟨by omega, by omega⟩ k2 ?_
  refine jx_stor c1 hm (L' := [some (.inr (.inr (.inl 173))), some (.inl a0), some (.inl a1), some (.inl a2), some (.inl z1), none]) rfl rfl rfl rfl rfl ?_
  refine jx_load c1 hm rfl rfl rfl rfl ?_
  refine jz_ne c1 hm 23 rfl rfl (fun h3 => ?_) (fun h3 => ?_)
  ·
   refine jx_load c1 hm rfl rfl rfl rfl ?_
   refine jy_bp c1 hm rfl (by decide) ?_
   refine jx_load c1 hm rfl rfl rfl rfl ?_
   refine jt_i c3 hm rfl rfl pj_X12_least rfl rfl rfl ((ct_X12_least X (by omega) M0 hH0 20 ⟨by omega, by omega⟩ a2 ⟨by omega, by omega⟩).le (by decide)) (fun z4 _ ⟨rfl, lz4, uz4, p5, p6⟩ => ?_)
   refine jx_load c1 hm rfl rfl rfl rfl ?_
   refine jx_getr c1 hm rfl sh_173 rfl ?_
   refine jy_ic c1 hm rfl (by decide) ?_
   obtain ⟨z7, k8, lz7, uz7⟩ := hH0.ld (c := 175) (i := 3) (A := 0) (B := 9) (bs_11_1 _ _ (by omega) (by omega))
   refine jx_iald c1 hm rfl sh_175 ⟨by omega, by omega⟩ k8 ?_
   refine jy_mue c1 hm 20 9 180 rfl ⟨by omega, by omega, by omega, by omega⟩ (by decide) (fun z9 ez9 lz9 uz9 => ?_)
   refine jy_sub c1 hm (z1 - z9) rfl (by omega) ?_
   refine jx_stor c1 hm (L' := [some (.inr (.inr (.inl 173))), some (.inl a0), some (.inl a1), some (.inl a2), some (.inl z1), some (.inl (z1 - z9))]) rfl rfl rfl rfl rfl ?_
   refine jx_load c1 hm rfl rfl rfl rfl ?_
   refine jy_ic c1 hm rfl (by decide) ?_
   refine jc_ge c1 hm 51 rfl rfl (fun h10 => ?_) (fun h10 => ?_)
   ·
    refine jx_load c1 hm rfl rfl rfl rfl ?_
    exact jx_reti c2 hm rfl rfl ⟨_, rfl, rfl, by omega, by omega, (by omega), (Or.inr (by unfold cbv; rw [k2, k8]; exact (cbw_2 h3 p5 p6 ez9 (by omega)).symm))⟩
   refine jy_ic c1 hm rfl (by decide) ?_
   refine jx_goto c1 hm 53 rfl rfl ?_
   exact jx_reti c2 hm rfl rfl ⟨_, rfl, rfl, by omega, by omega, (by omega), (Or.inr (by unfold cbv; rw [k2, k8]; exact (cbw_1 h3 p5 p6 ez9 (by omega)).symm))⟩
  refine jy_ic c1 hm rfl (by decide) ?_
  exact jx_reti c2 hm rfl rfl ⟨_, rfl, rfl, by omega, by omega, (by omega), (Or.inr (by unfold cbv; rw [k2]; exact (cbw_0 (by omega)).symm))⟩
 ·
  refine jx_load c1 hm rfl rfl rfl rfl ?_
  refine jx_getr c1 hm rfl sh_173 rfl ?_
  refine jy_bp c1 hm rfl (by decide) ?_
  refine jy_bp c1 hm rfl (by decide) ?_
  refine jx_load c1 hm rfl rfl rfl rfl ?_
  refine jy_mul c1 hm (6 * a0) rfl (by omega) ?_
  refine jy_add c1 hm (6 * a0 + 17) rfl (by omega) ?_
  refine jx_load c1 hm rfl rfl rfl rfl ?_
  refine jy_add c1 hm (6 * a0 + a1 + 17) rfl (by omega) ?_
  obtain ⟨z11, k12, lz11, uz11⟩ := hH0.ld (c := 175) (i := ((6 * a0 + a1 + 17)).toNat) (A := (-1)) (B := 20) (bs_11_4 _ _ (by omega) (by omega))
  refine jx_iald c1 hm rfl sh_175 ⟨by omega, by omega⟩ k12 ?_
  refine jx_stor c1 hm (L' := [some (.inr (.inr (.inl 173))), some (.inl a0), some (.inl a1), some (.inl a2), some (.inl z11), none]) rfl rfl rfl rfl rfl ?_
  refine jx_load c1 hm rfl rfl rfl rfl ?_
  refine jz_ne c1 hm 23 rfl rfl (fun h13 => ?_) (fun h13 => ?_)
  ·
   refine jx_load c1 hm rfl rfl rfl rfl ?_
   refine jy_bp c1 hm rfl (by decide) ?_
   refine jx_load c1 hm rfl rfl rfl rfl ?_
   refine jt_i c3 hm rfl rfl pj_X12_least rfl rfl rfl ((ct_X12_least X (by omega) M0 hH0 20 ⟨by omega, by omega⟩ a2 ⟨by omega, by omega⟩).le (by decide)) (fun z14 _ ⟨rfl, lz14, uz14, p15, p16⟩ => ?_)
   refine jx_load c1 hm rfl rfl rfl rfl ?_
   refine jx_getr c1 hm rfl sh_173 rfl ?_
   refine jy_ic c1 hm rfl (by decide) ?_
   obtain ⟨z17, k18, lz17, uz17⟩ := hH0.ld (c := 175) (i := 3) (A := 0) (B := 9) (bs_11_1 _ _ (by omega) (by omega))
   refine jx_iald c1 hm rfl sh_175 ⟨by omega, by omega⟩ k18 ?_
   refine jx_iopw c1 hm rfl rfl (fun z19 lz19 uz19 => ?_)
   refine jx_iopw c1 hm rfl rfl (fun z20 lz20 uz20 => ?_)
   refine jx_stor c1 hm (L' := [some (.inr (.inr (.inl 173))), some (.inl a0), some (.inl a1), some (.inl a2), some (.inl z11), some (.inl z20)]) rfl rfl rfl rfl rfl ?_
   refine jx_load c1 hm rfl rfl rfl rfl ?_
   refine jy_ic c1 hm rfl (by decide) ?_
   refine jc_ge c1 hm 51 rfl rfl (fun h21 => ?_) (fun h21 => ?_)
   ·
    refine jx_load c1 hm rfl rfl rfl rfl ?_
    exact jx_reti c2 hm rfl rfl ⟨_, rfl, rfl, by omega, by omega, (by omega), (by omega)⟩
   refine jy_ic c1 hm rfl (by decide) ?_
   refine jx_goto c1 hm 53 rfl rfl ?_
   exact jx_reti c2 hm rfl rfl ⟨_, rfl, rfl, by omega, by omega, (by omega), (by omega)⟩
  refine jy_ic c1 hm rfl (by decide) ?_
  exact jx_reti c2 hm rfl rfl ⟨_, rfl, rfl, by omega, by omega, (by omega), (by omega)⟩
theorem ct_X12_costOf_173 (X : Int) (hX : 0 ≤ X ∧ X ≤ 100000000) (M0 : JM) (hH0 : HI X M0) (a0 : Int) (ha0 : 0 ≤ a0 ∧ a0 ≤ 5) (a1 : Int) (ha1 : 0 ≤ a1 ∧ a1 ≤ 5) : JOk shp PJ 3 91 [.inr (.inr (.inl 173)), .inl a0, .inl a1] M0 (jRi (fun v M' => M0 = M' ∧ 0 ≤ v ∧ v ≤ 20 ∧ (v = cbv M0 a0 a1 (M0.1 175 (6 * a0 + a1 + 156).toNat)))) := by
 refine ⟨jr_X12_costOf, pj_X12_costOf, fun F c1 c2 c3 => ?_⟩
 have hm := pj_X12_costOf
 change F 0 [some (.inr (.inr (.inl 173))), some (.inl a0), some (.inl a1)] [] M0
 refine jx_load c1 hm rfl rfl rfl rfl ?_
 refine jx_load c1 hm rfl rfl rfl rfl ?_
 refine jx_load c1 hm rfl rfl rfl rfl ?_
 refine jx_load c1 hm rfl rfl rfl rfl ?_
 refine jx_load c1 hm rfl rfl rfl rfl ?_
 refine jx_load c1 hm rfl rfl rfl rfl ?_
 refine jv_i c3 hm rfl pj_X12_timesOf rfl rfl ⟨_, _, _, rfl, sh_173⟩ rfl ((ct_X12_timesOf_173 X (by omega) M0 hH0 a0 ⟨by omega, by omega⟩ a1 ⟨by omega, by omega⟩).le (by decide)) (fun z1 _ ⟨rfl, lz1, uz1, p2⟩ => ?_)
 refine jv_i c3 hm rfl pj_X12_costBy rfl rfl ⟨_, _, _, rfl, sh_173⟩ rfl ((ct_X12_costBy_173 X (by omega) M0 hH0 a0 ⟨by omega, by omega⟩ a1 ⟨by omega, by omega⟩ z1 ⟨by omega, by omega⟩).le (by decide)) (fun z3 _ ⟨rfl, lz3, uz3, p4, p5⟩ => ?_)
 exact jx_reti c2 hm rfl rfl ⟨_, rfl, rfl, by omega, by omega, (by rw [← p2]; omega)⟩
def md_X12_cost_173 : List (Nat × (Nat × Nat)) := [(173, (0, 0))]
theorem ct_X12_cost_173 (X : Int) (hX : 0 ≤ X ∧ X ≤ 100000000) (M0 : JM) (hH0 : HI X M0) (a0 : Int) (ha0 : (-2147483648) ≤ a0 ∧ a0 ≤ 2147483647) (a1 : Int) (ha1 : (-2147483648) ≤ a1 ∧ a1 ≤ 2147483647) : JOk shp PJ 4 89 [.inr (.inr (.inl 173)), .inl a0, .inl a1] M0 (jRi (fun v M' => HI X M' ∧ Fr md_X12_cost_173 M0 M' ∧ (-1) ≤ v ∧ v ≤ 20 )) := by
 refine ⟨jr_X12_cost, pj_X12_cost, fun F c1 c2 c3 => ?_⟩
 have hm := pj_X12_cost
 change F 0 [some (.inr (.inr (.inl 173))), some (.inl a0), some (.inl a1)] [] M0
 have hF0 : Fr md_X12_cost_173 M0 M0 := Fr.rf _ _
 refine jx_load c1 hm rfl rfl rfl rfl ?_
 refine jy_ic c1 hm rfl (by decide) ?_
 obtain ⟨M1, e1, hH1, hF1, k1, n1, q1⟩ := mup hH0 hF0 (c := 173) (i := 0) (v := 0) (A := (-2147483648)) (B := 2147483647) (bs_28_0 _ _ (by omega) (by omega)) ⟨by omega, by omega⟩ (jin_of 0 rfl ⟨by omega, by omega⟩)
 refine jm_puti c1 hm rfl sh_173 rfl e1 ?_
 refine jx_load c1 hm rfl rfl rfl rfl ?_
 refine jx_load c1 hm rfl rfl rfl rfl ?_
 refine jv_i c3 hm rfl pj_X12_isMan rfl rfl ⟨_, _, _, rfl, sh_173⟩ rfl ((ct_X12_isMan_173 X (by omega) M1 hH1 a0 ⟨by omega, by omega⟩).le (by decide)) (fun z2 _ ⟨rfl, lz2, uz2, p3⟩ => ?_)
 refine jz_eq c1 hm 30 rfl rfl (fun h4 => ?_) (fun h4 => ?_)
 ·
  refine jy_ic c1 hm rfl (by decide) ?_
  exact jx_reti c2 hm rfl rfl ⟨_, rfl, hH1, hF1, by omega, by omega⟩
 refine jx_load c1 hm rfl rfl rfl rfl ?_
 refine jx_load c1 hm rfl rfl rfl rfl ?_
 refine jv_i c3 hm rfl pj_X12_isForfeit rfl rfl ⟨_, _, _, rfl, sh_173⟩ rfl ((ct_X12_isForfeit_173 X (by omega) M1 hH1 a1 ⟨by omega, by omega⟩).le (by decide)) (fun z5 _ ⟨rfl, lz5, uz5, p6⟩ => ?_)
 refine jz_eq c1 hm 30 rfl rfl (fun h7 => ?_) (fun h7 => ?_)
 ·
  refine jy_ic c1 hm rfl (by decide) ?_
  exact jx_reti c2 hm rfl rfl ⟨_, rfl, hH1, hF1, by omega, by omega⟩
 refine jx_load c1 hm rfl rfl rfl rfl ?_
 refine jx_load c1 hm rfl rfl rfl rfl ?_
 refine jx_load c1 hm rfl rfl rfl rfl ?_
 refine jv_i c3 hm rfl pj_X12_costOf rfl rfl ⟨_, _, _, rfl, sh_173⟩ rfl ((ct_X12_costOf_173 X (by omega) M1 hH1 a0 ⟨by omega, by omega⟩ a1 ⟨by omega, by omega⟩).le (by decide)) (fun z8 _ ⟨rfl, lz8, uz8, p9⟩ => ?_)
 refine jx_goto c1 hm 31 rfl rfl ?_
 exact jx_reti c2 hm rfl rfl ⟨_, rfl, hH1, hF1, by omega, by omega⟩
def md_X12_times_173 : List (Nat × (Nat × Nat)) := [(173, (0, 0))]
theorem ct_X12_times_173 (X : Int) (hX : 0 ≤ X ∧ X ≤ 100000000) (M0 : JM) (hH0 : HI X M0) (a0 : Int) (ha0 : (-2147483648) ≤ a0 ∧ a0 ≤ 2147483647) (a1 : Int) (ha1 : (-2147483648) ≤ a1 ∧ a1 ≤ 2147483647) : JOk shp PJ 3 194 [.inr (.inr (.inl 173)), .inl a0, .inl a1] M0 (jRi (fun v M' => HI X M' ∧ Fr md_X12_times_173 M0 M' ∧ (-1) ≤ v ∧ v ≤ 100000000 )) := by
 refine ⟨jr_X12_times, pj_X12_times, fun F c1 c2 c3 => ?_⟩
 have hm := pj_X12_times
 change F 0 [some (.inr (.inr (.inl 173))), some (.inl a0), some (.inl a1)] [] M0
 have hF0 : Fr md_X12_times_173 M0 M0 := Fr.rf _ _
 refine jx_load c1 hm rfl rfl rfl rfl ?_
 refine jy_ic c1 hm rfl (by decide) ?_
 obtain ⟨M1, e1, hH1, hF1, k1, n1, q1⟩ := mup hH0 hF0 (c := 173) (i := 0) (v := 0) (A := (-2147483648)) (B := 2147483647) (bs_28_0 _ _ (by omega) (by omega)) ⟨by omega, by omega⟩ (jin_of 0 rfl ⟨by omega, by omega⟩)
 refine jm_puti c1 hm rfl sh_173 rfl e1 ?_
 refine jx_load c1 hm rfl rfl rfl rfl ?_
 refine jx_load c1 hm rfl rfl rfl rfl ?_
 refine jv_i c3 hm rfl pj_X12_isMan rfl rfl ⟨_, _, _, rfl, sh_173⟩ rfl ((ct_X12_isMan_173 X (by omega) M1 hH1 a0 ⟨by omega, by omega⟩).le (by decide)) (fun z2 _ ⟨rfl, lz2, uz2, p3⟩ => ?_)
 refine jz_eq c1 hm 30 rfl rfl (fun h4 => ?_) (fun h4 => ?_)
 ·
  refine jy_ic c1 hm rfl (by decide) ?_
  exact jx_reti c2 hm rfl rfl ⟨_, rfl, hH1, hF1, by omega, by omega⟩
 refine jx_load c1 hm rfl rfl rfl rfl ?_
 refine jx_load c1 hm rfl rfl rfl rfl ?_
 refine jv_i c3 hm rfl pj_X12_isForfeit rfl rfl ⟨_, _, _, rfl, sh_173⟩ rfl ((ct_X12_isForfeit_173 X (by omega) M1 hH1 a1 ⟨by omega, by omega⟩).le (by decide)) (fun z5 _ ⟨rfl, lz5, uz5, p6⟩ => ?_)
 refine jz_eq c1 hm 30 rfl rfl (fun h7 => ?_) (fun h7 => ?_)
 ·
  refine jy_ic c1 hm rfl (by decide) ?_
  exact jx_reti c2 hm rfl rfl ⟨_, rfl, hH1, hF1, by omega, by omega⟩
 refine jx_load c1 hm rfl rfl rfl rfl ?_
 refine jx_load c1 hm rfl rfl rfl rfl ?_
 refine jx_load c1 hm rfl rfl rfl rfl ?_
 refine jv_i c3 hm rfl pj_X12_timesOf rfl rfl ⟨_, _, _, rfl, sh_173⟩ rfl ((ct_X12_timesOf_173 X (by omega) M1 hH1 a0 ⟨by omega, by omega⟩ a1 ⟨by omega, by omega⟩).le (by decide)) (fun z8 _ ⟨rfl, lz8, uz8, p9⟩ => ?_)
 refine jx_goto c1 hm 31 rfl rfl ?_
 exact jx_reti c2 hm rfl rfl ⟨_, rfl, hH1, hF1, by omega, by omega⟩
theorem ct_X12_isGood_173 (X : Int) (hX : 0 ≤ X ∧ X ≤ 100000000) (M0 : JM) (hH0 : HI X M0) (a0 : Int) (ha0 : (-2147483648) ≤ a0 ∧ a0 ≤ 2147483647) : JOk shp PJ 2 117 [.inr (.inr (.inl 173)), .inl a0] M0 (jRi (fun v M' => M0 = M' ∧ 0 ≤ v ∧ v ≤ 1 ∧ (v = 1 → 0 ≤ a0 ∧ a0 ≤ 5))) := by
 refine ⟨jr_X12_isGood, pj_X12_isGood, fun F c1 c2 c3 => ?_⟩
 have hm := pj_X12_isGood
 change F 0 [some (.inr (.inr (.inl 173))), some (.inl a0)] [] M0
 refine jx_load c1 hm rfl rfl rfl rfl ?_
 refine jy_ic c1 hm rfl (by decide) ?_
 refine jx_load c1 hm rfl rfl rfl rfl ?_
 refine jx_getr c1 hm rfl sh_173 rfl ?_
 refine jy_ic c1 hm rfl (by decide) ?_
 obtain ⟨z1, k2, lz1, uz1⟩ := hH0.ld (c := 175) (i := 2) (A := 0) (B := 6) (bs_11_0 _ _ (by omega) (by omega))
 refine jx_iald c1 hm rfl sh_175 ⟨by omega, by omega⟩ k2 ?_
 refine jy_ic c1 hm rfl (by decide) ?_
 refine jy_sub c1 hm (z1 - 1) rfl (by omega) ?_
 refine jt_i c3 hm rfl rfl pj_X12_isIn rfl rfl rfl ((ct_X12_isIn X (by omega) M0 hH0 a0 ⟨by omega, by omega⟩ 0 ⟨by omega, by omega⟩ (z1 - 1) ⟨by omega, by omega⟩).le (by decide)) (fun z3 _ ⟨rfl, lz3, uz3, p4⟩ => ?_)
 exact jx_retz c2 hm rfl rfl ⟨by omega, by omega⟩ ⟨_, rfl, rfl, by omega, by omega, (by omega)⟩
def md_X12_bought_173 : List (Nat × (Nat × Nat)) := [(173, (0, 0))]
theorem ct_X12_bought_173 (X : Int) (hX : 0 ≤ X ∧ X ≤ 100000000) (M0 : JM) (hH0 : HI X M0) (a0 : Int) (ha0 : (-2147483648) ≤ a0 ∧ a0 ≤ 2147483647) (a1 : Int) (ha1 : (-2147483648) ≤ a1 ∧ a1 ≤ 2147483647) : JOk shp PJ 3 84 [.inr (.inr (.inl 173)), .inl a0, .inl a1] M0 (jRi (fun v M' => HI X M' ∧ Fr md_X12_bought_173 M0 M' ∧ (-2147483648) ≤ v ∧ v ≤ 2147483647 )) := by
 refine ⟨jr_X12_bought, pj_X12_bought, fun F c1 c2 c3 => ?_⟩
 have hm := pj_X12_bought
 change F 0 [some (.inr (.inr (.inl 173))), some (.inl a0), some (.inl a1)] [] M0
 have hF0 : Fr md_X12_bought_173 M0 M0 := Fr.rf _ _
 refine jx_load c1 hm rfl rfl rfl rfl ?_
 refine jy_ic c1 hm rfl (by decide) ?_
 obtain ⟨M1, e1, hH1, hF1, k1, n1, q1⟩ := mup hH0 hF0 (c := 173) (i := 0) (v := 0) (A := (-2147483648)) (B := 2147483647) (bs_28_0 _ _ (by omega) (by omega)) ⟨by omega, by omega⟩ (jin_of 0 rfl ⟨by omega, by omega⟩)
 refine jm_puti c1 hm rfl sh_173 rfl e1 ?_
 refine jx_load c1 hm rfl rfl rfl rfl ?_
 refine jx_load c1 hm rfl rfl rfl rfl ?_
 refine jv_i c3 hm rfl pj_X12_isMan rfl rfl ⟨_, _, _, rfl, sh_173⟩ rfl ((ct_X12_isMan_173 X (by omega) M1 hH1 a0 ⟨by omega, by omega⟩).le (by decide)) (fun z2 _ ⟨rfl, lz2, uz2, p3⟩ => ?_)
 refine jz_eq c1 hm 39 rfl rfl (fun h4 => ?_) (fun h4 => ?_)
 ·
  refine jy_ic c1 hm rfl (by decide) ?_
  exact jx_reti c2 hm rfl rfl ⟨_, rfl, hH1, hF1, by omega, by omega⟩
 refine jx_load c1 hm rfl rfl rfl rfl ?_
 refine jx_load c1 hm rfl rfl rfl rfl ?_
 refine jv_i c3 hm rfl pj_X12_isGood rfl rfl ⟨_, _, _, rfl, sh_173⟩ rfl ((ct_X12_isGood_173 X (by omega) M1 hH1 a1 ⟨by omega, by omega⟩).le (by decide)) (fun z5 _ ⟨rfl, lz5, uz5, p6⟩ => ?_)
 refine jz_eq c1 hm 39 rfl rfl (fun h7 => ?_) (fun h7 => ?_)
 ·
  refine jy_ic c1 hm rfl (by decide) ?_
  exact jx_reti c2 hm rfl rfl ⟨_, rfl, hH1, hF1, by omega, by omega⟩
 refine jx_load c1 hm rfl rfl rfl rfl ?_
 refine jx_getr c1 hm rfl sh_173 rfl ?_
 refine jy_sp c1 hm rfl (by decide) ?_
 refine jy_bp c1 hm rfl (by decide) ?_
 refine jx_load c1 hm rfl rfl rfl rfl ?_
 refine jy_mul c1 hm (6 * a0) rfl (by omega) ?_
 refine jy_add c1 hm (6 * a0 + 192) rfl (by omega) ?_
 refine jx_load c1 hm rfl rfl rfl rfl ?_
 refine jy_add c1 hm (6 * a0 + a1 + 192) rfl (by omega) ?_
 obtain ⟨z8, k9, lz8, uz8⟩ := hH1.ld (c := 175) (i := ((6 * a0 + a1 + 192)).toNat) (A := (-2147483648)) (B := 2147483647) (bs_11_11 _ _ (by omega) (by omega))
 refine jx_iald c1 hm rfl sh_175 ⟨by omega, by omega⟩ k9 ?_
 refine jx_goto c1 hm 40 rfl rfl ?_
 exact jx_reti c2 hm rfl rfl ⟨_, rfl, hH1, hF1, by omega, by omega⟩
def md_X12_good_173 : List (Nat × (Nat × Nat)) := [(173, (0, 0))]
theorem ct_X12_good_173 (X : Int) (hX : 0 ≤ X ∧ X ≤ 100000000) (M0 : JM) (hH0 : HI X M0) (a0 : Int) (ha0 : (-2147483648) ≤ a0 ∧ a0 ≤ 2147483647) (a1 : Int) (ha1 : (-2147483648) ≤ a1 ∧ a1 ≤ 2147483647) : JOk shp PJ 3 110 [.inr (.inr (.inl 173)), .inl a0, .inl a1] M0 (jRi (fun v M' => HI X M' ∧ Fr md_X12_good_173 M0 M' ∧ (-2147483648) ≤ v ∧ v ≤ 2147483647 )) := by
 refine ⟨jr_X12_good, pj_X12_good, fun F c1 c2 c3 => ?_⟩
 have hm := pj_X12_good
 change F 0 [some (.inr (.inr (.inl 173))), some (.inl a0), some (.inl a1)] [] M0
 have hF0 : Fr md_X12_good_173 M0 M0 := Fr.rf _ _
 refine jx_load c1 hm rfl rfl rfl rfl ?_
 refine jy_ic c1 hm rfl (by decide) ?_
 obtain ⟨M1, e1, hH1, hF1, k1, n1, q1⟩ := mup hH0 hF0 (c := 173) (i := 0) (v := 0) (A := (-2147483648)) (B := 2147483647) (bs_28_0 _ _ (by omega) (by omega)) ⟨by omega, by omega⟩ (jin_of 0 rfl ⟨by omega, by omega⟩)
 refine jm_puti c1 hm rfl sh_173 rfl e1 ?_
 refine jx_load c1 hm rfl rfl rfl rfl ?_
 refine jx_load c1 hm rfl rfl rfl rfl ?_
 refine jv_i c3 hm rfl pj_X12_isGood rfl rfl ⟨_, _, _, rfl, sh_173⟩ rfl ((ct_X12_isGood_173 X (by omega) M1 hH1 a0 ⟨by omega, by omega⟩).le (by decide)) (fun z2 _ ⟨rfl, lz2, uz2, p3⟩ => ?_)
 refine jz_ne c1 hm 15 rfl rfl (fun h4 => ?_) (fun h4 => ?_)
 ·
  refine jx_load c1 hm rfl rfl rfl rfl ?_
  refine jz_ne c1 hm 31 rfl rfl (fun h5 => ?_) (fun h5 => ?_)
  ·
   refine jx_load c1 hm rfl rfl rfl rfl ?_
   refine jy_ic c1 hm rfl (by decide) ?_
   refine jc_ne c1 hm 48 rfl rfl (fun h6 => ?_) (fun h6 => ?_)
   ·
    refine jy_ic c1 hm rfl (by decide) ?_
    exact jx_reti c2 hm rfl rfl ⟨_, rfl, hH1, hF1, by omega, by omega⟩
   refine jx_load c1 hm rfl rfl rfl rfl ?_
   refine jx_getr c1 hm rfl sh_173 rfl ?_
   refine jy_bp c1 hm rfl (by decide) ?_
   refine jx_load c1 hm rfl rfl rfl rfl ?_
   refine jy_add c1 hm (a0 + 114) rfl (by omega) ?_
   obtain ⟨z7, k8, lz7, uz7⟩ := hH1.ld (c := 175) (i := ((a0 + 114)).toNat) (A := (-2147483648)) (B := 2147483647) (bs_11_9 _ _ (by omega) (by omega))
   refine jx_iald c1 hm rfl sh_175 ⟨by omega, by omega⟩ k8 ?_
   refine jx_goto c1 hm 49 rfl rfl ?_
   exact jx_reti c2 hm rfl rfl ⟨_, rfl, hH1, hF1, by omega, by omega⟩
  refine jx_load c1 hm rfl rfl rfl rfl ?_
  refine jx_getr c1 hm rfl sh_173 rfl ?_
  refine jy_bp c1 hm rfl (by decide) ?_
  refine jx_load c1 hm rfl rfl rfl rfl ?_
  refine jy_add c1 hm (a0 + 53) rfl (by omega) ?_
  obtain ⟨z9, k10, lz9, uz9⟩ := hH1.ld (c := 175) (i := ((a0 + 53)).toNat) (A := 0) (B := 99) (bs_11_5 _ _ (by omega) (by omega))
  refine jx_iald c1 hm rfl sh_175 ⟨by omega, by omega⟩ k10 ?_
  refine jx_goto c1 hm 49 rfl rfl ?_
  exact jx_reti c2 hm rfl rfl ⟨_, rfl, hH1, hF1, by omega, by omega⟩
 refine jy_ic c1 hm rfl (by decide) ?_
 exact jx_reti c2 hm rfl rfl ⟨_, rfl, hH1, hF1, by omega, by omega⟩
def md_X12_owes_173 : List (Nat × (Nat × Nat)) := [(173, (0, 0))]
theorem ct_X12_owes_173 (X : Int) (hX : 0 ≤ X ∧ X ≤ 100000000) (M0 : JM) (hH0 : HI X M0) (a0 : Int) (ha0 : (-2147483648) ≤ a0 ∧ a0 ≤ 2147483647) (a1 : Int) (ha1 : (-2147483648) ≤ a1 ∧ a1 ≤ 2147483647) : JOk shp PJ 3 143 [.inr (.inr (.inl 173)), .inl a0, .inl a1] M0 (jRi (fun v M' => HI X M' ∧ Fr md_X12_owes_173 M0 M' ∧ (-2147483648) ≤ v ∧ v ≤ 2147483647 )) := by
 refine ⟨jr_X12_owes, pj_X12_owes, fun F c1 c2 c3 => ?_⟩
 have hm := pj_X12_owes
 change F 0 [some (.inr (.inr (.inl 173))), some (.inl a0), some (.inl a1)] [] M0
 have hF0 : Fr md_X12_owes_173 M0 M0 := Fr.rf _ _
 refine jx_load c1 hm rfl rfl rfl rfl ?_
 refine jy_ic c1 hm rfl (by decide) ?_
 obtain ⟨M1, e1, hH1, hF1, k1, n1, q1⟩ := mup hH0 hF0 (c := 173) (i := 0) (v := 0) (A := (-2147483648)) (B := 2147483647) (bs_28_0 _ _ (by omega) (by omega)) ⟨by omega, by omega⟩ (jin_of 0 rfl ⟨by omega, by omega⟩)
 refine jm_puti c1 hm rfl sh_173 rfl e1 ?_
 refine jx_load c1 hm rfl rfl rfl rfl ?_
 refine jx_load c1 hm rfl rfl rfl rfl ?_
 refine jv_i c3 hm rfl pj_X12_isMan rfl rfl ⟨_, _, _, rfl, sh_173⟩ rfl ((ct_X12_isMan_173 X (by omega) M1 hH1 a0 ⟨by omega, by omega⟩).le (by decide)) (fun z2 _ ⟨rfl, lz2, uz2, p3⟩ => ?_)
 refine jz_eq c1 hm 30 rfl rfl (fun h4 => ?_) (fun h4 => ?_)
 ·
  refine jy_ic c1 hm rfl (by decide) ?_
  exact jx_reti c2 hm rfl rfl ⟨_, rfl, hH1, hF1, by omega, by omega⟩
 refine jx_load c1 hm rfl rfl rfl rfl ?_
 refine jx_load c1 hm rfl rfl rfl rfl ?_
 refine jv_i c3 hm rfl pj_X12_isMan rfl rfl ⟨_, _, _, rfl, sh_173⟩ rfl ((ct_X12_isMan_173 X (by omega) M1 hH1 a1 ⟨by omega, by omega⟩).le (by decide)) (fun z5 _ ⟨rfl, lz5, uz5, p6⟩ => ?_)
 refine jz_eq c1 hm 30 rfl rfl (fun h7 => ?_) (fun h7 => ?_)
 ·
  refine jy_ic c1 hm rfl (by decide) ?_
  exact jx_reti c2 hm rfl rfl ⟨_, rfl, hH1, hF1, by omega, by omega⟩
 refine jx_load c1 hm rfl rfl rfl rfl ?_
 refine jx_load c1 hm rfl rfl rfl rfl ?_
 refine jx_load c1 hm rfl rfl rfl rfl ?_
 refine jv_i c3 hm rfl pj_X12_owesOf rfl rfl ⟨_, _, _, rfl, sh_173⟩ rfl ((ct_X12_owesOf_173 X (by omega) M1 hH1 a0 ⟨by omega, by omega⟩ a1 ⟨by omega, by omega⟩).le (by decide)) (fun z8 _ ⟨rfl, lz8, uz8, p9⟩ => ?_)
 refine jx_goto c1 hm 31 rfl rfl ?_
 exact jx_reti c2 hm rfl rfl ⟨_, rfl, hH1, hF1, by omega, by omega⟩
def md_X12_now_173 : List (Nat × (Nat × Nat)) := [(173, (0, 0))]
theorem ct_X12_now_173 (X : Int) (hX : 0 ≤ X ∧ X ≤ 100000000) (M0 : JM) (hH0 : HI X M0) (a0 : Int) (ha0 : (-2147483648) ≤ a0 ∧ a0 ≤ 2147483647) : JOk shp PJ 2 138 [.inr (.inr (.inl 173)), .inl a0] M0 (jRi (fun v M' => HI X M' ∧ Fr md_X12_now_173 M0 M' ∧ (-2147483648) ≤ v ∧ v ≤ 2147483647 )) := by
 refine ⟨jr_X12_now, pj_X12_now, fun F c1 c2 c3 => ?_⟩
 have hm := pj_X12_now
 change F 0 [some (.inr (.inr (.inl 173))), some (.inl a0)] [] M0
 have hF0 : Fr md_X12_now_173 M0 M0 := Fr.rf _ _
 refine jx_load c1 hm rfl rfl rfl rfl ?_
 refine jy_ic c1 hm rfl (by decide) ?_
 obtain ⟨M1, e1, hH1, hF1, k1, n1, q1⟩ := mup hH0 hF0 (c := 173) (i := 0) (v := 0) (A := (-2147483648)) (B := 2147483647) (bs_28_0 _ _ (by omega) (by omega)) ⟨by omega, by omega⟩ (jin_of 0 rfl ⟨by omega, by omega⟩)
 refine jm_puti c1 hm rfl sh_173 rfl e1 ?_
 refine jx_load c1 hm rfl rfl rfl rfl ?_
 by_cases h2 : a0 = 0
 ·
  refine jx_tswI c1 hm 44 rfl ⟨by omega, by omega⟩ (by rw [h2] <;> rfl) rfl ?_
  refine jx_load c1 hm rfl rfl rfl rfl ?_
  refine jx_getr c1 hm rfl sh_173 rfl ?_
  refine jy_bp c1 hm rfl (by decide) ?_
  obtain ⟨z3, k4, lz3, uz3⟩ := hH1.ld (c := 175) (i := 101) (A := (-2147483648)) (B := 2147483647) (bs_11_7 _ _ (by omega) (by omega))
  refine jx_iald c1 hm rfl sh_175 ⟨by omega, by omega⟩ k4 ?_
  exact jx_reti c2 hm rfl rfl ⟨_, rfl, hH1, hF1, by omega, by omega⟩
 by_cases h5 : a0 = 1
 ·
  refine jx_tswI c1 hm 52 rfl ⟨by omega, by omega⟩ (by rw [h5] <;> rfl) rfl ?_
  refine jx_load c1 hm rfl rfl rfl rfl ?_
  refine jy_bp c1 hm rfl (by decide) ?_
  refine jy_bp c1 hm rfl (by decide) ?_
  refine jv_i c3 hm rfl pj_X12_sumOf rfl rfl ⟨_, _, _, rfl, sh_173⟩ rfl ((ct_X12_sumOf_173 X (by omega) M1 hH1 102 ⟨by omega, by omega⟩ 6 ⟨by omega, by omega⟩).le (by decide)) (fun z6 _ ⟨rfl, lz6, uz6⟩ => ?_)
  exact jx_reti c2 hm rfl rfl ⟨_, rfl, hH1, hF1, by omega, by omega⟩
 by_cases h7 : a0 = 2
 ·
  refine jx_tswI c1 hm 61 rfl ⟨by omega, by omega⟩ (by rw [h7] <;> rfl) rfl ?_
  refine jx_load c1 hm rfl rfl rfl rfl ?_
  refine jy_bp c1 hm rfl (by decide) ?_
  refine jy_bp c1 hm rfl (by decide) ?_
  refine jv_i c3 hm rfl pj_X12_sumOf rfl rfl ⟨_, _, _, rfl, sh_173⟩ rfl ((ct_X12_sumOf_173 X (by omega) M1 hH1 108 ⟨by omega, by omega⟩ 6 ⟨by omega, by omega⟩).le (by decide)) (fun z8 _ ⟨rfl, lz8, uz8⟩ => ?_)
  exact jx_reti c2 hm rfl rfl ⟨_, rfl, hH1, hF1, by omega, by omega⟩
 by_cases h9 : a0 = 3
 ·
  refine jx_tswI c1 hm 70 rfl ⟨by omega, by omega⟩ (by rw [h9] <;> rfl) rfl ?_
  refine jx_load c1 hm rfl rfl rfl rfl ?_
  refine jy_bp c1 hm rfl (by decide) ?_
  refine jy_bp c1 hm rfl (by decide) ?_
  refine jv_i c3 hm rfl pj_X12_sumOf rfl rfl ⟨_, _, _, rfl, sh_173⟩ rfl ((ct_X12_sumOf_173 X (by omega) M1 hH1 120 ⟨by omega, by omega⟩ 36 ⟨by omega, by omega⟩).le (by decide)) (fun z10 _ ⟨rfl, lz10, uz10⟩ => ?_)
  exact jx_reti c2 hm rfl rfl ⟨_, rfl, hH1, hF1, by omega, by omega⟩
 by_cases h11 : a0 = 4
 ·
  refine jx_tswI c1 hm 79 rfl ⟨by omega, by omega⟩ (by rw [h11] <;> rfl) rfl ?_
  refine jx_load c1 hm rfl rfl rfl rfl ?_
  refine jy_sp c1 hm rfl (by decide) ?_
  refine jy_bp c1 hm rfl (by decide) ?_
  refine jv_i c3 hm rfl pj_X12_sumOf rfl rfl ⟨_, _, _, rfl, sh_173⟩ rfl ((ct_X12_sumOf_173 X (by omega) M1 hH1 156 ⟨by omega, by omega⟩ 36 ⟨by omega, by omega⟩).le (by decide)) (fun z12 _ ⟨rfl, lz12, uz12⟩ => ?_)
  exact jx_reti c2 hm rfl rfl ⟨_, rfl, hH1, hF1, by omega, by omega⟩
 by_cases h13 : a0 = 5
 ·
  refine jx_tswI c1 hm 89 rfl ⟨by omega, by omega⟩ (by rw [h13] <;> rfl) rfl ?_
  refine jx_load c1 hm rfl rfl rfl rfl ?_
  refine jy_sp c1 hm rfl (by decide) ?_
  refine jy_bp c1 hm rfl (by decide) ?_
  refine jv_i c3 hm rfl pj_X12_sumOf rfl rfl ⟨_, _, _, rfl, sh_173⟩ rfl ((ct_X12_sumOf_173 X (by omega) M1 hH1 192 ⟨by omega, by omega⟩ 36 ⟨by omega, by omega⟩).le (by decide)) (fun z14 _ ⟨rfl, lz14, uz14⟩ => ?_)
  exact jx_reti c2 hm rfl rfl ⟨_, rfl, hH1, hF1, by omega, by omega⟩
 refine jx_tswO c1 hm 99 rfl (by omega) rfl ?_
 refine jy_ic c1 hm rfl (by decide) ?_
 exact jx_reti c2 hm rfl rfl ⟨_, rfl, hH1, hF1, by omega, by omega⟩
def md_X12_undo_173 : List (Nat × (Nat × Nat)) := [(173, (0, 0)), (173, (23, 23)), (175, (101, 233))]
theorem ct_X12_undo_173 (X : Int) (hX : 0 ≤ X ∧ X ≤ 100000000) (M0 : JM) (hH0 : HI X M0)  : JOk shp PJ 1 198 [.inr (.inr (.inl 173))] M0 (jRi (fun v M' => HI X M' ∧ Fr md_X12_undo_173 M0 M' ∧ (-1) ≤ v ∧ v ≤ 7 )) := by
 refine ⟨jr_X12_undo, pj_X12_undo, fun F c1 c2 c3 => ?_⟩
 have hm := pj_X12_undo
 change F 0 [some (.inr (.inr (.inl 173))), none] [] M0
 have hF0 : Fr md_X12_undo_173 M0 M0 := Fr.rf _ _
 refine jx_load c1 hm rfl rfl rfl rfl ?_
 refine jy_ic c1 hm rfl (by decide) ?_
 obtain ⟨M1, e1, hH1, hF1, k1, n1, q1⟩ := mup hH0 hF0 (c := 173) (i := 0) (v := 0) (A := (-2147483648)) (B := 2147483647) (bs_28_0 _ _ (by omega) (by omega)) ⟨by omega, by omega⟩ (jin_of 0 rfl ⟨by omega, by omega⟩)
 refine jm_puti c1 hm rfl sh_173 rfl e1 ?_
 refine jx_load c1 hm rfl rfl rfl rfl ?_
 obtain ⟨z2, k3, lz2, uz2⟩ := hH1.ld (c := 173) (i := 23) (A := 0) (B := 8) (bs_28_8 _ _ (by omega) (by omega))
 refine jx_geti c1 hm rfl sh_173 rfl k3 ?_
 refine jz_ne c1 hm 14 rfl rfl (fun h4 => ?_) (fun h4 => ?_)
 ·
  refine jx_load c1 hm rfl rfl rfl rfl ?_
  refine jx_dup c1 hm rfl rfl ?_
  refine jx_geti c1 hm rfl sh_173 rfl k3 ?_
  refine jy_ic c1 hm rfl (by decide) ?_
  refine jy_sub c1 hm (z2 - 1) rfl (by omega) ?_
  obtain ⟨M5, e5, hH5, hF5, k5, n5, q5⟩ := mup hH1 hF1 (c := 173) (i := 23) (v := (z2 - 1)) (A := 0) (B := 8) (bs_28_8 _ _ (by omega) (by omega)) ⟨by omega, by omega⟩ (jin_of 1 rfl ⟨by omega, by omega⟩)
  refine jm_puti c1 hm rfl sh_173 rfl e5 ?_
  refine jy_ic c1 hm rfl (by decide) ?_
  refine jx_stor c1 hm (L' := [some (.inr (.inr (.inl 173))), some (.inl 0)]) rfl rfl rfl rfl rfl ?_
  have W11 : ∀ (n12 : Nat) (b6 : Int) (hb6 : 0 ≤ b6 ∧ b6 ≤ 133) (M7 : JM) (hH7 : HI (X) M7) (hF7 : Fr md_X12_undo_173 M0 M7) (k9 : M7.1 173 0 = 0) (k10 : M7.1 173 23 = (z2 - 1)), (-b6 + 133) < (n12 : Int) → F 26 [some (.inr (.inr (.inl 173))), some (.inl b6)] [] M7 := by
   intro n12
   induction n12 with
   | zero => intros; omega
   | succ n12 ihW11 =>
    intro b6 hb6 M7 hH7 hF7 k9 k10 hrW11
    refine jx_load c1 hm rfl rfl rfl rfl ?_
    refine jy_sp c1 hm rfl (by decide) ?_
    refine jc_ge c1 hm 63 rfl rfl (fun h13 => ?_) (fun h13 => ?_)
    ·
     refine jx_load c1 hm rfl rfl rfl rfl ?_
     refine jx_geti c1 hm rfl sh_173 rfl k10 ?_
     exact jx_reti c2 hm rfl rfl ⟨_, rfl, hH7, hF7, by omega, by omega⟩
    refine jx_load c1 hm rfl rfl rfl rfl ?_
    refine jx_getr c1 hm rfl sh_173 rfl ?_
    refine jy_bp c1 hm rfl (by decide) ?_
    refine jx_load c1 hm rfl rfl rfl rfl ?_
    refine jy_add c1 hm (b6 + 101) rfl (by omega) ?_
    refine jx_load c1 hm rfl rfl rfl rfl ?_
    refine jx_getr c1 hm rfl sh_173 rfl ?_
    refine jy_sp c1 hm rfl (by decide) ?_
    refine jx_load c1 hm rfl rfl rfl rfl ?_
    refine jx_geti c1 hm rfl sh_173 rfl k10 ?_
    refine jy_mul c1 hm (133 * z2 - 133) rfl (by omega) ?_
    refine jx_load c1 hm rfl rfl rfl rfl ?_
    refine jy_add c1 hm (b6 + 133 * z2 - 133) rfl (by omega) ?_
    obtain ⟨z14, k15, lz14, uz14⟩ := hH7.any (by omega) (by omega) 178 ((b6 + 133 * z2 - 133)).toNat
    refine jx_iald c1 hm rfl sh_178 ⟨by omega, by omega⟩ k15 ?_
    obtain ⟨M16, e16, hH16, hF16, k16, n16, q16⟩ := mupc hH7 hF7 hH7 (c := 175) (i := ((b6 + 101)).toNat) (c1 := 178) (i1 := ((b6 + 133 * z2 - 133)).toNat) (v := z14) k15 ((cso (by omega)).symm) (jin_of 2 rfl ⟨by omega, by omega⟩)
    refine jm_iast c1 hm rfl sh_175 ⟨by omega, by omega⟩ e16 ?_
    refine jx_iinc c1 hm (v := (b6 + 1)) (L' := [some (.inr (.inr (.inl 173))), some (.inl (b6 + 1))]) rfl rfl (by omega) (by omega) rfl ?_
    refine jx_goto c1 hm 26 rfl rfl ?_
    have k17 : M16.1 173 0 = 0 := (n16 173 0 (fun h => absurd h.1 (by decide))).trans k9
    have k18 : M16.1 173 23 = (z2 - 1) := (n16 173 23 (fun h => absurd h.1 (by decide))).trans k10
    exact ihW11 (b6 + 1) (by omega) M16 hH16 hF16 k17 k18 (by omega)
  have k8 : M5.1 173 0 = 0 := (n5 173 0 (by decide)).trans k1
  exact W11 (133 + 1 : Int).toNat 0 (by omega) M5 hH5 hF5 k8 k5 (by omega)
 refine jy_ic c1 hm rfl (by decide) ?_
 exact jx_reti c2 hm rfl rfl ⟨_, rfl, hH1, hF1, by omega, by omega⟩
def md_X12_ringAt_173 : List (Nat × (Nat × Nat)) := [(173, (0, 0))]
theorem ct_X12_ringAt_173 (X : Int) (hX : 0 ≤ X ∧ X ≤ 100000000) (M0 : JM) (hH0 : HI X M0) (a0 : Int) (ha0 : (-2147483648) ≤ a0 ∧ a0 ≤ 2147483647) : JOk shp PJ 2 177 [.inr (.inr (.inl 173)), .inl a0] M0 (jRi (fun v M' => HI X M' ∧ Fr md_X12_ringAt_173 M0 M' ∧ (-1) ≤ v ∧ v ≤ 5 )) := by
 refine ⟨jr_X12_ringAt, pj_X12_ringAt, fun F c1 c2 c3 => ?_⟩
 have hm := pj_X12_ringAt
 change F 0 [some (.inr (.inr (.inl 173))), some (.inl a0)] [] M0
 have hF0 : Fr md_X12_ringAt_173 M0 M0 := Fr.rf _ _
 refine jx_load c1 hm rfl rfl rfl rfl ?_
 refine jy_ic c1 hm rfl (by decide) ?_
 obtain ⟨M1, e1, hH1, hF1, k1, n1, q1⟩ := mup hH0 hF0 (c := 173) (i := 0) (v := 0) (A := (-2147483648)) (B := 2147483647) (bs_28_0 _ _ (by omega) (by omega)) ⟨by omega, by omega⟩ (jin_of 0 rfl ⟨by omega, by omega⟩)
 refine jm_puti c1 hm rfl sh_173 rfl e1 ?_
 refine jx_load c1 hm rfl rfl rfl rfl ?_
 refine jy_ic c1 hm rfl (by decide) ?_
 refine jx_load c1 hm rfl rfl rfl rfl ?_
 obtain ⟨z2, k3, lz2, uz2⟩ := hH1.ld (c := 173) (i := 28) (A := 0) (B := 6) (bs_28_11 _ _ (by omega) (by omega))
 refine jx_geti c1 hm rfl sh_173 rfl k3 ?_
 refine jy_ic c1 hm rfl (by decide) ?_
 refine jy_sub c1 hm (z2 - 1) rfl (by omega) ?_
 refine jt_i c3 hm rfl rfl pj_X12_isIn rfl rfl rfl ((ct_X12_isIn X (by omega) M1 hH1 a0 ⟨by omega, by omega⟩ 0 ⟨by omega, by omega⟩ (z2 - 1) ⟨by omega, by omega⟩).le (by decide)) (fun z4 _ ⟨rfl, lz4, uz4, p5⟩ => ?_)
 refine jz_eq c1 hm 28 rfl rfl (fun h6 => ?_) (fun h6 => ?_)
 ·
  refine jy_ic c1 hm rfl (by decide) ?_
  exact jx_reti c2 hm rfl rfl ⟨_, rfl, hH1, hF1, by omega, by omega⟩
 refine jx_load c1 hm rfl rfl rfl rfl ?_
 refine jx_getr c1 hm rfl sh_173 rfl ?_
 refine jx_load c1 hm rfl rfl rfl rfl ?_
 obtain ⟨z7, k8, lz7, uz7⟩ := hH1.ld (c := 185) (i := (a0).toNat) (A := 0) (B := 5) rfl
 refine jx_iald c1 hm rfl sh_185 ⟨by omega, by omega⟩ k8 ?_
 refine jx_goto c1 hm 29 rfl rfl ?_
 exact jx_reti c2 hm rfl rfl ⟨_, rfl, hH1, hF1, by omega, by omega⟩
def md_X12_planned_173 : List (Nat × (Nat × Nat)) := [(173, (0, 0))]
theorem ct_X12_planned_173 (X : Int) (hX : 0 ≤ X ∧ X ≤ 100000000) (M0 : JM) (hH0 : HI X M0) (a0 : Int) (ha0 : (-2147483648) ≤ a0 ∧ a0 ≤ 2147483647) : JOk shp PJ 2 149 [.inr (.inr (.inl 173)), .inl a0] M0 (jRi (fun v M' => HI X M' ∧ Fr md_X12_planned_173 M0 M' ∧ (-2147483648) ≤ v ∧ v ≤ 2147483647 )) := by
 refine ⟨jr_X12_planned, pj_X12_planned, fun F c1 c2 c3 => ?_⟩
 have hm := pj_X12_planned
 change F 0 [some (.inr (.inr (.inl 173))), some (.inl a0)] [] M0
 have hF0 : Fr md_X12_planned_173 M0 M0 := Fr.rf _ _
 refine jx_load c1 hm rfl rfl rfl rfl ?_
 refine jy_ic c1 hm rfl (by decide) ?_
 obtain ⟨M1, e1, hH1, hF1, k1, n1, q1⟩ := mup hH0 hF0 (c := 173) (i := 0) (v := 0) (A := (-2147483648)) (B := 2147483647) (bs_28_0 _ _ (by omega) (by omega)) ⟨by omega, by omega⟩ (jin_of 0 rfl ⟨by omega, by omega⟩)
 refine jm_puti c1 hm rfl sh_173 rfl e1 ?_
 refine jx_load c1 hm rfl rfl rfl rfl ?_
 obtain ⟨z2, k3, lz2, uz2⟩ := hH1.ld (c := 173) (i := 32) (A := 0) (B := 1) (bs_28_14 _ _ (by omega) (by omega))
 refine jx_getz c1 hm rfl sh_173 rfl k3 ?_
 refine jz_eq c1 hm 35 rfl rfl (fun h4 => ?_) (fun h4 => ?_)
 ·
  refine jy_ic c1 hm rfl (by decide) ?_
  exact jx_reti c2 hm rfl rfl ⟨_, rfl, hH1, hF1, by omega, by omega⟩
 refine jx_load c1 hm rfl rfl rfl rfl ?_
 refine jy_ic c1 hm rfl (by decide) ?_
 refine jx_load c1 hm rfl rfl rfl rfl ?_
 obtain ⟨z5, k6, lz5, uz5⟩ := hH1.ld (c := 173) (i := 31) (A := 0) (B := 6) (bs_28_13 _ _ (by omega) (by omega))
 refine jx_geti c1 hm rfl sh_173 rfl k6 ?_
 refine jy_ic c1 hm rfl (by decide) ?_
 refine jy_sub c1 hm (z5 - 1) rfl (by omega) ?_
 refine jt_i c3 hm rfl rfl pj_X12_isIn rfl rfl rfl ((ct_X12_isIn X (by omega) M1 hH1 a0 ⟨by omega, by omega⟩ 0 ⟨by omega, by omega⟩ (z5 - 1) ⟨by omega, by omega⟩).le (by decide)) (fun z7 _ ⟨rfl, lz7, uz7, p8⟩ => ?_)
 refine jz_eq c1 hm 35 rfl rfl (fun h9 => ?_) (fun h9 => ?_)
 ·
  refine jy_ic c1 hm rfl (by decide) ?_
  exact jx_reti c2 hm rfl rfl ⟨_, rfl, hH1, hF1, by omega, by omega⟩
 refine jx_load c1 hm rfl rfl rfl rfl ?_
 refine jx_getr c1 hm rfl sh_173 rfl ?_
 refine jx_load c1 hm rfl rfl rfl rfl ?_
 obtain ⟨z10, k11, lz10, uz10⟩ := hH1.ld (c := 187) (i := (a0).toNat) (A := (-2147483648)) (B := 2147483647) rfl
 refine jx_iald c1 hm rfl sh_187 ⟨by omega, by omega⟩ k11 ?_
 refine jx_goto c1 hm 36 rfl rfl ?_
 exact jx_reti c2 hm rfl rfl ⟨_, rfl, hH1, hF1, by omega, by omega⟩
def md_X12_tells_173 : List (Nat × (Nat × Nat)) := [(173, (0, 0))]
theorem ct_X12_tells_173 (X : Int) (hX : 0 ≤ X ∧ X ≤ 100000000) (M0 : JM) (hH0 : HI X M0)  : JOk shp PJ 1 193 [.inr (.inr (.inl 173))] M0 (jRi (fun v M' => HI X M' ∧ Fr md_X12_tells_173 M0 M' ∧ (-2147483648) ≤ v ∧ v ≤ 2147483647 )) := by
 refine ⟨jr_X12_tells, pj_X12_tells, fun F c1 c2 c3 => ?_⟩
 have hm := pj_X12_tells
 change F 0 [some (.inr (.inr (.inl 173)))] [] M0
 have hF0 : Fr md_X12_tells_173 M0 M0 := Fr.rf _ _
 refine jx_load c1 hm rfl rfl rfl rfl ?_
 refine jy_ic c1 hm rfl (by decide) ?_
 obtain ⟨M1, e1, hH1, hF1, k1, n1, q1⟩ := mup hH0 hF0 (c := 173) (i := 0) (v := 0) (A := (-2147483648)) (B := 2147483647) (bs_28_0 _ _ (by omega) (by omega)) ⟨by omega, by omega⟩ (jin_of 0 rfl ⟨by omega, by omega⟩)
 refine jm_puti c1 hm rfl sh_173 rfl e1 ?_
 refine jx_load c1 hm rfl rfl rfl rfl ?_
 obtain ⟨z2, k3, lz2, uz2⟩ := hH1.ld (c := 173) (i := 35) (A := (-2147483648)) (B := 2147483647) (bs_28_15 _ _ (by omega) (by omega))
 refine jx_geti c1 hm rfl sh_173 rfl k3 ?_
 exact jx_reti c2 hm rfl rfl ⟨_, rfl, hH1, hF1, by omega, by omega⟩
def md_X12_taxOf_173 : List (Nat × (Nat × Nat)) := [(173, (0, 0))]
theorem ct_X12_taxOf_173 (X : Int) (hX : 0 ≤ X ∧ X ≤ 100000000) (M0 : JM) (hH0 : HI X M0) (a0 : Int) (ha0 : (-2147483648) ≤ a0 ∧ a0 ≤ 2147483647) : JOk shp PJ 2 192 [.inr (.inr (.inl 173)), .inl a0] M0 (jRi (fun v M' => HI X M' ∧ Fr md_X12_taxOf_173 M0 M' ∧ (-2147483648) ≤ v ∧ v ≤ 2147483647 )) := by
 refine ⟨jr_X12_taxOf, pj_X12_taxOf, fun F c1 c2 c3 => ?_⟩
 have hm := pj_X12_taxOf
 change F 0 [some (.inr (.inr (.inl 173))), some (.inl a0)] [] M0
 have hF0 : Fr md_X12_taxOf_173 M0 M0 := Fr.rf _ _
 refine jx_load c1 hm rfl rfl rfl rfl ?_
 refine jy_ic c1 hm rfl (by decide) ?_
 obtain ⟨M1, e1, hH1, hF1, k1, n1, q1⟩ := mup hH0 hF0 (c := 173) (i := 0) (v := 0) (A := (-2147483648)) (B := 2147483647) (bs_28_0 _ _ (by omega) (by omega)) ⟨by omega, by omega⟩ (jin_of 0 rfl ⟨by omega, by omega⟩)
 refine jm_puti c1 hm rfl sh_173 rfl e1 ?_
 refine jx_load c1 hm rfl rfl rfl rfl ?_
 obtain ⟨z2, k3, lz2, uz2⟩ := hH1.ld (c := 173) (i := 40) (A := 0) (B := 1) (bs_28_16 _ _ (by omega) (by omega))
 refine jx_getz c1 hm rfl sh_173 rfl k3 ?_
 refine jz_eq c1 hm 30 rfl rfl (fun h4 => ?_) (fun h4 => ?_)
 ·
  refine jy_ic c1 hm rfl (by decide) ?_
  exact jx_reti c2 hm rfl rfl ⟨_, rfl, hH1, hF1, by omega, by omega⟩
 refine jx_load c1 hm rfl rfl rfl rfl ?_
 refine jy_ic c1 hm rfl (by decide) ?_
 refine jy_ic c1 hm rfl (by decide) ?_
 refine jt_i c3 hm rfl rfl pj_X12_isIn rfl rfl rfl ((ct_X12_isIn X (by omega) M1 hH1 a0 ⟨by omega, by omega⟩ 0 ⟨by omega, by omega⟩ 5 ⟨by omega, by omega⟩).le (by decide)) (fun z5 _ ⟨rfl, lz5, uz5, p6⟩ => ?_)
 refine jz_eq c1 hm 30 rfl rfl (fun h7 => ?_) (fun h7 => ?_)
 ·
  refine jy_ic c1 hm rfl (by decide) ?_
  exact jx_reti c2 hm rfl rfl ⟨_, rfl, hH1, hF1, by omega, by omega⟩
 refine jx_load c1 hm rfl rfl rfl rfl ?_
 refine jx_getr c1 hm rfl sh_173 rfl ?_
 refine jx_load c1 hm rfl rfl rfl rfl ?_
 obtain ⟨z8, k9, lz8, uz8⟩ := hH1.ld (c := 193) (i := (a0).toNat) (A := (-2147483648)) (B := 2147483647) rfl
 refine jx_iald c1 hm rfl sh_193 ⟨by omega, by omega⟩ k9 ?_
 refine jx_goto c1 hm 31 rfl rfl ?_
 exact jx_reti c2 hm rfl rfl ⟨_, rfl, hH1, hF1, by omega, by omega⟩
def md_X12_byteAt_173 : List (Nat × (Nat × Nat)) := [(173, (0, 0))]
theorem ct_X12_byteAt_173 (X : Int) (hX : 0 ≤ X ∧ X ≤ 100000000) (M0 : JM) (hH0 : HI X M0) (a0 : Int) (ha0 : (-2147483648) ≤ a0 ∧ a0 ≤ 2147483647) : JOk shp PJ 2 86 [.inr (.inr (.inl 173)), .inl a0] M0 (jRi (fun v M' => HI X M' ∧ Fr md_X12_byteAt_173 M0 M' ∧ (-2147483648) ≤ v ∧ v ≤ 2147483647 )) := by
 refine ⟨jr_X12_byteAt, pj_X12_byteAt, fun F c1 c2 c3 => ?_⟩
 have hm := pj_X12_byteAt
 change F 0 [some (.inr (.inr (.inl 173))), some (.inl a0)] [] M0
 have hF0 : Fr md_X12_byteAt_173 M0 M0 := Fr.rf _ _
 refine jx_load c1 hm rfl rfl rfl rfl ?_
 refine jy_ic c1 hm rfl (by decide) ?_
 obtain ⟨M1, e1, hH1, hF1, k1, n1, q1⟩ := mup hH0 hF0 (c := 173) (i := 0) (v := 0) (A := (-2147483648)) (B := 2147483647) (bs_28_0 _ _ (by omega) (by omega)) ⟨by omega, by omega⟩ (jin_of 0 rfl ⟨by omega, by omega⟩)
 refine jm_puti c1 hm rfl sh_173 rfl e1 ?_
 refine jx_load c1 hm rfl rfl rfl rfl ?_
 refine jy_ic c1 hm rfl (by decide) ?_
 refine jx_load c1 hm rfl rfl rfl rfl ?_
 obtain ⟨z2, k3, lz2, uz2⟩ := hH1.ld (c := 173) (i := 42) (A := 0) (B := 64) (bs_28_18 _ _ (by omega) (by omega))
 refine jx_geti c1 hm rfl sh_173 rfl k3 ?_
 refine jy_ic c1 hm rfl (by decide) ?_
 refine jy_sub c1 hm (z2 - 1) rfl (by omega) ?_
 refine jt_i c3 hm rfl rfl pj_X12_isIn rfl rfl rfl ((ct_X12_isIn X (by omega) M1 hH1 a0 ⟨by omega, by omega⟩ 0 ⟨by omega, by omega⟩ (z2 - 1) ⟨by omega, by omega⟩).le (by decide)) (fun z4 _ ⟨rfl, lz4, uz4, p5⟩ => ?_)
 refine jz_eq c1 hm 28 rfl rfl (fun h6 => ?_) (fun h6 => ?_)
 ·
  refine jy_ic c1 hm rfl (by decide) ?_
  exact jx_reti c2 hm rfl rfl ⟨_, rfl, hH1, hF1, by omega, by omega⟩
 refine jx_load c1 hm rfl rfl rfl rfl ?_
 refine jx_getr c1 hm rfl sh_173 rfl ?_
 refine jx_load c1 hm rfl rfl rfl rfl ?_
 obtain ⟨z7, k8, lz7, uz7⟩ := hH1.ld (c := 194) (i := (a0).toNat) (A := (-2147483648)) (B := 2147483647) rfl
 refine jx_iald c1 hm rfl sh_194 ⟨by omega, by omega⟩ k8 ?_
 refine jx_goto c1 hm 29 rfl rfl ?_
 exact jx_reti c2 hm rfl rfl ⟨_, rfl, hH1, hF1, by omega, by omega⟩
def md_X12_told_173 : List (Nat × (Nat × Nat)) := [(173, (0, 0))]
theorem ct_X12_told_173 (X : Int) (hX : 0 ≤ X ∧ X ≤ 100000000) (M0 : JM) (hH0 : HI X M0) (a0 : Int) (ha0 : (-2147483648) ≤ a0 ∧ a0 ≤ 2147483647) : JOk shp PJ 2 196 [.inr (.inr (.inl 173)), .inl a0] M0 (jRi (fun v M' => HI X M' ∧ Fr md_X12_told_173 M0 M' ∧ (-2147483648) ≤ v ∧ v ≤ 2147483647 )) := by
 refine ⟨jr_X12_told, pj_X12_told, fun F c1 c2 c3 => ?_⟩
 have hm := pj_X12_told
 change F 0 [some (.inr (.inr (.inl 173))), some (.inl a0)] [] M0
 have hF0 : Fr md_X12_told_173 M0 M0 := Fr.rf _ _
 refine jx_load c1 hm rfl rfl rfl rfl ?_
 refine jy_ic c1 hm rfl (by decide) ?_
 obtain ⟨M1, e1, hH1, hF1, k1, n1, q1⟩ := mup hH0 hF0 (c := 173) (i := 0) (v := 0) (A := (-2147483648)) (B := 2147483647) (bs_28_0 _ _ (by omega) (by omega)) ⟨by omega, by omega⟩ (jin_of 0 rfl ⟨by omega, by omega⟩)
 refine jm_puti c1 hm rfl sh_173 rfl e1 ?_
 refine jx_load c1 hm rfl rfl rfl rfl ?_
 obtain ⟨z2, k3, lz2, uz2⟩ := hH1.ld (c := 173) (i := 47) (A := 0) (B := 1) (bs_28_21 _ _ (by omega) (by omega))
 refine jx_getz c1 hm rfl sh_173 rfl k3 ?_
 refine jz_eq c1 hm 30 rfl rfl (fun h4 => ?_) (fun h4 => ?_)
 ·
  refine jy_ic c1 hm rfl (by decide) ?_
  exact jx_reti c2 hm rfl rfl ⟨_, rfl, hH1, hF1, by omega, by omega⟩
 refine jx_load c1 hm rfl rfl rfl rfl ?_
 refine jy_ic c1 hm rfl (by decide) ?_
 refine jy_ic c1 hm rfl (by decide) ?_
 refine jt_i c3 hm rfl rfl pj_X12_isIn rfl rfl rfl ((ct_X12_isIn X (by omega) M1 hH1 a0 ⟨by omega, by omega⟩ 0 ⟨by omega, by omega⟩ 3 ⟨by omega, by omega⟩).le (by decide)) (fun z5 _ ⟨rfl, lz5, uz5, p6⟩ => ?_)
 refine jz_eq c1 hm 30 rfl rfl (fun h7 => ?_) (fun h7 => ?_)
 ·
  refine jy_ic c1 hm rfl (by decide) ?_
  exact jx_reti c2 hm rfl rfl ⟨_, rfl, hH1, hF1, by omega, by omega⟩
 refine jx_load c1 hm rfl rfl rfl rfl ?_
 refine jx_getr c1 hm rfl sh_173 rfl ?_
 refine jx_load c1 hm rfl rfl rfl rfl ?_
 obtain ⟨z8, k9, lz8, uz8⟩ := hH1.ld (c := 196) (i := (a0).toNat) (A := (-2147483648)) (B := 2147483647) rfl
 refine jx_iald c1 hm rfl sh_196 ⟨by omega, by omega⟩ k9 ?_
 refine jx_goto c1 hm 31 rfl rfl ?_
 exact jx_reti c2 hm rfl rfl ⟨_, rfl, hH1, hF1, by omega, by omega⟩
def md_X12_image_173 : List (Nat × (Nat × Nat)) := [(173, (0, 0)), (177, (0, 951)), (183, (0, 1))]
theorem ct_X12_image_173 (X : Int) (hX : 0 ≤ X ∧ X ≤ 100000000) (M0 : JM) (hH0 : HI X M0) (a0 : Int) (ha0 : (-2147483648) ≤ a0 ∧ a0 ≤ 2147483647) (hp0 : SOK M0) (hp1 : KOK M0 0) (hp2 : KOK M0 1) : JOk shp PJ 2 114 [.inr (.inr (.inl 173)), .inl a0] M0 (jRi (fun v M' => HI X M' ∧ Fr md_X12_image_173 M0 M' ∧ 0 ≤ v ∧ v ≤ 1 ∧ (KOK M' 0) ∧ (KOK M' 1))) := by
 refine ⟨jr_X12_image, pj_X12_image, fun F c1 c2 c3 => ?_⟩
 have hm := pj_X12_image
 change F 0 [some (.inr (.inr (.inl 173))), some (.inl a0), none] [] M0
 have hF0 : Fr md_X12_image_173 M0 M0 := Fr.rf _ _
 refine jx_load c1 hm rfl rfl rfl rfl ?_
 refine jy_ic c1 hm rfl (by decide) ?_
 obtain ⟨M1, e1, hH1, hF1, k1, n1, q1⟩ := mup hH0 hF0 (c := 173) (i := 0) (v := 0) (A := (-2147483648)) (B := 2147483647) (bs_28_0 _ _ (by omega) (by omega)) ⟨by omega, by omega⟩ (jin_of 0 rfl ⟨by omega, by omega⟩)
 refine jm_puti c1 hm rfl sh_173 rfl e1 ?_
 refine jx_load c1 hm rfl rfl rfl rfl ?_
 refine jy_ic c1 hm rfl (by decide) ?_
 refine jy_ic c1 hm rfl (by decide) ?_
 refine jt_i c3 hm rfl rfl pj_X12_isIn rfl rfl rfl ((ct_X12_isIn X (by omega) M1 hH1 a0 ⟨by omega, by omega⟩ 0 ⟨by omega, by omega⟩ 1 ⟨by omega, by omega⟩).le (by decide)) (fun z2 _ ⟨rfl, lz2, uz2, p3⟩ => ?_)
 refine jz_ne c1 hm 16 rfl rfl (fun h4 => ?_) (fun h4 => ?_)
 ·
  refine jy_ic c1 hm rfl (by decide) ?_
  refine jx_stor c1 hm (L' := [some (.inr (.inr (.inl 173))), some (.inl a0), some (.inl 0)]) rfl rfl rfl rfl rfl ?_
  have W10 : ∀ (n11 : Nat) (b5 : Int) (hb5 : 0 ≤ b5 ∧ b5 ≤ 476) (M6 : JM) (hH6 : HI (X) M6) (hF6 : Fr md_X12_image_173 M0 M6) (k7 : M6.1 173 0 = 0) (hcI : ∀ j : Nat, (j : Int) < b5 → M6.1 177 (476 * (a0).toNat + j) = M0.1 175 j) (hcO : ∀ j : Nat, j < 476 * (a0).toNat ∨ 476 * (a0).toNat + 476 ≤ j → M6.1 177 j = M0.1 177 j), (-b5 + 476) < (n11 : Int) → F 18 [some (.inr (.inr (.inl 173))), some (.inl a0), some (.inl b5)] [] M6 := by
   intro n11
   induction n11 with
   | zero => intros; omega
   | succ n11 ihW10 =>
    intro b5 hb5 M6 hH6 hF6 k7 hcI hcO hrW10
    refine jx_load c1 hm rfl rfl rfl rfl ?_
    refine jy_sp c1 hm rfl (by decide) ?_
    refine jc_ge c1 hm 49 rfl rfl (fun h12 => ?_) (fun h12 => ?_)
    ·
     refine jy_ic c1 hm rfl (by decide) ?_
     refine jx_stor c1 hm (L' := [some (.inr (.inr (.inl 173))), some (.inl a0), some (.inl 0)]) rfl rfl rfl rfl rfl ?_
     have W21 : ∀ (n22 : Nat) (b16 : Int) (hb16 : 0 ≤ b16 ∧ b16 ≤ 18) (M17 : JM) (hH17 : HI (X) M17) (hF17 : Fr md_X12_image_173 M0 M17) (k18 : M17.1 173 0 = 0) (hcI : ∀ j : Nat, j < 476 → M17.1 177 (476 * (a0).toNat + j) = M0.1 175 j) (hcO : ∀ j : Nat, j < 476 * (a0).toNat ∨ 476 * (a0).toNat + 476 ≤ j → M17.1 177 j = M0.1 177 j), (-b16 + 18) < (n22 : Int) → F 51 [some (.inr (.inr (.inl 173))), some (.inl a0), some (.inl b16)] [] M17 := by
      intro n22
      induction n22 with
      | zero => intros; omega
      | succ n22 ihW21 =>
       intro b16 hb16 M17 hH17 hF17 k18 hcI hcO hrW21
       refine jx_load c1 hm rfl rfl rfl rfl ?_
       skip
       refine jy_bp c1 hm rfl (by decide) ?_
       refine jc_ge c1 hm 80 rfl rfl (fun h23 => ?_) (fun h23 => ?_)
       ·
        refine jx_load c1 hm rfl rfl rfl rfl ?_
        refine jx_getr c1 hm rfl sh_173 rfl ?_
        refine jx_load c1 hm rfl rfl rfl rfl ?_
        refine jy_ic c1 hm rfl (by decide) ?_
        obtain ⟨M26, e26, hH26, hF26, k26, n26, q26⟩ := mup hH17 hF17 (c := 183) (i := (a0).toNat) (v := 1) (A := 0) (B := 1) rfl ⟨by omega, by omega⟩ (jin_of 2 rfl ⟨by omega, by omega⟩)
        refine jm_bast c1 hm rfl sh_183 (Or.inr ⟨rfl, by omega, by omega⟩) ⟨by omega, by omega⟩ e26 ?_
        refine jy_ic c1 hm rfl (by decide) ?_
        exact jx_retz c2 hm rfl rfl ⟨by omega, by omega⟩ ⟨_, rfl, hH26, hF26, by omega, by omega, (if c : a0 = 0 then KOK.of hp0 (fun j _ y => (n26 177 _ (fun h => absurd h.1 (by decide))).trans (by have z := hcI j (by omega); rw [show 476 * (a0).toNat + j = 476 * 0 + j by omega] at z; exact z)) else KOK.cg hp1 (fun j y1 y2 => (n26 177 _ (fun h => absurd h.1 (by decide))).trans (hcO j (by omega)))), (if c : a0 = 1 then KOK.of hp0 (fun j _ y => (n26 177 _ (fun h => absurd h.1 (by decide))).trans (by have z := hcI j (by omega); rw [show 476 * (a0).toNat + j = 476 * 1 + j by omega] at z; exact z)) else KOK.cg hp2 (fun j y1 y2 => (n26 177 _ (fun h => absurd h.1 (by decide))).trans (hcO j (by omega))))⟩
       refine jx_load c1 hm rfl rfl rfl rfl ?_
       refine jx_getr c1 hm rfl sh_173 rfl ?_
       refine jy_bp c1 hm rfl (by decide) ?_
       refine jx_load c1 hm rfl rfl rfl rfl ?_
       refine jy_mul c1 hm (18 * a0) rfl (by omega) ?_
       refine jx_load c1 hm rfl rfl rfl rfl ?_
       refine jy_add c1 hm (18 * a0 + b16) rfl (by omega) ?_
       refine jx_load c1 hm rfl rfl rfl rfl ?_
       refine jx_getr c1 hm rfl sh_173 rfl ?_
       refine jx_load c1 hm rfl rfl rfl rfl ?_
       obtain ⟨w24, kw24⟩ : ∃ w, M17.2 180 (b16).toNat = w := ⟨_, rfl⟩
       have bw24 : LB w24.toInt := kw24 ▸ hH17.2.1 180 _ rfl
       refine jx_lald c1 hm rfl sh_180 ⟨by omega, by omega⟩ kw24 ?_
       obtain ⟨M25, e25, hH25, hF25, n25, k25, _⟩ := mul hH17 hF17 (c := 182) (i := ((18 * a0 + b16)).toNat) (v := w24) (fun _ => bw24)
       refine jm_last c1 hm rfl sh_182 ⟨by omega, by omega⟩ e25 ?_
       refine jx_iinc c1 hm (v := (b16 + 1)) (L' := [some (.inr (.inr (.inl 173))), some (.inl a0), some (.inl (b16 + 1))]) rfl rfl (by omega) (by omega) rfl ?_
       refine jx_goto c1 hm 51 rfl rfl ?_
       have k27 : M25.1 173 0 = 0 := (n25 173 0).trans k18
       exact ihW21 (b16 + 1) (by omega) M25 hH25 hF25 k27 (fun j hj => (n25 177 _).trans (hcI j hj)) (fun j hj => (n25 177 _).trans (hcO j hj)) (by omega)
     exact W21 (18 + 1 : Int).toNat 0 (by omega) M6 hH6 hF6 k7 (fun j hj => hcI j (by omega)) hcO (by omega)
    refine jx_load c1 hm rfl rfl rfl rfl ?_
    refine jx_getr c1 hm rfl sh_173 rfl ?_
    refine jy_sp c1 hm rfl (by decide) ?_
    refine jx_load c1 hm rfl rfl rfl rfl ?_
    refine jy_mul c1 hm (476 * a0) rfl (by omega) ?_
    refine jx_load c1 hm rfl rfl rfl rfl ?_
    refine jy_add c1 hm (476 * a0 + b5) rfl (by omega) ?_
    refine jx_load c1 hm rfl rfl rfl rfl ?_
    refine jx_getr c1 hm rfl sh_173 rfl ?_
    refine jx_load c1 hm rfl rfl rfl rfl ?_
    obtain ⟨z13, k14, lz13, uz13⟩ := hH6.any (by omega) (by omega) 175 (b5).toNat
    refine jx_iald c1 hm rfl sh_175 ⟨by omega, by omega⟩ k14 ?_
    obtain ⟨M15, e15, hH15, hF15, k15, n15, q15⟩ := mupc hH6 hF6 hH6 (c := 177) (i := ((476 * a0 + b5)).toNat) (c1 := 175) (i1 := (b5).toNat) (v := z13) k14 (ckp (by omega)) (jin_of 1 rfl ⟨by omega, by omega⟩)
    refine jm_iast c1 hm rfl sh_177 ⟨by omega, by omega⟩ e15 ?_
    refine jx_iinc c1 hm (v := (b5 + 1)) (L' := [some (.inr (.inr (.inl 173))), some (.inl a0), some (.inl (b5 + 1))]) rfl rfl (by omega) (by omega) rfl ?_
    refine jx_goto c1 hm 18 rfl rfl ?_
    have k28 : M15.1 173 0 = 0 := (n15 173 0 (fun h => absurd h.1 (by decide))).trans k7
    exact ihW10 (b5 + 1) (by omega) M15 hH15 hF15 k28 (fun j hj => if c : (j : Int) < b5 then (n15 177 _ (by omega)).trans (hcI j c) else (by have e : j = (b5).toNat := (by omega); subst e; rw [show 476 * (a0).toNat + (b5).toNat = ((476 * a0 + b5)).toNat by omega]; exact k15.trans (k14.symm.trans (hF6 175 _ rfl)))) (fun j hj => (n15 177 j (by omega)).trans (hcO j hj)) (by omega)
  exact W10 (476 + 1 : Int).toNat 0 (by omega) M1 hH1 hF1 k1 (fun j hj => by omega) (fun j _ => (n1 177 _ (fun h => absurd h.1 (by decide)))) (by omega)
 refine jy_ic c1 hm rfl (by decide) ?_
 exact jx_retz c2 hm rfl rfl ⟨by omega, by omega⟩ ⟨_, rfl, hH1, hF1, by omega, by omega, (KOK.cg hp1 (fun j _ _ => (n1 177 _ (fun h => absurd h.1 (by decide))))), (KOK.cg hp2 (fun j _ _ => (n1 177 _ (fun h => absurd h.1 (by decide)))))⟩
def md_X12_restore_173 : List (Nat × (Nat × Nat)) := [(173, (0, 0)), (173, (23, 23)), (175, (0, 475))]
theorem ct_X12_restore_173 (X : Int) (hX : 0 ≤ X ∧ X ≤ 100000000) (M0 : JM) (hH0 : HI X M0) (a0 : Int) (ha0 : (-2147483648) ≤ a0 ∧ a0 ≤ 2147483647) (hp0 : SOK M0) (hp1 : KOK M0 0) (hp2 : KOK M0 1) : JOk shp PJ 2 175 [.inr (.inr (.inl 173)), .inl a0] M0 (jRi (fun v M' => HI X M' ∧ Fr md_X12_restore_173 M0 M' ∧ 0 ≤ v ∧ v ≤ 1 ∧ (SOK M'))) := by
 refine ⟨jr_X12_restore, pj_X12_restore, fun F c1 c2 c3 => ?_⟩
 have hm := pj_X12_restore
 change F 0 [some (.inr (.inr (.inl 173))), some (.inl a0), none] [] M0
 have hF0 : Fr md_X12_restore_173 M0 M0 := Fr.rf _ _
 refine jx_load c1 hm rfl rfl rfl rfl ?_
 refine jy_ic c1 hm rfl (by decide) ?_
 obtain ⟨M1, e1, hH1, hF1, k1, n1, q1⟩ := mup hH0 hF0 (c := 173) (i := 0) (v := 0) (A := (-2147483648)) (B := 2147483647) (bs_28_0 _ _ (by omega) (by omega)) ⟨by omega, by omega⟩ (jin_of 0 rfl ⟨by omega, by omega⟩)
 refine jm_puti c1 hm rfl sh_173 rfl e1 ?_
 refine jx_load c1 hm rfl rfl rfl rfl ?_
 refine jy_ic c1 hm rfl (by decide) ?_
 refine jy_ic c1 hm rfl (by decide) ?_
 refine jt_i c3 hm rfl rfl pj_X12_isIn rfl rfl rfl ((ct_X12_isIn X (by omega) M1 hH1 a0 ⟨by omega, by omega⟩ 0 ⟨by omega, by omega⟩ 1 ⟨by omega, by omega⟩).le (by decide)) (fun z2 _ ⟨rfl, lz2, uz2, p3⟩ => ?_)
 refine jz_eq c1 hm 23 rfl rfl (fun h4 => ?_) (fun h4 => ?_)
 ·
  refine jy_ic c1 hm rfl (by decide) ?_
  exact jx_retz c2 hm rfl rfl ⟨by omega, by omega⟩ ⟨_, rfl, hH1, hF1, by omega, by omega, (SOK.cg hp0 (fun j _ _ => (n1 175 _ (fun h => absurd h.1 (by decide)))))⟩
 refine jx_load c1 hm rfl rfl rfl rfl ?_
 refine jx_getr c1 hm rfl sh_173 rfl ?_
 refine jx_load c1 hm rfl rfl rfl rfl ?_
 obtain ⟨z5, k6, lz5, uz5⟩ := hH1.ld (c := 183) (i := (a0).toNat) (A := 0) (B := 1) rfl
 refine jx_bald c1 hm rfl sh_183 rfl ⟨by omega, by omega⟩ k6 ?_
 refine jz_ne c1 hm 25 rfl rfl (fun h7 => ?_) (fun h7 => ?_)
 ·
  refine jy_ic c1 hm rfl (by decide) ?_
  refine jx_stor c1 hm (L' := [some (.inr (.inr (.inl 173))), some (.inl a0), some (.inl 0)]) rfl rfl rfl rfl rfl ?_
  have W12 : ∀ (n13 : Nat) (b8 : Int) (hb8 : 0 ≤ b8 ∧ b8 ≤ 476) (M9 : JM) (hH9 : HI (X) M9) (hF9 : Fr md_X12_restore_173 M0 M9) (k10 : M9.1 173 0 = 0) (hcI : ∀ j : Nat, (j : Int) < b8 → M9.1 175 j = M0.1 177 (476 * (a0).toNat + j)), (-b8 + 476) < (n13 : Int) → F 27 [some (.inr (.inr (.inl 173))), some (.inl a0), some (.inl b8)] [] M9 := by
   intro n13
   induction n13 with
   | zero => intros; omega
   | succ n13 ihW12 =>
    intro b8 hb8 M9 hH9 hF9 k10 hcI hrW12
    refine jx_load c1 hm rfl rfl rfl rfl ?_
    refine jy_sp c1 hm rfl (by decide) ?_
    refine jc_ge c1 hm 58 rfl rfl (fun h14 => ?_) (fun h14 => ?_)
    ·
     refine jy_ic c1 hm rfl (by decide) ?_
     refine jx_stor c1 hm (L' := [some (.inr (.inr (.inl 173))), some (.inl a0), some (.inl 0)]) rfl rfl rfl rfl rfl ?_
     have W22 : ∀ (n23 : Nat) (b18 : Int) (hb18 : 0 ≤ b18 ∧ b18 ≤ 18) (M19 : JM) (hH19 : HI (X) M19) (hF19 : Fr md_X12_restore_173 M0 M19) (k20 : M19.1 173 0 = 0) (hcI : ∀ j : Nat, j < 476 → M19.1 175 j = M0.1 177 (476 * (a0).toNat + j)), (-b18 + 18) < (n23 : Int) → F 60 [some (.inr (.inr (.inl 173))), some (.inl a0), some (.inl b18)] [] M19 := by
      intro n23
      induction n23 with
      | zero => intros; omega
      | succ n23 ihW22 =>
       intro b18 hb18 M19 hH19 hF19 k20 hcI hrW22
       refine jx_load c1 hm rfl rfl rfl rfl ?_
       skip
       refine jy_bp c1 hm rfl (by decide) ?_
       refine jc_ge c1 hm 89 rfl rfl (fun h24 => ?_) (fun h24 => ?_)
       ·
        refine jx_load c1 hm rfl rfl rfl rfl ?_
        refine jy_ic c1 hm rfl (by decide) ?_
        obtain ⟨M27, e27, hH27, hF27, k27, n27, q27⟩ := mup hH19 hF19 (c := 173) (i := 23) (v := 0) (A := 0) (B := 8) (bs_28_8 _ _ (by omega) (by omega)) ⟨by omega, by omega⟩ (jin_of 1 rfl ⟨by omega, by omega⟩)
        refine jm_puti c1 hm rfl sh_173 rfl e27 ?_
        refine jy_ic c1 hm rfl (by decide) ?_
        exact jx_retz c2 hm rfl rfl ⟨by omega, by omega⟩ ⟨_, rfl, hH27, hF27, by omega, by omega, (if c : a0 = 0 then SOK.of hp1 (fun j _ y => (n27 175 _ (fun h => absurd h.1 (by decide))).trans (by have z := hcI j (by omega); rw [show 476 * (a0).toNat + j = 476 * 0 + j by omega] at z; exact z)) else SOK.of hp2 (fun j _ y => (n27 175 _ (fun h => absurd h.1 (by decide))).trans (by have z := hcI j (by omega); rw [show 476 * (a0).toNat + j = 476 * 1 + j by omega] at z; exact z)))⟩
       refine jx_load c1 hm rfl rfl rfl rfl ?_
       refine jx_getr c1 hm rfl sh_173 rfl ?_
       refine jx_load c1 hm rfl rfl rfl rfl ?_
       refine jx_load c1 hm rfl rfl rfl rfl ?_
       refine jx_getr c1 hm rfl sh_173 rfl ?_
       refine jy_bp c1 hm rfl (by decide) ?_
       refine jx_load c1 hm rfl rfl rfl rfl ?_
       refine jy_mul c1 hm (18 * a0) rfl (by omega) ?_
       refine jx_load c1 hm rfl rfl rfl rfl ?_
       refine jy_add c1 hm (18 * a0 + b18) rfl (by omega) ?_
       obtain ⟨w25, kw25⟩ : ∃ w, M19.2 182 ((18 * a0 + b18)).toNat = w := ⟨_, rfl⟩
       have bw25 : LB w25.toInt := kw25 ▸ hH19.2.1 182 _ rfl
       refine jx_lald c1 hm rfl sh_182 ⟨by omega, by omega⟩ kw25 ?_
       obtain ⟨M26, e26, hH26, hF26, n26, k26, _⟩ := mul hH19 hF19 (c := 180) (i := (b18).toNat) (v := w25) (fun _ => bw25)
       refine jm_last c1 hm rfl sh_180 ⟨by omega, by omega⟩ e26 ?_
       refine jx_iinc c1 hm (v := (b18 + 1)) (L' := [some (.inr (.inr (.inl 173))), some (.inl a0), some (.inl (b18 + 1))]) rfl rfl (by omega) (by omega) rfl ?_
       refine jx_goto c1 hm 60 rfl rfl ?_
       have k28 : M26.1 173 0 = 0 := (n26 173 0).trans k20
       exact ihW22 (b18 + 1) (by omega) M26 hH26 hF26 k28 (fun j hj => (n26 175 _).trans (hcI j hj)) (by omega)
     exact W22 (18 + 1 : Int).toNat 0 (by omega) M9 hH9 hF9 k10 (fun j hj => hcI j (by omega)) (by omega)
    refine jx_load c1 hm rfl rfl rfl rfl ?_
    refine jx_getr c1 hm rfl sh_173 rfl ?_
    refine jx_load c1 hm rfl rfl rfl rfl ?_
    refine jx_load c1 hm rfl rfl rfl rfl ?_
    refine jx_getr c1 hm rfl sh_173 rfl ?_
    refine jy_sp c1 hm rfl (by decide) ?_
    refine jx_load c1 hm rfl rfl rfl rfl ?_
    refine jy_mul c1 hm (476 * a0) rfl (by omega) ?_
    refine jx_load c1 hm rfl rfl rfl rfl ?_
    refine jy_add c1 hm (476 * a0 + b8) rfl (by omega) ?_
    obtain ⟨z15, k16, lz15, uz15⟩ := hH9.any (by omega) (by omega) 177 ((476 * a0 + b8)).toNat
    refine jx_iald c1 hm rfl sh_177 ⟨by omega, by omega⟩ k16 ?_
    obtain ⟨M17, e17, hH17, hF17, k17, n17, q17⟩ := mupc hH9 hF9 hH9 (c := 175) (i := (b8).toNat) (c1 := 177) (i1 := ((476 * a0 + b8)).toNat) (v := z15) k16 ((ckp (by omega)).symm) (jin_of 2 rfl ⟨by omega, by omega⟩)
    refine jm_iast c1 hm rfl sh_175 ⟨by omega, by omega⟩ e17 ?_
    refine jx_iinc c1 hm (v := (b8 + 1)) (L' := [some (.inr (.inr (.inl 173))), some (.inl a0), some (.inl (b8 + 1))]) rfl rfl (by omega) (by omega) rfl ?_
    refine jx_goto c1 hm 27 rfl rfl ?_
    have k29 : M17.1 173 0 = 0 := (n17 173 0 (fun h => absurd h.1 (by decide))).trans k10
    exact ihW12 (b8 + 1) (by omega) M17 hH17 hF17 k29 (fun j hj => if c : (j : Int) < b8 then (n17 175 j (by omega)).trans (hcI j c) else (by have e : j = (b8).toNat := (by omega); subst e; have y := k17.trans (k16.symm.trans (hF9 177 _ rfl)); rw [show ((476 * a0 + b8)).toNat = 476 * (a0).toNat + (b8).toNat by omega] at y; exact y)) (by omega)
  exact W12 (476 + 1 : Int).toNat 0 (by omega) M1 hH1 hF1 k1 (fun j hj => by omega) (by omega)
 refine jy_ic c1 hm rfl (by decide) ?_
 exact jx_retz c2 hm rfl rfl ⟨by omega, by omega⟩ ⟨_, rfl, hH1, hF1, by omega, by omega, (SOK.cg hp0 (fun j _ _ => (n1 175 _ (fun h => absurd h.1 (by decide)))))⟩
def md_X12_count_173 : List (Nat × (Nat × Nat)) := [(173, (0, 0))]
theorem ct_X12_count_173 (X : Int) (hX : 0 ≤ X ∧ X ≤ 100000000) (M0 : JM) (hH0 : HI X M0) (a0 : Int) (ha0 : (-2147483648) ≤ a0 ∧ a0 ≤ 2147483647) : JOk shp PJ 1 92 [.inr (.inr (.inl 173)), .inl a0] M0 (jRi (fun v M' => HI X M' ∧ Fr md_X12_count_173 M0 M' ∧ (-1) ≤ v ∧ v ≤ 940 )) := by
 refine ⟨jr_X12_count, pj_X12_count, fun F c1 c2 c3 => ?_⟩
 have hm := pj_X12_count
 change F 0 [some (.inr (.inr (.inl 173))), some (.inl a0)] [] M0
 have hF0 : Fr md_X12_count_173 M0 M0 := Fr.rf _ _
 refine jx_load c1 hm rfl rfl rfl rfl ?_
 refine jy_ic c1 hm rfl (by decide) ?_
 obtain ⟨M1, e1, hH1, hF1, k1, n1, q1⟩ := mup hH0 hF0 (c := 173) (i := 0) (v := 0) (A := (-2147483648)) (B := 2147483647) (bs_28_0 _ _ (by omega) (by omega)) ⟨by omega, by omega⟩ (jin_of 0 rfl ⟨by omega, by omega⟩)
 refine jm_puti c1 hm rfl sh_173 rfl e1 ?_
 refine jx_load c1 hm rfl rfl rfl rfl ?_
 by_cases h2 : a0 = 0
 ·
  refine jx_tswI c1 hm 44 rfl ⟨by omega, by omega⟩ (by rw [h2] <;> rfl) rfl ?_
  refine jx_load c1 hm rfl rfl rfl rfl ?_
  refine jx_getr c1 hm rfl sh_173 rfl ?_
  refine jy_ic c1 hm rfl (by decide) ?_
  obtain ⟨z3, k4, lz3, uz3⟩ := hH1.ld (c := 175) (i := 0) (A := 0) (B := 6) (bs_11_0 _ _ (by omega) (by omega))
  refine jx_iald c1 hm rfl sh_175 ⟨by omega, by omega⟩ k4 ?_
  exact jx_reti c2 hm rfl rfl ⟨_, rfl, hH1, hF1, by omega, by omega⟩
 by_cases h5 : a0 = 1
 ·
  refine jx_tswI c1 hm 51 rfl ⟨by omega, by omega⟩ (by rw [h5] <;> rfl) rfl ?_
  refine jx_load c1 hm rfl rfl rfl rfl ?_
  refine jx_getr c1 hm rfl sh_173 rfl ?_
  refine jy_ic c1 hm rfl (by decide) ?_
  obtain ⟨z6, k7, lz6, uz6⟩ := hH1.ld (c := 175) (i := 1) (A := 0) (B := 6) (bs_11_0 _ _ (by omega) (by omega))
  refine jx_iald c1 hm rfl sh_175 ⟨by omega, by omega⟩ k7 ?_
  exact jx_reti c2 hm rfl rfl ⟨_, rfl, hH1, hF1, by omega, by omega⟩
 by_cases h8 : a0 = 2
 ·
  refine jx_tswI c1 hm 58 rfl ⟨by omega, by omega⟩ (by rw [h8] <;> rfl) rfl ?_
  refine jx_load c1 hm rfl rfl rfl rfl ?_
  refine jx_getr c1 hm rfl sh_173 rfl ?_
  refine jy_ic c1 hm rfl (by decide) ?_
  obtain ⟨z9, k10, lz9, uz9⟩ := hH1.ld (c := 175) (i := 2) (A := 0) (B := 6) (bs_11_0 _ _ (by omega) (by omega))
  refine jx_iald c1 hm rfl sh_175 ⟨by omega, by omega⟩ k10 ?_
  exact jx_reti c2 hm rfl rfl ⟨_, rfl, hH1, hF1, by omega, by omega⟩
 by_cases h11 : a0 = 3
 ·
  refine jx_tswI c1 hm 65 rfl ⟨by omega, by omega⟩ (by rw [h11] <;> rfl) rfl ?_
  refine jx_load c1 hm rfl rfl rfl rfl ?_
  refine jx_getr c1 hm rfl sh_173 rfl ?_
  refine jy_ic c1 hm rfl (by decide) ?_
  obtain ⟨z12, k13, lz12, uz12⟩ := hH1.ld (c := 175) (i := 3) (A := 0) (B := 9) (bs_11_1 _ _ (by omega) (by omega))
  refine jx_iald c1 hm rfl sh_175 ⟨by omega, by omega⟩ k13 ?_
  exact jx_reti c2 hm rfl rfl ⟨_, rfl, hH1, hF1, by omega, by omega⟩
 by_cases h14 : a0 = 4
 ·
  refine jx_tswI c1 hm 72 rfl ⟨by omega, by omega⟩ (by rw [h14] <;> rfl) rfl ?_
  refine jx_load c1 hm rfl rfl rfl rfl ?_
  refine jx_getr c1 hm rfl sh_173 rfl ?_
  refine jy_ic c1 hm rfl (by decide) ?_
  obtain ⟨z15, k16, lz15, uz15⟩ := hH1.ld (c := 175) (i := 4) (A := 0) (B := 9) (bs_11_1 _ _ (by omega) (by omega))
  refine jx_iald c1 hm rfl sh_175 ⟨by omega, by omega⟩ k16 ?_
  exact jx_reti c2 hm rfl rfl ⟨_, rfl, hH1, hF1, by omega, by omega⟩
 by_cases h17 : a0 = 5
 ·
  refine jx_tswI c1 hm 79 rfl ⟨by omega, by omega⟩ (by rw [h17] <;> rfl) rfl ?_
  refine jx_load c1 hm rfl rfl rfl rfl ?_
  obtain ⟨z18, k19, lz18, uz18⟩ := hH1.ld (c := 173) (i := 2) (A := 0) (B := 940) (bs_28_1 _ _ (by omega) (by omega))
  refine jx_geti c1 hm rfl sh_173 rfl k19 ?_
  exact jx_reti c2 hm rfl rfl ⟨_, rfl, hH1, hF1, by omega, by omega⟩
 refine jx_tswO c1 hm 84 rfl (by omega) rfl ?_
 refine jy_ic c1 hm rfl (by decide) ?_
 exact jx_reti c2 hm rfl rfl ⟨_, rfl, hH1, hF1, by omega, by omega⟩
theorem ct_X12_has (X : Int) (hX : 0 ≤ X ∧ X ≤ 100000000) (M0 : JM) (hH0 : HI X M0) (a0 : Int) (ha0 : (-2147483648) ≤ a0 ∧ a0 ≤ 2147483647) (a1 : Int) (ha1 : (-2147483648) ≤ a1 ∧ a1 ≤ 2147483647) : JOk shp PJ 1 112 [.inl a0, .inl a1] M0 (jRi (fun v M' => M0 = M' ∧ 0 ≤ v ∧ v ≤ 1 )) := by
 refine ⟨jr_X12_has, pj_X12_has, fun F c1 c2 c3 => ?_⟩
 have hm := pj_X12_has
 change F 0 [some (.inl a0), some (.inl a1)] [] M0
 refine jx_load c1 hm rfl rfl rfl rfl ?_
 refine jx_load c1 hm rfl rfl rfl rfl ?_
 refine jx_iopw c1 hm rfl rfl (fun z1 lz1 uz1 => ?_)
 refine jy_ic c1 hm rfl (by decide) ?_
 refine jy_anr c1 hm rfl ⟨by omega, by omega⟩ (fun z2 lz2 uz2 => ?_)
 refine jy_ic c1 hm rfl (by decide) ?_
 refine jc_ne c1 hm 13 rfl rfl (fun h3 => ?_) (fun h3 => ?_)
 ·
  refine jy_ic c1 hm rfl (by decide) ?_
  exact jx_retz c2 hm rfl rfl ⟨by omega, by omega⟩ ⟨_, rfl, rfl, by omega, by omega⟩
 refine jy_ic c1 hm rfl (by decide) ?_
 refine jx_goto c1 hm 14 rfl rfl ?_
 exact jx_retz c2 hm rfl rfl ⟨by omega, by omega⟩ ⟨_, rfl, rfl, by omega, by omega⟩
def md_X12_even_173 : List (Nat × (Nat × Nat)) := [(173, (0, 0)), (188, (0, 0)), (188, (1, 63)), (189, (0, 5))]
theorem ct_X12_even_173 (X : Int) (hX : 0 ≤ X ∧ X ≤ 100000000) (M0 : JM) (hH0 : HI X M0)  : JOk shp PJ 3 101 [.inr (.inr (.inl 173))] M0 (jRi (fun v M' => HI X M' ∧ Fr md_X12_even_173 M0 M' ∧ (-2147483648) ≤ v ∧ v ≤ 2147483647 )) := by
 refine ⟨jr_X12_even, pj_X12_even, fun F c1 c2 c3 => ?_⟩
 have hm := pj_X12_even
 change F 0 [some (.inr (.inr (.inl 173))), none, none, none, none, none] [] M0
 have hF0 : Fr md_X12_even_173 M0 M0 := Fr.rf _ _
 refine jx_load c1 hm rfl rfl rfl rfl ?_
 refine jy_ic c1 hm rfl (by decide) ?_
 obtain ⟨M1, e1, hH1, hF1, k1, n1, q1⟩ := mup hH0 hF0 (c := 173) (i := 0) (v := 0) (A := (-2147483648)) (B := 2147483647) (bs_28_0 _ _ (by omega) (by omega)) ⟨by omega, by omega⟩ (jin_of 0 rfl ⟨by omega, by omega⟩)
 refine jm_puti c1 hm rfl sh_173 rfl e1 ?_
 refine jy_ic c1 hm rfl (by decide) ?_
 refine jx_stor c1 hm (L' := [some (.inr (.inr (.inl 173))), some (.inl 0), none, none, none, none]) rfl rfl rfl rfl rfl ?_
 refine jy_ic c1 hm rfl (by decide) ?_
 refine jx_stor c1 hm (L' := [some (.inr (.inr (.inl 173))), some (.inl 0), some (.inl 0), none, none, none]) rfl rfl rfl rfl rfl ?_
 have W7 : ∀ (n8 : Nat) (b2 : Int) (hb2 : 0 ≤ b2 ∧ b2 ≤ 6) (b3 : Int) (hb3 : 0 ≤ b3 ∧ b3 ≤ 6) (M4 : JM) (hH4 : HI (X) M4) (hF4 : Fr md_X12_even_173 M0 M4) (k5 : M4.1 173 0 = 0) (h6 : b2 ≤ b3), (-b3 + 6) < (n8 : Int) → F 9 [some (.inr (.inr (.inl 173))), some (.inl b2), some (.inl b3), none, none, none] [] M4 := by
  intro n8
  induction n8 with
  | zero => intros; omega
  | succ n8 ihW7 =>
   intro b2 hb2 b3 hb3 M4 hH4 hF4 k5 h6 hrW7
   refine jx_load c1 hm rfl rfl rfl rfl ?_
   refine jx_load c1 hm rfl rfl rfl rfl ?_
   refine jx_getr c1 hm rfl sh_173 rfl ?_
   refine jy_ic c1 hm rfl (by decide) ?_
   obtain ⟨z9, k10, lz9, uz9⟩ := hH4.ld (c := 175) (i := 0) (A := 0) (B := 6) (bs_11_0 _ _ (by omega) (by omega))
   refine jx_iald c1 hm rfl sh_175 ⟨by omega, by omega⟩ k10 ?_
   refine jc_ge c1 hm 54 rfl rfl (fun h11 => ?_) (fun h11 => ?_)
   ·
    refine jx_load c1 hm rfl rfl rfl rfl ?_
    refine jx_getr c1 hm rfl sh_173 rfl ?_
    refine jy_ic c1 hm rfl (by decide) ?_
    refine jy_ic c1 hm rfl (by decide) ?_
    obtain ⟨M23, e23, hH23, hF23, k23, n23, q23⟩ := mup hH4 hF4 (c := 188) (i := 0) (v := 0) (A := (-2147483648)) (B := 2147483647) rfl ⟨by omega, by omega⟩ (jin_of 1 rfl ⟨by omega, by omega⟩)
    refine jm_iast c1 hm rfl sh_188 ⟨by omega, by omega⟩ e23 ?_
    refine jy_ic c1 hm rfl (by decide) ?_
    refine jx_stor c1 hm (L' := [some (.inr (.inr (.inl 173))), some (.inl b2), some (.inl 1), none, none, none]) rfl rfl rfl rfl rfl ?_
    have W33 : ∀ (n34 : Nat) (b24 : Int) (hb24 : 1 ≤ b24 ∧ b24 ≤ 64) (o25 : Option JV) (ho25 : o25 = none ∨ (∃ z, o25 = some (.inl z)) ∨ ∃ r, o25 = some (.inr (.inr r))) (o26 : Option JV) (ho26 : o26 = none ∨ (∃ z, o26 = some (.inl z)) ∨ ∃ r, o26 = some (.inr (.inr r))) (o27 : Option JV) (ho27 : o27 = none ∨ (∃ z, o27 = some (.inl z)) ∨ ∃ r, o27 = some (.inr (.inr r))) (M28 : JM) (hH28 : HI (X) M28) (hF28 : Fr md_X12_even_173 M0 M28) (k30 : M28.1 173 0 = 0) (k32 : M28.1 175 0 = z9), (-b24 + 64) < (n34 : Int) → F 63 [some (.inr (.inr (.inl 173))), some (.inl b2), some (.inl b24), o25, o26, o27] [] M28 := by
     intro n34
     induction n34 with
     | zero => intros; omega
     | succ n34 ihW33 =>
      intro b24 hb24 o25 ho25 o26 ho26 o27 ho27 M28 hH28 hF28 k30 k32 hrW33
      refine jx_load c1 hm rfl rfl rfl rfl ?_
      refine jy_ic c1 hm rfl (by decide) ?_
      refine jx_load c1 hm rfl rfl rfl rfl ?_
      refine jy_sh1 c1 hm rfl ⟨by omega, by omega⟩ (fun z35 lz35 uz35 => ?_)
      refine jc_ge c1 hm 170 rfl rfl (fun h36 => ?_) (fun h36 => ?_)
      ·
       refine jx_load c1 hm rfl rfl rfl rfl ?_
       refine jx_load c1 hm rfl rfl rfl rfl ?_
       refine jx_getr c1 hm rfl sh_173 rfl ?_
       refine jy_ic c1 hm rfl (by decide) ?_
       refine jx_load c1 hm rfl rfl rfl rfl ?_
       refine jy_sh1 c1 hm rfl ⟨by omega, by omega⟩ (fun z67 lz67 uz67 => ?_)
       refine jy_ic c1 hm rfl (by decide) ?_
       refine jy_sub c1 hm (z67 - 1) rfl (by omega) ?_
       obtain ⟨z68, k69, lz68, uz68⟩ := hH28.ld (c := 188) (i := ((z67 - 1)).toNat) (A := (-2147483648)) (B := 2147483647) rfl
       refine jx_iald c1 hm rfl sh_188 ⟨by omega, by omega⟩ k69 ?_
       refine jx_iopw c1 hm rfl rfl (fun z70 lz70 uz70 => ?_)
       exact jx_reti c2 hm rfl rfl ⟨_, rfl, hH28, hF28, by omega, by omega⟩
      refine jy_ic c1 hm rfl (by decide) ?_
      refine jx_stor c1 hm (L' := [some (.inr (.inr (.inl 173))), some (.inl b2), some (.inl b24), some (.inl 0), o26, o27]) rfl rfl rfl rfl rfl ?_
      refine jy_ic c1 hm rfl (by decide) ?_
      refine jx_stor c1 hm (L' := [some (.inr (.inr (.inl 173))), some (.inl b2), some (.inl b24), some (.inl 0), some (.inl 0), o27]) rfl rfl rfl rfl rfl ?_
      refine jy_ic c1 hm rfl (by decide) ?_
      refine jx_stor c1 hm (L' := [some (.inr (.inr (.inl 173))), some (.inl b2), some (.inl b24), some (.inl 0), some (.inl 0), some (.inl 0)]) rfl rfl rfl rfl rfl ?_
      have W40 : ∀ (n41 : Nat) (b37 : Int) (hb37 : (-2147483648) ≤ b37 ∧ b37 ≤ 2147483647) (b38 : Int) (hb38 : (-2147483648) ≤ b38 ∧ b38 ≤ 2147483647) (b39 : Int) (hb39 : 0 ≤ b39 ∧ b39 ≤ 6), (-b39 + 6) < (n41 : Int) → F 78 [some (.inr (.inr (.inl 173))), some (.inl b2), some (.inl b24), some (.inl b37), some (.inl b38), some (.inl b39)] [] M28 := by
       intro n41
       induction n41 with
       | zero => intros; omega
       | succ n41 ihW40 =>
        intro b37 hb37 b38 hb38 b39 hb39 hrW40
        refine jx_load c1 hm rfl rfl rfl rfl ?_
        refine jx_load c1 hm rfl rfl rfl rfl ?_
        refine jc_ge c1 hm 145 rfl rfl (fun h42 => ?_) (fun h42 => ?_)
        ·
         refine jx_load c1 hm rfl rfl rfl rfl ?_
         refine jx_getr c1 hm rfl sh_173 rfl ?_
         refine jx_load c1 hm rfl rfl rfl rfl ?_
         refine jx_load c1 hm rfl rfl rfl rfl ?_
         have J65 : ∀ (b64 : Int) (hb64 : (-2147483648) ≤ b64 ∧ b64 ≤ 2147483647), F 163 [some (.inr (.inr (.inl 173))), some (.inl b2), some (.inl b24), some (.inl b37), some (.inl b38), some (.inl b39)] [.inl b64, .inl b24, .inr (.inr (.inl 188))] M28 := by
          intro b64 hb64
          obtain ⟨M66, e66, hH66, hF66, k66, n66, q66⟩ := mup hH28 hF28 (c := 188) (i := (b24).toNat) (v := b64) (A := (-2147483648)) (B := 2147483647) rfl ⟨by omega, by omega⟩ (jin_of 2 rfl ⟨by omega, by omega⟩)
          refine jm_iast c1 hm rfl sh_188 ⟨by omega, by omega⟩ e66 ?_
          refine jx_iinc c1 hm (v := (b24 + 1)) (L' := [some (.inr (.inr (.inl 173))), some (.inl b2), some (.inl (b24 + 1)), some (.inl b37), some (.inl b38), some (.inl b39)]) rfl rfl (by omega) (by omega) rfl ?_
          refine jx_goto c1 hm 63 rfl rfl ?_
          have k71 : M66.1 173 0 = 0 := (n66 173 0 (fun h => absurd h.1 (by decide))).trans k30
          have k72 : M66.1 175 0 = z9 := (n66 175 0 (fun h => absurd h.1 (by decide))).trans k32
          exact ihW33 (b24 + 1) (by omega) (some (.inl b37)) (Or.inr (Or.inl ⟨_, rfl⟩)) (some (.inl b38)) (Or.inr (Or.inl ⟨_, rfl⟩)) (some (.inl b39)) (Or.inr (Or.inl ⟨_, rfl⟩)) M66 hH66 hF66 k71 k72 (by omega)
         refine jz_ne c1 hm 161 rfl rfl (fun h62 => ?_) (fun h62 => ?_)
         ·
          refine jx_load c1 hm rfl rfl rfl rfl ?_
          exact J65 b38 (by omega)
         refine jx_load c1 hm rfl rfl rfl rfl ?_
         refine jy_ic c1 hm rfl (by decide) ?_
         refine jx_iopw c1 hm rfl rfl (fun z63 lz63 uz63 => ?_)
         refine jx_goto c1 hm 163 rfl rfl ?_
         exact J65 z63 (by omega)
        refine jx_load c1 hm rfl rfl rfl rfl ?_
        refine jx_load c1 hm rfl rfl rfl rfl ?_
        refine jt_i c3 hm rfl rfl pj_X12_has rfl rfl rfl ((ct_X12_has X (by omega) M28 hH28 b24 ⟨by omega, by omega⟩ b39 ⟨by omega, by omega⟩).le (by decide)) (fun z43 _ ⟨rfl, lz43, uz43⟩ => ?_)
        have J61 : ∀ (b59 : Int) (hb59 : (-2147483648) ≤ b59 ∧ b59 ≤ 2147483647) (b60 : Int) (hb60 : (-2147483648) ≤ b60 ∧ b60 ≤ 2147483647), F 139 [some (.inr (.inr (.inl 173))), some (.inl b2), some (.inl b24), some (.inl b59), some (.inl b60), some (.inl b39)] [] M28 := by
         intro b59 hb59 b60 hb60
         refine jx_iinc c1 hm (v := (b39 + 1)) (L' := [some (.inr (.inr (.inl 173))), some (.inl b2), some (.inl b24), some (.inl b59), some (.inl b60), some (.inl (b39 + 1))]) rfl rfl (by omega) (by omega) rfl ?_
         refine jx_goto c1 hm 78 rfl rfl ?_
         exact ihW40 b59 (by omega) b60 (by omega) (b39 + 1) (by omega) (by omega)
        refine jz_ne c1 hm 96 rfl rfl (fun h44 => ?_) (fun h44 => ?_)
        ·
         refine jx_load c1 hm rfl rfl rfl rfl ?_
         refine jx_load c1 hm rfl rfl rfl rfl ?_
         refine jx_getr c1 hm rfl sh_173 rfl ?_
         refine jx_load c1 hm rfl rfl rfl rfl ?_
         obtain ⟨z45, k46, lz45, uz45⟩ := hH28.ld (c := 189) (i := (b39).toNat) (A := (-2147483648)) (B := 2147483647) rfl
         refine jx_iald c1 hm rfl sh_189 ⟨by omega, by omega⟩ k46 ?_
         refine jx_iopw c1 hm rfl rfl (fun z47 lz47 uz47 => ?_)
         refine jx_stor c1 hm (L' := [some (.inr (.inr (.inl 173))), some (.inl b2), some (.inl b24), some (.inl z47), some (.inl b38), some (.inl b39)]) rfl rfl rfl rfl rfl ?_
         refine jx_load c1 hm rfl rfl rfl rfl ?_
         refine jx_getr c1 hm rfl sh_173 rfl ?_
         refine jx_load c1 hm rfl rfl rfl rfl ?_
         refine jy_ic c1 hm rfl (by decide) ?_
         refine jx_load c1 hm rfl rfl rfl rfl ?_
         refine jy_sh1 c1 hm rfl ⟨by omega, by omega⟩ (fun z48 lz48 uz48 => ?_)
         refine jy_ic c1 hm rfl (by decide) ?_
         refine jx_iopw c1 hm rfl rfl (fun z49 lz49 uz49 => ?_)
         refine jy_anl c1 hm rfl ⟨by omega, by omega⟩ (fun z50 lz50 uz50 => ?_)
         obtain ⟨z51, k52, lz51, uz51⟩ := hH28.ld (c := 188) (i := (z50).toNat) (A := (-2147483648)) (B := 2147483647) rfl
         refine jx_iald c1 hm rfl sh_188 ⟨by omega, by omega⟩ k52 ?_
         refine jx_load c1 hm rfl rfl rfl rfl ?_
         refine jc_le c1 hm 139 rfl rfl (fun h53 => ?_) (fun h53 => ?_)
         ·
          exact J61 z47 (by omega) b38 (by omega)
         refine jx_load c1 hm rfl rfl rfl rfl ?_
         refine jx_getr c1 hm rfl sh_173 rfl ?_
         refine jx_load c1 hm rfl rfl rfl rfl ?_
         refine jy_ic c1 hm rfl (by decide) ?_
         refine jx_load c1 hm rfl rfl rfl rfl ?_
         refine jy_sh1 c1 hm rfl ⟨by omega, by omega⟩ (fun z54 lz54 uz54 => ?_)
         refine jy_ic c1 hm rfl (by decide) ?_
         refine jx_iopw c1 hm rfl rfl (fun z55 lz55 uz55 => ?_)
         refine jy_anl c1 hm rfl ⟨by omega, by omega⟩ (fun z56 lz56 uz56 => ?_)
         obtain ⟨z57, k58, lz57, uz57⟩ := hH28.ld (c := 188) (i := (z56).toNat) (A := (-2147483648)) (B := 2147483647) rfl
         refine jx_iald c1 hm rfl sh_188 ⟨by omega, by omega⟩ k58 ?_
         refine jx_stor c1 hm (L' := [some (.inr (.inr (.inl 173))), some (.inl b2), some (.inl b24), some (.inl z47), some (.inl z57), some (.inl b39)]) rfl rfl rfl rfl rfl ?_
         exact J61 z47 (by omega) z57 (by omega)
        refine jx_goto c1 hm 139 rfl rfl ?_
        exact J61 b37 (by omega) b38 (by omega)
      exact W40 (6 + 1 : Int).toNat 0 (by omega) 0 (by omega) 0 (by omega) (by omega)
    have k29 : M23.1 173 0 = 0 := (n23 173 0 (fun h => absurd h.1 (by decide))).trans k5
    have k31 : M23.1 175 0 = z9 := (n23 175 0 (fun h => absurd h.1 (by decide))).trans k10
    exact W33 (63 + 1 : Int).toNat 1 (by omega) none (Or.inl rfl) none (Or.inl rfl) none (Or.inl rfl) M23 hH23 hF23 k29 k31 (by omega)
   refine jx_load c1 hm rfl rfl rfl rfl ?_
   refine jx_getr c1 hm rfl sh_173 rfl ?_
   refine jx_load c1 hm rfl rfl rfl rfl ?_
   refine jx_load c1 hm rfl rfl rfl rfl ?_
   refine jx_load c1 hm rfl rfl rfl rfl ?_
   refine jv_i c3 hm rfl pj_X12_owedAll rfl rfl ⟨_, _, _, rfl, sh_173⟩ rfl ((ct_X12_owedAll_173 X (by omega) M4 hH4 b3 ⟨by omega, by omega⟩).le (by decide)) (fun z12 _ ⟨rfl, lz12, uz12⟩ => ?_)
   refine jx_load c1 hm rfl rfl rfl rfl ?_
   refine jx_load c1 hm rfl rfl rfl rfl ?_
   refine jv_i c3 hm rfl pj_X12_owesAll rfl rfl ⟨_, _, _, rfl, sh_173⟩ rfl ((ct_X12_owesAll_173 X (by omega) M4 hH4 b3 ⟨by omega, by omega⟩).le (by decide)) (fun z13 _ ⟨rfl, lz13, uz13⟩ => ?_)
   refine jx_iopw c1 hm rfl rfl (fun z14 lz14 uz14 => ?_)
   have t15 : 0 ≤ b2 ∧ b2 ≤ 5 := by omega
   obtain ⟨M16, e16, hH16, hF16, k16, n16, q16⟩ := mup hH4 hF4 (c := 189) (i := (b2).toNat) (v := z14) (A := (-2147483648)) (B := 2147483647) rfl ⟨by omega, by omega⟩ (jin_of 3 rfl ⟨by omega, by omega⟩)
   refine jm_iast c1 hm rfl sh_189 ⟨by omega, by omega⟩ e16 ?_
   refine jx_load c1 hm rfl rfl rfl rfl ?_
   refine jx_getr c1 hm rfl sh_173 rfl ?_
   refine jx_load c1 hm rfl rfl rfl rfl ?_
   obtain ⟨z17, k18, lz17, uz17⟩ := hH16.ld (c := 189) (i := (b2).toNat) (A := (-2147483648)) (B := 2147483647) rfl
   refine jx_iald c1 hm rfl sh_189 ⟨by omega, by omega⟩ k18 ?_
   have J22 : ∀ (b20 : Int) (hb20 : 0 ≤ b20 ∧ b20 ≤ 6) (h21 : b20 ≤ b3 + 1), F 48 [some (.inr (.inr (.inl 173))), some (.inl b20), some (.inl b3), none, none, none] [] M16 := by
    intro b20 hb20 h21
    refine jx_iinc c1 hm (v := (b3 + 1)) (L' := [some (.inr (.inr (.inl 173))), some (.inl b20), some (.inl (b3 + 1)), none, none, none]) rfl rfl (by omega) (by omega) rfl ?_
    refine jx_goto c1 hm 9 rfl rfl ?_
    have k73 : M16.1 173 0 = 0 := (n16 173 0 (fun h => absurd h.1 (by decide))).trans k5
    exact ihW7 b20 (by omega) (b3 + 1) (by omega) M16 hH16 hF16 k73 (by omega) (by omega)
   refine jz_eq c1 hm 48 rfl rfl (fun h19 => ?_) (fun h19 => ?_)
   ·
    exact J22 b2 (by omega) (by omega)
   refine jx_iinc c1 hm (v := (b2 + 1)) (L' := [some (.inr (.inr (.inl 173))), some (.inl (b2 + 1)), some (.inl b3), none, none, none]) rfl rfl (by omega) (by omega) rfl ?_
   exact J22 (b2 + 1) (by omega) (by omega)
 exact W7 (6 + 1 : Int).toNat 0 (by omega) 0 (by omega) M1 hH1 hF1 k1 (by omega) (by omega)
def md_X12_share_173 : List (Nat × (Nat × Nat)) := [(173, (0, 0))]
theorem ct_X12_share_173 (X : Int) (hX : 0 ≤ X ∧ X ≤ 100000000) (M0 : JM) (hH0 : HI X M0) (a0 : Int) (ha0 : (-2147483648) ≤ a0 ∧ a0 ≤ 2147483647) (a1 : Int) (ha1 : (-2147483648) ≤ a1 ∧ a1 ≤ 2147483647) (a2 : Int) (ha2 : (-2147483648) ≤ a2 ∧ a2 ≤ 2147483647) : JOk shp PJ 3 181 [.inr (.inr (.inl 173)), .inl a0, .inl a1, .inl a2] M0 (jRi (fun v M' => HI X M' ∧ Fr md_X12_share_173 M0 M' ∧ (-2147483648) ≤ v ∧ v ≤ 2147483647 )) := by
 refine ⟨jr_X12_share, pj_X12_share, fun F c1 c2 c3 => ?_⟩
 have hm := pj_X12_share
 change F 0 [some (.inr (.inr (.inl 173))), some (.inl a0), some (.inl a1), some (.inl a2), none, none, none, none, none, none] [] M0
 have hF0 : Fr md_X12_share_173 M0 M0 := Fr.rf _ _
 refine jx_load c1 hm rfl rfl rfl rfl ?_
 refine jy_ic c1 hm rfl (by decide) ?_
 obtain ⟨M1, e1, hH1, hF1, k1, n1, q1⟩ := mup hH0 hF0 (c := 173) (i := 0) (v := 0) (A := (-2147483648)) (B := 2147483647) (bs_28_0 _ _ (by omega) (by omega)) ⟨by omega, by omega⟩ (jin_of 0 rfl ⟨by omega, by omega⟩)
 refine jm_puti c1 hm rfl sh_173 rfl e1 ?_
 refine jx_load c1 hm rfl rfl rfl rfl ?_
 refine jy_ic c1 hm rfl (by decide) ?_
 refine jy_sp c1 hm rfl (by decide) ?_
 refine jt_i c3 hm rfl rfl pj_X12_isIn rfl rfl rfl ((ct_X12_isIn X (by omega) M1 hH1 a0 ⟨by omega, by omega⟩ 0 ⟨by omega, by omega⟩ 999 ⟨by omega, by omega⟩).le (by decide)) (fun z2 _ ⟨rfl, lz2, uz2, p3⟩ => ?_)
 refine jz_eq c1 hm 48 rfl rfl (fun h4 => ?_) (fun h4 => ?_)
 ·
  refine jy_ic c1 hm rfl (by decide) ?_
  exact jx_reti c2 hm rfl rfl ⟨_, rfl, hH1, hF1, by omega, by omega⟩
 refine jx_load c1 hm rfl rfl rfl rfl ?_
 refine jz_lt c1 hm 48 rfl rfl (fun h5 => ?_) (fun h5 => ?_)
 ·
  refine jy_ic c1 hm rfl (by decide) ?_
  exact jx_reti c2 hm rfl rfl ⟨_, rfl, hH1, hF1, by omega, by omega⟩
 refine jx_load c1 hm rfl rfl rfl rfl ?_
 refine jy_ic c1 hm rfl (by decide) ?_
 refine jx_load c1 hm rfl rfl rfl rfl ?_
 refine jx_getr c1 hm rfl sh_173 rfl ?_
 refine jy_ic c1 hm rfl (by decide) ?_
 obtain ⟨z6, k7, lz6, uz6⟩ := hH1.ld (c := 175) (i := 0) (A := 0) (B := 6) (bs_11_0 _ _ (by omega) (by omega))
 refine jx_iald c1 hm rfl sh_175 ⟨by omega, by omega⟩ k7 ?_
 refine jy_sh1 c1 hm rfl ⟨by omega, by omega⟩ (fun z8 lz8 uz8 => ?_)
 refine jc_ge c1 hm 48 rfl rfl (fun h9 => ?_) (fun h9 => ?_)
 ·
  refine jy_ic c1 hm rfl (by decide) ?_
  exact jx_reti c2 hm rfl rfl ⟨_, rfl, hH1, hF1, by omega, by omega⟩
 refine jx_load c1 hm rfl rfl rfl rfl ?_
 refine jx_load c1 hm rfl rfl rfl rfl ?_
 refine jv_i c3 hm rfl pj_X12_isMan rfl rfl ⟨_, _, _, rfl, sh_173⟩ rfl ((ct_X12_isMan_173 X (by omega) M1 hH1 a2 ⟨by omega, by omega⟩).le (by decide)) (fun z10 _ ⟨rfl, lz10, uz10, p11⟩ => ?_)
 refine jz_eq c1 hm 48 rfl rfl (fun h12 => ?_) (fun h12 => ?_)
 ·
  refine jy_ic c1 hm rfl (by decide) ?_
  exact jx_reti c2 hm rfl rfl ⟨_, rfl, hH1, hF1, by omega, by omega⟩
 refine jx_load c1 hm rfl rfl rfl rfl ?_
 refine jx_load c1 hm rfl rfl rfl rfl ?_
 refine jt_i c3 hm rfl rfl pj_X12_has rfl rfl rfl ((ct_X12_has X (by omega) M1 hH1 a1 ⟨by omega, by omega⟩ a2 ⟨by omega, by omega⟩).le (by decide)) (fun z13 _ ⟨rfl, lz13, uz13⟩ => ?_)
 refine jz_ne c1 hm 50 rfl rfl (fun h14 => ?_) (fun h14 => ?_)
 ·
  refine jy_ic c1 hm rfl (by decide) ?_
  refine jx_stor c1 hm (L' := [some (.inr (.inr (.inl 173))), some (.inl a0), some (.inl a1), some (.inl a2), some (.inl 0), none, none, none, none, none]) rfl rfl rfl rfl rfl ?_
  refine jy_ic c1 hm rfl (by decide) ?_
  refine jx_stor c1 hm (L' := [some (.inr (.inr (.inl 173))), some (.inl a0), some (.inl a1), some (.inl a2), some (.inl 0), some (.inl 0), none, none, none, none]) rfl rfl rfl rfl rfl ?_
  have W17 : ∀ (n18 : Nat) (b15 : Int) (hb15 : (-2147483648) ≤ b15 ∧ b15 ≤ 2147483647) (b16 : Int) (hb16 : 0 ≤ b16 ∧ b16 ≤ 6), (-b16 + 6) < (n18 : Int) → F 56 [some (.inr (.inr (.inl 173))), some (.inl a0), some (.inl a1), some (.inl a2), some (.inl b15), some (.inl b16), none, none, none, none] [] M1 := by
   intro n18
   induction n18 with
   | zero => intros; omega
   | succ n18 ihW17 =>
    intro b15 hb15 b16 hb16 hrW17
    refine jx_load c1 hm rfl rfl rfl rfl ?_
    refine jy_bp c1 hm rfl (by decide) ?_
    refine jc_ge c1 hm 93 rfl rfl (fun h19 => ?_) (fun h19 => ?_)
    ·
     refine jx_load c1 hm rfl rfl rfl rfl ?_
     refine jz_ne c1 hm 100 rfl rfl (fun h27 => ?_) (fun h27 => ?_)
     ·
      refine jx_load c1 hm rfl rfl rfl rfl ?_
      refine jx_stor c1 hm (L' := [some (.inr (.inr (.inl 173))), some (.inl a0), some (.inl a1), some (.inl a2), some (.inl b15), some (.inl a0), none, none, none, none]) rfl rfl rfl rfl rfl ?_
      refine jy_ic c1 hm rfl (by decide) ?_
      refine jx_stor c1 hm (L' := [some (.inr (.inr (.inl 173))), some (.inl a0), some (.inl a1), some (.inl a2), some (.inl b15), some (.inl a0), some (.inl 0), none, none, none]) rfl rfl rfl rfl rfl ?_
      refine jx_load c1 hm rfl rfl rfl rfl ?_
      refine jx_load c1 hm rfl rfl rfl rfl ?_
      refine jx_getr c1 hm rfl sh_173 rfl ?_
      refine jy_bp c1 hm rfl (by decide) ?_
      refine jx_load c1 hm rfl rfl rfl rfl ?_
      refine jy_add c1 hm (a2 + 102) rfl (by omega) ?_
      obtain ⟨z28, k29, lz28, uz28⟩ := hH1.ld (c := 175) (i := ((a2 + 102)).toNat) (A := (-20) * X) (B := 99) (bs_11_8 _ _ (by omega) (by omega))
      refine jx_iald c1 hm rfl sh_175 ⟨by omega, by omega⟩ k29 ?_
      refine jx_iopw c1 hm rfl rfl (fun z30 lz30 uz30 => ?_)
      refine jx_load c1 hm rfl rfl rfl rfl ?_
      refine jx_idvw c1 hm rfl rfl (by omega) (fun z31 lz31 uz31 => ?_)
      refine jx_stor c1 hm (L' := [some (.inr (.inr (.inl 173))), some (.inl a0), some (.inl a1), some (.inl a2), some (.inl b15), some (.inl a0), some (.inl 0), some (.inl z31), none, none]) rfl rfl rfl rfl rfl ?_
      refine jy_ic c1 hm rfl (by decide) ?_
      refine jx_stor c1 hm (L' := [some (.inr (.inr (.inl 173))), some (.inl a0), some (.inl a1), some (.inl a2), some (.inl b15), some (.inl a0), some (.inl 0), some (.inl z31), some (.inl 0), none]) rfl rfl rfl rfl rfl ?_
      have W37 : ∀ (n38 : Nat) (b32 : Int) (hb32 : (-2147483648) ≤ b32 ∧ b32 ≤ 2147483647) (b33 : Int) (hb33 : 0 ≤ b33 ∧ b33 ≤ 6) (b34 : Int) (hb34 : 0 ≤ b34 ∧ b34 ≤ 6) (o35 : Option JV) (ho35 : o35 = none ∨ (∃ z, o35 = some (.inl z)) ∨ ∃ r, o35 = some (.inr (.inr r))) (h36 : b33 ≤ b34), (-b34 + 6) < (n38 : Int) → F 125 [some (.inr (.inr (.inl 173))), some (.inl a0), some (.inl a1), some (.inl a2), some (.inl b15), some (.inl b32), some (.inl b33), some (.inl z31), some (.inl b34), o35] [] M1 := by
       intro n38
       induction n38 with
       | zero => intros; omega
       | succ n38 ihW37 =>
        intro b32 hb32 b33 hb33 b34 hb34 o35 ho35 h36 hrW37
        refine jx_load c1 hm rfl rfl rfl rfl ?_
        refine jy_bp c1 hm rfl (by decide) ?_
        refine jc_ge c1 hm 210 rfl rfl (fun h39 => ?_) (fun h39 => ?_)
        ·
         refine jx_load c1 hm rfl rfl rfl rfl ?_
         refine jx_load c1 hm rfl rfl rfl rfl ?_
         refine jx_getr c1 hm rfl sh_173 rfl ?_
         refine jy_bp c1 hm rfl (by decide) ?_
         refine jx_load c1 hm rfl rfl rfl rfl ?_
         refine jy_add c1 hm (a2 + 102) rfl (by omega) ?_
         obtain ⟨z59, k60, lz59, uz59⟩ := hH1.ld (c := 175) (i := ((a2 + 102)).toNat) (A := (-20) * X) (B := 99) (bs_11_8 _ _ (by omega) (by omega))
         refine jx_iald c1 hm rfl sh_175 ⟨by omega, by omega⟩ k60 ?_
         refine jx_iopw c1 hm rfl rfl (fun z61 lz61 uz61 => ?_)
         refine jx_load c1 hm rfl rfl rfl rfl ?_
         refine jx_idvw c1 hm rfl rfl (by omega) (fun z62 lz62 uz62 => ?_)
         refine jx_load c1 hm rfl rfl rfl rfl ?_
         refine jx_load c1 hm rfl rfl rfl rfl ?_
         refine jc_ge c1 hm 235 rfl rfl (fun h63 => ?_) (fun h63 => ?_)
         ·
          refine jy_ic c1 hm rfl (by decide) ?_
          refine jy_add c1 hm z62 rfl (by omega) ?_
          exact jx_reti c2 hm rfl rfl ⟨_, rfl, hH1, hF1, by omega, by omega⟩
         refine jy_ic c1 hm rfl (by decide) ?_
         refine jx_goto c1 hm 236 rfl rfl ?_
         refine jx_iopw c1 hm rfl rfl (fun z64 lz64 uz64 => ?_)
         exact jx_reti c2 hm rfl rfl ⟨_, rfl, hH1, hF1, by omega, by omega⟩
        refine jx_load c1 hm rfl rfl rfl rfl ?_
        refine jx_load c1 hm rfl rfl rfl rfl ?_
        refine jt_i c3 hm rfl rfl pj_X12_has rfl rfl rfl ((ct_X12_has X (by omega) M1 hH1 a1 ⟨by omega, by omega⟩ b34 ⟨by omega, by omega⟩).le (by decide)) (fun z40 _ ⟨rfl, lz40, uz40⟩ => ?_)
        have J58 : ∀ (b54 : Int) (hb54 : (-2147483648) ≤ b54 ∧ b54 ≤ 2147483647) (b55 : Int) (hb55 : 0 ≤ b55 ∧ b55 ≤ 7) (o56 : Option JV) (ho56 : o56 = none ∨ (∃ z, o56 = some (.inl z)) ∨ ∃ r, o56 = some (.inr (.inr r))) (h57 : b55 ≤ b34 + 1), F 204 [some (.inr (.inr (.inl 173))), some (.inl a0), some (.inl a1), some (.inl a2), some (.inl b15), some (.inl b54), some (.inl b55), some (.inl z31), some (.inl b34), o56] [] M1 := by
         intro b54 hb54 b55 hb55 o56 ho56 h57
         refine jx_iinc c1 hm (v := (b34 + 1)) (L' := [some (.inr (.inr (.inl 173))), some (.inl a0), some (.inl a1), some (.inl a2), some (.inl b15), some (.inl b54), some (.inl b55), some (.inl z31), some (.inl (b34 + 1)), o56]) rfl rfl (by omega) (by omega) rfl ?_
         refine jx_goto c1 hm 125 rfl rfl ?_
         exact ihW37 b54 (by omega) b55 (by omega) (b34 + 1) (by omega) o56 ho56 (by omega) (by omega)
        refine jz_ne c1 hm 144 rfl rfl (fun h41 => ?_) (fun h41 => ?_)
        ·
         refine jx_load c1 hm rfl rfl rfl rfl ?_
         refine jx_load c1 hm rfl rfl rfl rfl ?_
         refine jx_getr c1 hm rfl sh_173 rfl ?_
         refine jy_bp c1 hm rfl (by decide) ?_
         refine jx_load c1 hm rfl rfl rfl rfl ?_
         refine jy_add c1 hm (b34 + 102) rfl (by omega) ?_
         obtain ⟨z42, k43, lz42, uz42⟩ := hH1.ld (c := 175) (i := ((b34 + 102)).toNat) (A := (-20) * X) (B := 99) (bs_11_8 _ _ (by omega) (by omega))
         refine jx_iald c1 hm rfl sh_175 ⟨by omega, by omega⟩ k43 ?_
         refine jx_iopw c1 hm rfl rfl (fun z44 lz44 uz44 => ?_)
         refine jx_load c1 hm rfl rfl rfl rfl ?_
         refine jx_idvw c1 hm rfl rfl (by omega) (fun z45 lz45 uz45 => ?_)
         refine jx_stor c1 hm (L' := [some (.inr (.inr (.inl 173))), some (.inl a0), some (.inl a1), some (.inl a2), some (.inl b15), some (.inl b32), some (.inl b33), some (.inl z31), some (.inl b34), some (.inl z45)]) rfl rfl rfl rfl rfl ?_
         refine jx_load c1 hm rfl rfl rfl rfl ?_
         refine jx_load c1 hm rfl rfl rfl rfl ?_
         refine jx_load c1 hm rfl rfl rfl rfl ?_
         refine jx_getr c1 hm rfl sh_173 rfl ?_
         refine jy_bp c1 hm rfl (by decide) ?_
         refine jx_load c1 hm rfl rfl rfl rfl ?_
         refine jy_add c1 hm (b34 + 102) rfl (by omega) ?_
         obtain ⟨z46, k47, lz46, uz46⟩ := hH1.ld (c := 175) (i := ((b34 + 102)).toNat) (A := (-20) * X) (B := 99) (bs_11_8 _ _ (by omega) (by omega))
         refine jx_iald c1 hm rfl sh_175 ⟨by omega, by omega⟩ k47 ?_
         refine jx_iopw c1 hm rfl rfl (fun z48 lz48 uz48 => ?_)
         refine jx_load c1 hm rfl rfl rfl rfl ?_
         refine jx_idvw c1 hm rfl rfl (by omega) (fun z49 lz49 uz49 => ?_)
         refine jx_iopw c1 hm rfl rfl (fun z50 lz50 uz50 => ?_)
         refine jx_stor c1 hm (L' := [some (.inr (.inr (.inl 173))), some (.inl a0), some (.inl a1), some (.inl a2), some (.inl b15), some (.inl z50), some (.inl b33), some (.inl z31), some (.inl b34), some (.inl z45)]) rfl rfl rfl rfl rfl ?_
         refine jx_load c1 hm rfl rfl rfl rfl ?_
         refine jx_load c1 hm rfl rfl rfl rfl ?_
         refine jc_gt c1 hm 201 rfl rfl (fun h51 => ?_) (fun h51 => ?_)
         ·
          refine jx_iinc c1 hm (v := (b33 + 1)) (L' := [some (.inr (.inr (.inl 173))), some (.inl a0), some (.inl a1), some (.inl a2), some (.inl b15), some (.inl z50), some (.inl (b33 + 1)), some (.inl z31), some (.inl b34), some (.inl z45)]) rfl rfl (by omega) (by omega) rfl ?_
          exact J58 z50 (by omega) (b33 + 1) (by omega) (some (.inl z45)) (Or.inr (Or.inl ⟨_, rfl⟩)) (by omega)
         refine jx_load c1 hm rfl rfl rfl rfl ?_
         refine jx_load c1 hm rfl rfl rfl rfl ?_
         refine jc_ne c1 hm 204 rfl rfl (fun h52 => ?_) (fun h52 => ?_)
         ·
          exact J58 z50 (by omega) b33 (by omega) (some (.inl z45)) (Or.inr (Or.inl ⟨_, rfl⟩)) (by omega)
         refine jx_load c1 hm rfl rfl rfl rfl ?_
         refine jx_load c1 hm rfl rfl rfl rfl ?_
         refine jc_ge c1 hm 204 rfl rfl (fun h53 => ?_) (fun h53 => ?_)
         ·
          exact J58 z50 (by omega) b33 (by omega) (some (.inl z45)) (Or.inr (Or.inl ⟨_, rfl⟩)) (by omega)
         refine jx_iinc c1 hm (v := (b33 + 1)) (L' := [some (.inr (.inr (.inl 173))), some (.inl a0), some (.inl a1), some (.inl a2), some (.inl b15), some (.inl z50), some (.inl (b33 + 1)), some (.inl z31), some (.inl b34), some (.inl z45)]) rfl rfl (by omega) (by omega) rfl ?_
         exact J58 z50 (by omega) (b33 + 1) (by omega) (some (.inl z45)) (Or.inr (Or.inl ⟨_, rfl⟩)) (by omega)
        refine jx_goto c1 hm 204 rfl rfl ?_
        exact J58 b32 (by omega) b33 (by omega) o35 ho35 (by omega)
      exact W37 (6 + 1 : Int).toNat a0 (by omega) 0 (by omega) 0 (by omega) none (Or.inl rfl) (by omega) (by omega)
     refine jy_ic c1 hm rfl (by decide) ?_
     exact jx_reti c2 hm rfl rfl ⟨_, rfl, hH1, hF1, by omega, by omega⟩
    refine jx_load c1 hm rfl rfl rfl rfl ?_
    refine jx_load c1 hm rfl rfl rfl rfl ?_
    refine jt_i c3 hm rfl rfl pj_X12_has rfl rfl rfl ((ct_X12_has X (by omega) M1 hH1 a1 ⟨by omega, by omega⟩ b16 ⟨by omega, by omega⟩).le (by decide)) (fun z20 _ ⟨rfl, lz20, uz20⟩ => ?_)
    have J26 : ∀ (b25 : Int) (hb25 : (-2147483648) ≤ b25 ∧ b25 ≤ 2147483647), F 87 [some (.inr (.inr (.inl 173))), some (.inl a0), some (.inl a1), some (.inl a2), some (.inl b25), some (.inl b16), none, none, none, none] [] M1 := by
     intro b25 hb25
     refine jx_iinc c1 hm (v := (b16 + 1)) (L' := [some (.inr (.inr (.inl 173))), some (.inl a0), some (.inl a1), some (.inl a2), some (.inl b25), some (.inl (b16 + 1)), none, none, none, none]) rfl rfl (by omega) (by omega) rfl ?_
     refine jx_goto c1 hm 56 rfl rfl ?_
     exact ihW17 b25 (by omega) (b16 + 1) (by omega) (by omega)
    refine jz_eq c1 hm 87 rfl rfl (fun h21 => ?_) (fun h21 => ?_)
    ·
     exact J26 b15 (by omega)
    refine jx_load c1 hm rfl rfl rfl rfl ?_
    refine jx_load c1 hm rfl rfl rfl rfl ?_
    refine jx_getr c1 hm rfl sh_173 rfl ?_
    refine jy_bp c1 hm rfl (by decide) ?_
    refine jx_load c1 hm rfl rfl rfl rfl ?_
    refine jy_add c1 hm (b16 + 102) rfl (by omega) ?_
    obtain ⟨z22, k23, lz22, uz22⟩ := hH1.ld (c := 175) (i := ((b16 + 102)).toNat) (A := (-20) * X) (B := 99) (bs_11_8 _ _ (by omega) (by omega))
    refine jx_iald c1 hm rfl sh_175 ⟨by omega, by omega⟩ k23 ?_
    refine jx_iopw c1 hm rfl rfl (fun z24 lz24 uz24 => ?_)
    refine jx_stor c1 hm (L' := [some (.inr (.inr (.inl 173))), some (.inl a0), some (.inl a1), some (.inl a2), some (.inl z24), some (.inl b16), none, none, none, none]) rfl rfl rfl rfl rfl ?_
    exact J26 z24 (by omega)
  exact W17 (6 + 1 : Int).toNat 0 (by omega) 0 (by omega) (by omega)
 refine jy_ic c1 hm rfl (by decide) ?_
 exact jx_reti c2 hm rfl rfl ⟨_, rfl, hH1, hF1, by omega, by omega⟩
theorem ct_X12_mayDo_173 (X : Int) (hX : 0 ≤ X ∧ X ≤ 100000000) (M0 : JM) (hH0 : HI X M0) (a0 : Int) (ha0 : 0 ≤ a0 ∧ a0 ≤ 5) (a1 : Int) (ha1 : 0 ≤ a1 ∧ a1 ≤ 5) (a2 : Int) (ha2 : 0 ≤ a2 ∧ a2 ≤ 20) : JOk shp PJ 4 136 [.inr (.inr (.inl 173)), .inl a0, .inl a1, .inl a2] M0 (jRi (fun v M' => M0 = M' ∧ 0 ≤ v ∧ v ≤ 1 )) := by
 refine ⟨jr_X12_mayDo, pj_X12_mayDo, fun F c1 c2 c3 => ?_⟩
 have hm := pj_X12_mayDo
 change F 0 [some (.inr (.inr (.inl 173))), some (.inl a0), some (.inl a1), some (.inl a2)] [] M0
 refine jx_load c1 hm rfl rfl rfl rfl ?_
 refine jx_load c1 hm rfl rfl rfl rfl ?_
 refine jx_load c1 hm rfl rfl rfl rfl ?_
 refine jv_i c3 hm rfl pj_X12_costOf rfl rfl ⟨_, _, _, rfl, sh_173⟩ rfl ((ct_X12_costOf_173 X (by omega) M0 hH0 a0 ⟨by omega, by omega⟩ a1 ⟨by omega, by omega⟩).le (by decide)) (fun z1 _ ⟨rfl, lz1, uz1, p2⟩ => ?_)
 refine jy_ic c1 hm rfl (by decide) ?_
 refine jx_load c1 hm rfl rfl rfl rfl ?_
 refine jx_load c1 hm rfl rfl rfl rfl ?_
 refine jx_getr c1 hm rfl sh_173 rfl ?_
 refine jy_bp c1 hm rfl (by decide) ?_
 refine jx_load c1 hm rfl rfl rfl rfl ?_
 refine jy_add c1 hm (a0 + 102) rfl (by omega) ?_
 obtain ⟨z3, k4, lz3, uz3⟩ := hH0.ld (c := 175) (i := ((a0 + 102)).toNat) (A := (-20) * X) (B := 99) (bs_11_8 _ _ (by omega) (by omega))
 refine jx_iald c1 hm rfl sh_175 ⟨by omega, by omega⟩ k4 ?_
 refine jt_i c3 hm rfl rfl pj_X12_least rfl rfl rfl ((ct_X12_least X (by omega) M0 hH0 a2 ⟨by omega, by omega⟩ z3 ⟨by omega, by omega⟩).le (by decide)) (fun z5 _ ⟨rfl, lz5, uz5, p6, p7⟩ => ?_)
 refine jt_i c3 hm rfl rfl pj_X12_isIn rfl rfl rfl ((ct_X12_isIn X (by omega) M0 hH0 z1 ⟨by omega, by omega⟩ 1 ⟨by omega, by omega⟩ z5 ⟨by omega, by omega⟩).le (by decide)) (fun z8 _ ⟨rfl, lz8, uz8, p9⟩ => ?_)
 exact jx_retz c2 hm rfl rfl ⟨by omega, by omega⟩ ⟨_, rfl, rfl, by omega, by omega⟩
def md_X12_layReach_173 : List (Nat × (Nat × Nat)) := [(192, (0, 846))]
theorem ct_X12_layReach_173 (X : Int) (hX : 0 ≤ X ∧ X ≤ 100000000) (M0 : JM) (hH0 : HI X M0) (a0 : Int) (ha0 : 0 ≤ a0 ∧ a0 ≤ 20) : JOk shp PJ 5 129 [.inr (.inr (.inl 173)), .inl a0] M0 (jRv (fun M' => HI X M' ∧ Fr md_X12_layReach_173 M0 M' )) := by
 refine ⟨jr_X12_layReach, pj_X12_layReach, fun F c1 c2 c3 => ?_⟩
 have hm := pj_X12_layReach
 change F 0 [some (.inr (.inr (.inl 173))), some (.inl a0), none, none, none, none, none] [] M0
 have hF0 : Fr md_X12_layReach_173 M0 M0 := Fr.rf _ _
 refine jx_load c1 hm rfl rfl rfl rfl ?_
 refine jx_getr c1 hm rfl sh_173 rfl ?_
 refine jy_ic c1 hm rfl (by decide) ?_
 obtain ⟨z1, k2, lz1, uz1⟩ := hH0.ld (c := 175) (i := 0) (A := 0) (B := 6) (bs_11_0 _ _ (by omega) (by omega))
 refine jx_iald c1 hm rfl sh_175 ⟨by omega, by omega⟩ k2 ?_
 refine jx_stor c1 hm (L' := [some (.inr (.inr (.inl 173))), some (.inl a0), some (.inl z1), none, none, none, none]) rfl rfl rfl rfl rfl ?_
 refine jy_ic c1 hm rfl (by decide) ?_
 refine jx_stor c1 hm (L' := [some (.inr (.inr (.inl 173))), some (.inl a0), some (.inl z1), some (.inl 0), none, none, none]) rfl rfl rfl rfl rfl ?_
 have W6 : ∀ (n7 : Nat) (b3 : Int) (hb3 : 0 ≤ b3 ∧ b3 ≤ 121) (M4 : JM) (hH4 : HI (X) M4) (hF4 : Fr md_X12_layReach_173 M0 M4) (k5 : M4.1 175 0 = z1), (-b3 + 121) < (n7 : Int) → F 9 [some (.inr (.inr (.inl 173))), some (.inl a0), some (.inl z1), some (.inl b3), none, none, none] [] M4 := by
  intro n7
  induction n7 with
  | zero => intros; omega
  | succ n7 ihW6 =>
   intro b3 hb3 M4 hH4 hF4 k5 hrW6
   refine jx_load c1 hm rfl rfl rfl rfl ?_
   refine jy_bp c1 hm rfl (by decide) ?_
   refine jc_gt c1 hm 41 rfl rfl (fun h8 => ?_) (fun h8 => ?_)
   ·
    refine jx_load c1 hm rfl rfl rfl rfl ?_
    refine jy_ic c1 hm rfl (by decide) ?_
    refine jy_sub c1 hm (z1 - 1) rfl (by omega) ?_
    refine jx_stor c1 hm (L' := [some (.inr (.inr (.inl 173))), some (.inl a0), some (.inl z1), some (.inl (z1 - 1)), none, none, none]) rfl rfl rfl rfl rfl ?_
    have W19 : ∀ (n20 : Nat) (b13 : Int) (hb13 : (-1) ≤ b13 ∧ b13 ≤ 5) (o14 : Option JV) (ho14 : o14 = none ∨ (∃ z, o14 = some (.inl z)) ∨ ∃ r, o14 = some (.inr (.inr r))) (o15 : Option JV) (ho15 : o15 = none ∨ (∃ z, o15 = some (.inl z)) ∨ ∃ r, o15 = some (.inr (.inr r))) (o16 : Option JV) (ho16 : o16 = none ∨ (∃ z, o16 = some (.inl z)) ∨ ∃ r, o16 = some (.inr (.inr r))) (M17 : JM) (hH17 : HI (X) M17) (hF17 : Fr md_X12_layReach_173 M0 M17) (k18 : M17.1 175 0 = z1), (b13 + 1) < (n20 : Int) → F 45 [some (.inr (.inr (.inl 173))), some (.inl a0), some (.inl z1), some (.inl b13), o14, o15, o16] [] M17 := by
     intro n20
     induction n20 with
     | zero => intros; omega
     | succ n20 ihW19 =>
      intro b13 hb13 o14 ho14 o15 ho15 o16 ho16 M17 hH17 hF17 k18 hrW19
      refine jx_load c1 hm rfl rfl rfl rfl ?_
      refine jz_lt c1 hm 181 rfl rfl (fun h21 => ?_) (fun h21 => ?_)
      ·
       exact jx_retv c2 hm rfl rfl ⟨rfl, hH17, hF17⟩
      refine jy_ic c1 hm rfl (by decide) ?_
      refine jx_stor c1 hm (L' := [some (.inr (.inr (.inl 173))), some (.inl a0), some (.inl z1), some (.inl b13), some (.inl 0), o15, o16]) rfl rfl rfl rfl rfl ?_
      have W27 : ∀ (n28 : Nat) (b22 : Int) (hb22 : 0 ≤ b22 ∧ b22 ≤ 121) (o23 : Option JV) (ho23 : o23 = none ∨ (∃ z, o23 = some (.inl z)) ∨ ∃ r, o23 = some (.inr (.inr r))) (o24 : Option JV) (ho24 : o24 = none ∨ (∃ z, o24 = some (.inl z)) ∨ ∃ r, o24 = some (.inr (.inr r))) (M25 : JM) (hH25 : HI (X) M25) (hF25 : Fr md_X12_layReach_173 M0 M25) (k26 : M25.1 175 0 = z1), (-b22 + 121) < (n28 : Int) → F 52 [some (.inr (.inr (.inl 173))), some (.inl a0), some (.inl z1), some (.inl b13), some (.inl b22), o23, o24] [] M25 := by
       intro n28
       induction n28 with
       | zero => intros; omega
       | succ n28 ihW27 =>
        intro b22 hb22 o23 ho23 o24 ho24 M25 hH25 hF25 k26 hrW27
        refine jx_load c1 hm rfl rfl rfl rfl ?_
        refine jy_bp c1 hm rfl (by decide) ?_
        refine jc_gt c1 hm 175 rfl rfl (fun h29 => ?_) (fun h29 => ?_)
        ·
         refine jx_iinc c1 hm (v := (b13 - 1)) (L' := [some (.inr (.inr (.inl 173))), some (.inl a0), some (.inl z1), some (.inl (b13 - 1)), some (.inl b22), o23, o24]) rfl rfl (by omega) (by omega) rfl ?_
         refine jx_goto c1 hm 45 rfl rfl ?_
         exact ihW19 (b13 - 1) (by omega) (some (.inl b22)) (Or.inr (Or.inl ⟨_, rfl⟩)) o23 ho23 o24 ho24 M25 hH25 hF25 k26 (by omega)
        refine jx_load c1 hm rfl rfl rfl rfl ?_
        refine jx_getr c1 hm rfl sh_173 rfl ?_
        refine jy_bp c1 hm rfl (by decide) ?_
        refine jx_load c1 hm rfl rfl rfl rfl ?_
        refine jy_ic c1 hm rfl (by decide) ?_
        refine jy_add c1 hm (b13 + 1) rfl (by omega) ?_
        refine jy_mul c1 hm (121 * b13 + 121) rfl (by omega) ?_
        refine jx_load c1 hm rfl rfl rfl rfl ?_
        refine jy_add c1 hm (121 * b13 + b22 + 121) rfl (by omega) ?_
        obtain ⟨z30, k31, lz30, uz30⟩ := hH25.ld (c := 192) (i := ((121 * b13 + b22 + 121)).toNat) (A := 0) (B := 1) rfl
        refine jx_bald c1 hm rfl sh_192 rfl ⟨by omega, by omega⟩ k31 ?_
        refine jx_stor c1 hm (L' := [some (.inr (.inr (.inl 173))), some (.inl a0), some (.inl z1), some (.inl b13), some (.inl b22), some (.inl z30), o24]) rfl rfl rfl rfl rfl ?_
        refine jy_ic c1 hm rfl (by decide) ?_
        refine jx_stor c1 hm (L' := [some (.inr (.inr (.inl 173))), some (.inl a0), some (.inl z1), some (.inl b13), some (.inl b22), some (.inl z30), some (.inl 0)]) rfl rfl rfl rfl rfl ?_
        have W34 : ∀ (n35 : Nat) (b32 : Int) (hb32 : 0 ≤ b32 ∧ b32 ≤ 1) (b33 : Int) (hb33 : 0 ≤ b33 ∧ b33 ≤ 6), (-b33 + 6) < (n35 : Int) → F 78 [some (.inr (.inr (.inl 173))), some (.inl a0), some (.inl z1), some (.inl b13), some (.inl b22), some (.inl b32), some (.inl b33)] [] M25 := by
         intro n35
         induction n35 with
         | zero => intros; omega
         | succ n35 ihW34 =>
          intro b32 hb32 b33 hb33 hrW34
          refine jx_load c1 hm rfl rfl rfl rfl ?_
          refine jx_load c1 hm rfl rfl rfl rfl ?_
          refine jx_getr c1 hm rfl sh_173 rfl ?_
          refine jy_ic c1 hm rfl (by decide) ?_
          obtain ⟨z36, k37, lz36, uz36⟩ := hH25.ld (c := 175) (i := 1) (A := 0) (B := 6) (bs_11_0 _ _ (by omega) (by omega))
          refine jx_iald c1 hm rfl sh_175 ⟨by omega, by omega⟩ k37 ?_
          have J52 : F 155 [some (.inr (.inr (.inl 173))), some (.inl a0), some (.inl z1), some (.inl b13), some (.inl b22), some (.inl b32), some (.inl b33)] [] M25 := by
           refine jx_load c1 hm rfl rfl rfl rfl ?_
           refine jx_getr c1 hm rfl sh_173 rfl ?_
           refine jy_bp c1 hm rfl (by decide) ?_
           refine jx_load c1 hm rfl rfl rfl rfl ?_
           refine jy_mul c1 hm (121 * b13) rfl (by omega) ?_
           refine jx_load c1 hm rfl rfl rfl rfl ?_
           refine jy_add c1 hm (121 * b13 + b22) rfl (by omega) ?_
           refine jx_load c1 hm rfl rfl rfl rfl ?_
           obtain ⟨M53, e53, hH53, hF53, k53, n53, q53⟩ := mup hH25 hF25 (c := 192) (i := ((121 * b13 + b22)).toNat) (v := b32) (A := 0) (B := 1) rfl ⟨by omega, by omega⟩ (jin_of 0 rfl ⟨by omega, by omega⟩)
           refine jm_bast c1 hm rfl sh_192 (Or.inr ⟨rfl, by omega, by omega⟩) ⟨by omega, by omega⟩ e53 ?_
           refine jx_iinc c1 hm (v := (b22 + 1)) (L' := [some (.inr (.inr (.inl 173))), some (.inl a0), some (.inl z1), some (.inl b13), some (.inl (b22 + 1)), some (.inl b32), some (.inl b33)]) rfl rfl (by omega) (by omega) rfl ?_
           refine jx_goto c1 hm 52 rfl rfl ?_
           have k54 : M53.1 175 0 = z1 := (n53 175 0 (fun h => absurd h.1 (by decide))).trans k26
           exact ihW27 (b22 + 1) (by omega) (some (.inl b32)) (Or.inr (Or.inl ⟨_, rfl⟩)) (some (.inl b33)) (Or.inr (Or.inl ⟨_, rfl⟩)) M53 hH53 hF53 k54 (by omega)
          refine jc_ge c1 hm 155 rfl rfl (fun h38 => ?_) (fun h38 => ?_)
          ·
           exact J52 
          refine jx_load c1 hm rfl rfl rfl rfl ?_
          refine jz_ne c1 hm 155 rfl rfl (fun h39 => ?_) (fun h39 => ?_)
          ·
           exact J52 
          refine jx_load c1 hm rfl rfl rfl rfl ?_
          refine jx_load c1 hm rfl rfl rfl rfl ?_
          refine jx_load c1 hm rfl rfl rfl rfl ?_
          refine jx_load c1 hm rfl rfl rfl rfl ?_
          refine jv_i c3 hm rfl pj_X12_mayDo rfl rfl ⟨_, _, _, rfl, sh_173⟩ rfl ((ct_X12_mayDo_173 X (by omega) M25 hH25 b13 ⟨by omega, by omega⟩ b33 ⟨by omega, by omega⟩ a0 ⟨by omega, by omega⟩).le (by decide)) (fun z40 _ ⟨rfl, lz40, uz40⟩ => ?_)
          have J51 : ∀ (b50 : Int) (hb50 : 0 ≤ b50 ∧ b50 ≤ 1), F 147 [some (.inr (.inr (.inl 173))), some (.inl a0), some (.inl z1), some (.inl b13), some (.inl b22), some (.inl b32), some (.inl b33)] [.inl b50] M25 := by
           intro b50 hb50
           refine jx_stor c1 hm (L' := [some (.inr (.inr (.inl 173))), some (.inl a0), some (.inl z1), some (.inl b13), some (.inl b22), some (.inl b50), some (.inl b33)]) rfl rfl rfl rfl rfl ?_
           refine jx_iinc c1 hm (v := (b33 + 1)) (L' := [some (.inr (.inr (.inl 173))), some (.inl a0), some (.inl z1), some (.inl b13), some (.inl b22), some (.inl b50), some (.inl (b33 + 1))]) rfl rfl (by omega) (by omega) rfl ?_
           refine jx_goto c1 hm 78 rfl rfl ?_
           exact ihW34 b50 (by omega) (b33 + 1) (by omega) (by omega)
          refine jz_eq c1 hm 146 rfl rfl (fun h41 => ?_) (fun h41 => ?_)
          ·
           refine jy_ic c1 hm rfl (by decide) ?_
           exact J51 0 (by omega)
          refine jx_load c1 hm rfl rfl rfl rfl ?_
          refine jx_load c1 hm rfl rfl rfl rfl ?_
          refine jx_load c1 hm rfl rfl rfl rfl ?_
          refine jv_i c3 hm rfl pj_X12_costOf rfl rfl ⟨_, _, _, rfl, sh_173⟩ rfl ((ct_X12_costOf_173 X (by omega) M25 hH25 b13 ⟨by omega, by omega⟩ b33 ⟨by omega, by omega⟩).le (by decide)) (fun z42 _ ⟨rfl, lz42, uz42, p43⟩ => ?_)
          refine jx_load c1 hm rfl rfl rfl rfl ?_
          refine jc_gt c1 hm 146 rfl rfl (fun h44 => ?_) (fun h44 => ?_)
          ·
           refine jy_ic c1 hm rfl (by decide) ?_
           exact J51 0 (by omega)
          refine jx_load c1 hm rfl rfl rfl rfl ?_
          refine jx_getr c1 hm rfl sh_173 rfl ?_
          refine jy_bp c1 hm rfl (by decide) ?_
          refine jx_load c1 hm rfl rfl rfl rfl ?_
          refine jy_ic c1 hm rfl (by decide) ?_
          refine jy_add c1 hm (b13 + 1) rfl (by omega) ?_
          refine jy_mul c1 hm (121 * b13 + 121) rfl (by omega) ?_
          refine jx_load c1 hm rfl rfl rfl rfl ?_
          refine jy_add c1 hm (121 * b13 + b22 + 121) rfl (by omega) ?_
          refine jx_load c1 hm rfl rfl rfl rfl ?_
          refine jx_load c1 hm rfl rfl rfl rfl ?_
          refine jx_load c1 hm rfl rfl rfl rfl ?_
          refine jv_i c3 hm rfl pj_X12_costOf rfl rfl ⟨_, _, _, rfl, sh_173⟩ rfl ((ct_X12_costOf_173 X (by omega) M25 hH25 b13 ⟨by omega, by omega⟩ b33 ⟨by omega, by omega⟩).le (by decide)) (fun z45 _ ⟨rfl, lz45, uz45, p46⟩ => ?_)
          obtain rfl : z42 = z45 := by omega
          refine jy_sub c1 hm (121 * b13 + b22 - z42 + 121) rfl (by omega) ?_
          obtain ⟨z47, k48, lz47, uz47⟩ := hH25.ld (c := 192) (i := ((121 * b13 + b22 - z42 + 121)).toNat) (A := 0) (B := 1) rfl
          refine jx_bald c1 hm rfl sh_192 rfl ⟨by omega, by omega⟩ k48 ?_
          refine jz_eq c1 hm 146 rfl rfl (fun h49 => ?_) (fun h49 => ?_)
          ·
           refine jy_ic c1 hm rfl (by decide) ?_
           exact J51 0 (by omega)
          refine jy_ic c1 hm rfl (by decide) ?_
          refine jx_goto c1 hm 147 rfl rfl ?_
          exact J51 1 (by omega)
        exact W34 (6 + 1 : Int).toNat z30 (by omega) 0 (by omega) (by omega)
      exact W27 (121 + 1 : Int).toNat 0 (by omega) o15 ho15 o16 ho16 M17 hH17 hF17 k18 (by omega)
    exact W19 (z1 + 1 : Int).toNat (z1 - 1) (by omega) none (Or.inl rfl) none (Or.inl rfl) none (Or.inl rfl) M4 hH4 hF4 k5 (by omega)
   refine jx_load c1 hm rfl rfl rfl rfl ?_
   refine jx_getr c1 hm rfl sh_173 rfl ?_
   refine jy_bp c1 hm rfl (by decide) ?_
   refine jx_load c1 hm rfl rfl rfl rfl ?_
   refine jy_mul c1 hm (121 * z1) rfl (by omega) ?_
   refine jx_load c1 hm rfl rfl rfl rfl ?_
   refine jy_add c1 hm (b3 + 121 * z1) rfl (by omega) ?_
   refine jx_load c1 hm rfl rfl rfl rfl ?_
   have J11 : ∀ (b10 : Int) (hb10 : 0 ≤ b10 ∧ b10 ≤ 1), F 34 [some (.inr (.inr (.inl 173))), some (.inl a0), some (.inl z1), some (.inl b3), none, none, none] [.inl b10, .inl (b3 + 121 * z1), .inr (.inr (.inl 192))] M4 := by
    intro b10 hb10
    obtain ⟨M12, e12, hH12, hF12, k12, n12, q12⟩ := mup hH4 hF4 (c := 192) (i := ((b3 + 121 * z1)).toNat) (v := b10) (A := 0) (B := 1) rfl ⟨by omega, by omega⟩ (jin_of 0 rfl ⟨by omega, by omega⟩)
    refine jm_bast c1 hm rfl sh_192 (Or.inr ⟨rfl, by omega, by omega⟩) ⟨by omega, by omega⟩ e12 ?_
    refine jx_iinc c1 hm (v := (b3 + 1)) (L' := [some (.inr (.inr (.inl 173))), some (.inl a0), some (.inl z1), some (.inl (b3 + 1)), none, none, none]) rfl rfl (by omega) (by omega) rfl ?_
    refine jx_goto c1 hm 9 rfl rfl ?_
    have k55 : M12.1 175 0 = z1 := (n12 175 0 (fun h => absurd h.1 (by decide))).trans k5
    exact ihW6 (b3 + 1) (by omega) M12 hH12 hF12 k55 (by omega)
   refine jz_ne c1 hm 33 rfl rfl (fun h9 => ?_) (fun h9 => ?_)
   ·
    refine jy_ic c1 hm rfl (by decide) ?_
    exact J11 0 (by omega)
   refine jy_ic c1 hm rfl (by decide) ?_
   refine jx_goto c1 hm 34 rfl rfl ?_
   exact J11 1 (by omega)
 exact W6 (121 + 1 : Int).toNat 0 (by omega) M0 hH0 hF0 k2 (by omega)
def md_X12_tax_173 : List (Nat × (Nat × Nat)) := [(173, (0, 0)), (173, (40, 40)), (192, (0, 846)), (193, (0, 5))]
theorem ct_X12_tax_173 (X : Int) (hX : 0 ≤ X ∧ X ≤ 100000000) (M0 : JM) (hH0 : HI X M0) (a0 : Int) (ha0 : (-2147483648) ≤ a0 ∧ a0 ≤ 2147483647) : JOk shp PJ 6 191 [.inr (.inr (.inl 173)), .inl a0] M0 (jRi (fun v M' => HI X M' ∧ Fr md_X12_tax_173 M0 M' ∧ (-1) ≤ v ∧ v ≤ 20 )) := by
 refine ⟨jr_X12_tax, pj_X12_tax, fun F c1 c2 c3 => ?_⟩
 have hm := pj_X12_tax
 change F 0 [some (.inr (.inr (.inl 173))), some (.inl a0), none, none, none, none, none] [] M0
 have hF0 : Fr md_X12_tax_173 M0 M0 := Fr.rf _ _
 refine jx_load c1 hm rfl rfl rfl rfl ?_
 refine jy_ic c1 hm rfl (by decide) ?_
 obtain ⟨M1, e1, hH1, hF1, k1, n1, q1⟩ := mup hH0 hF0 (c := 173) (i := 0) (v := 0) (A := (-2147483648)) (B := 2147483647) (bs_28_0 _ _ (by omega) (by omega)) ⟨by omega, by omega⟩ (jin_of 0 rfl ⟨by omega, by omega⟩)
 refine jm_puti c1 hm rfl sh_173 rfl e1 ?_
 refine jx_load c1 hm rfl rfl rfl rfl ?_
 refine jy_ic c1 hm rfl (by decide) ?_
 refine jy_sp c1 hm rfl (by decide) ?_
 refine jt_i c3 hm rfl rfl pj_X12_isIn rfl rfl rfl ((ct_X12_isIn X (by omega) M1 hH1 a0 ⟨by omega, by omega⟩ 0 ⟨by omega, by omega⟩ 200 ⟨by omega, by omega⟩).le (by decide)) (fun z2 _ ⟨rfl, lz2, uz2, p3⟩ => ?_)
 refine jz_ne c1 hm 18 rfl rfl (fun h4 => ?_) (fun h4 => ?_)
 ·
  refine jy_ic c1 hm rfl (by decide) ?_
  refine jx_stor c1 hm (L' := [some (.inr (.inr (.inl 173))), some (.inl a0), some (.inl (-1)), none, none, none, none]) rfl rfl rfl rfl rfl ?_
  refine jy_bp c1 hm rfl (by decide) ?_
  refine jx_stor c1 hm (L' := [some (.inr (.inr (.inl 173))), some (.inl a0), some (.inl (-1)), some (.inl 121), none, none, none]) rfl rfl rfl rfl rfl ?_
  have W10 : ∀ (n11 : Nat) (b5 : Int) (hb5 : (-1) ≤ b5 ∧ b5 ≤ 20) (b6 : Int) (hb6 : 0 ≤ b6 ∧ b6 ≤ 200) (M7 : JM) (hH7 : HI (X) M7) (hF7 : Fr md_X12_tax_173 M0 M7) (k8 : M7.1 173 0 = 0) (h9 : 0 ≤ b5 ∨ 120 < b6), (-b5 + 20) < (n11 : Int) → F 23 [some (.inr (.inr (.inl 173))), some (.inl a0), some (.inl b5), some (.inl b6), none, none, none] [] M7 := by
   intro n11
   induction n11 with
   | zero => intros; omega
   | succ n11 ihW10 =>
    intro b5 hb5 b6 hb6 M7 hH7 hF7 k8 h9 hrW10
    refine jx_load c1 hm rfl rfl rfl rfl ?_
    refine jy_bp c1 hm rfl (by decide) ?_
    have J22 : F 66 [some (.inr (.inr (.inl 173))), some (.inl a0), some (.inl b5), some (.inl b6), none, none, none] [] M7 := by
     refine jx_load c1 hm rfl rfl rfl rfl ?_
     refine jy_bp c1 hm rfl (by decide) ?_
     refine jc_le c1 hm 74 rfl rfl (fun h23 => ?_) (fun h23 => ?_)
     ·
      refine jx_load c1 hm rfl rfl rfl rfl ?_
      refine jx_stor c1 hm (L' := [some (.inr (.inr (.inl 173))), some (.inl a0), some (.inl b5), some (.inl b6), some (.inl b6), none, none]) rfl rfl rfl rfl rfl ?_
      refine jy_ic c1 hm rfl (by decide) ?_
      refine jx_stor c1 hm (L' := [some (.inr (.inr (.inl 173))), some (.inl a0), some (.inl b5), some (.inl b6), some (.inl b6), some (.inl 0), none]) rfl rfl rfl rfl rfl ?_
      have W27 : ∀ (n28 : Nat) (b24 : Int) (hb24 : 0 ≤ b24 ∧ b24 ≤ 6) (M25 : JM) (hH25 : HI (X) M25) (hF25 : Fr md_X12_tax_173 M0 M25) (k26 : M25.1 173 0 = 0), (-b24 + 6) < (n28 : Int) → F 80 [some (.inr (.inr (.inl 173))), some (.inl a0), some (.inl b5), some (.inl b6), some (.inl b6), some (.inl b24), none] [] M25 := by
       intro n28
       induction n28 with
       | zero => intros; omega
       | succ n28 ihW27 =>
        intro b24 hb24 M25 hH25 hF25 k26 hrW27
        refine jx_load c1 hm rfl rfl rfl rfl ?_
        refine jy_bp c1 hm rfl (by decide) ?_
        refine jc_ge c1 hm 101 rfl rfl (fun h29 => ?_) (fun h29 => ?_)
        ·
         refine jy_ic c1 hm rfl (by decide) ?_
         refine jx_stor c1 hm (L' := [some (.inr (.inr (.inl 173))), some (.inl a0), some (.inl b5), some (.inl b6), some (.inl b6), some (.inl 0), none]) rfl rfl rfl rfl rfl ?_
         have W37 : ∀ (n38 : Nat) (b31 : Int) (hb31 : (-2000000000) ≤ b31 ∧ b31 ≤ 120) (b32 : Int) (hb32 : 0 ≤ b32 ∧ b32 ≤ 6) (o33 : Option JV) (ho33 : o33 = none ∨ (∃ z, o33 = some (.inl z)) ∨ ∃ r, o33 = some (.inr (.inr r))) (M34 : JM) (hH34 : HI (X) M34) (hF34 : Fr md_X12_tax_173 M0 M34) (k35 : M34.1 173 0 = 0) (h36 : -20 * b32 ≤ b31 ∧ b31 ≤ 120), (-b32 + 6) < (n38 : Int) → F 104 [some (.inr (.inr (.inl 173))), some (.inl a0), some (.inl b5), some (.inl b6), some (.inl b31), some (.inl b32), o33] [] M34 := by
          intro n38
          induction n38 with
          | zero => intros; omega
          | succ n38 ihW37 =>
           intro b31 hb31 b32 hb32 o33 ho33 M34 hH34 hF34 k35 h36 hrW37
           refine jx_load c1 hm rfl rfl rfl rfl ?_
           refine jx_load c1 hm rfl rfl rfl rfl ?_
           refine jx_getr c1 hm rfl sh_173 rfl ?_
           refine jy_ic c1 hm rfl (by decide) ?_
           obtain ⟨z39, k40, lz39, uz39⟩ := hH34.ld (c := 175) (i := 0) (A := 0) (B := 6) (bs_11_0 _ _ (by omega) (by omega))
           refine jx_iald c1 hm rfl sh_175 ⟨by omega, by omega⟩ k40 ?_
           refine jc_ge c1 hm 229 rfl rfl (fun h41 => ?_) (fun h41 => ?_)
           ·
            refine jx_load c1 hm rfl rfl rfl rfl ?_
            refine jy_ic c1 hm rfl (by decide) ?_
            obtain ⟨M79, e79, hH79, hF79, k79, n79, q79⟩ := mup hH34 hF34 (c := 173) (i := 40) (v := 1) (A := 0) (B := 1) (bs_28_16 _ _ (by omega) (by omega)) ⟨by omega, by omega⟩ (jin_of 1 rfl ⟨by omega, by omega⟩)
            refine jm_putz c1 hm rfl sh_173 rfl ⟨by omega, by omega⟩ e79 ?_
            refine jx_load c1 hm rfl rfl rfl rfl ?_
            exact jx_reti c2 hm rfl rfl ⟨_, rfl, hH79, hF79, by omega, by omega⟩
           refine jy_ic c1 hm rfl (by decide) ?_
           refine jx_stor c1 hm (L' := [some (.inr (.inr (.inl 173))), some (.inl a0), some (.inl b5), some (.inl b6), some (.inl b31), some (.inl b32), some (.inl 0)]) rfl rfl rfl rfl rfl ?_
           have W46 : ∀ (n47 : Nat) (b42 : Int) (hb42 : 0 ≤ b42 ∧ b42 ≤ 6) (h43 : b42 ≤ M34.1 175 1), (-b42 + 6) < (n47 : Int) → F 118 [some (.inr (.inr (.inl 173))), some (.inl a0), some (.inl b5), some (.inl b6), some (.inl b31), some (.inl b32), some (.inl b42)] [] M34 := by
            intro n47
            induction n47 with
            | zero => intros; omega
            | succ n47 ihW46 =>
             intro b42 hb42 h43 hrW46
             refine jx_load c1 hm rfl rfl rfl rfl ?_
             refine jx_load c1 hm rfl rfl rfl rfl ?_
             refine jx_getr c1 hm rfl sh_173 rfl ?_
             refine jy_ic c1 hm rfl (by decide) ?_
             obtain ⟨z48, k49, lz48, uz48⟩ := hH34.ld (c := 175) (i := 1) (A := 0) (B := 6) (bs_11_0 _ _ (by omega) (by omega))
             refine jx_iald c1 hm rfl sh_175 ⟨by omega, by omega⟩ k49 ?_
             have J63 : ∀ (h62 : b42 ≤ M34.1 175 1), F 187 [some (.inr (.inr (.inl 173))), some (.inl a0), some (.inl b5), some (.inl b6), some (.inl b31), some (.inl b32), some (.inl b42)] [] M34 := by
              intro h62
              refine jx_load c1 hm rfl rfl rfl rfl ?_
              refine jx_load c1 hm rfl rfl rfl rfl ?_
              refine jx_getr c1 hm rfl sh_173 rfl ?_
              refine jy_ic c1 hm rfl (by decide) ?_
              refine jx_iald c1 hm rfl sh_175 ⟨by omega, by omega⟩ k49 ?_
              have J78 : ∀ (b69 : Int) (hb69 : (-140) ≤ b69 ∧ b69 ≤ 120) (M70 : JM) (hH70 : HI (X) M70) (hF70 : Fr md_X12_tax_173 M0 M70) (k72 : M70.1 173 0 = 0) (k74 : M70.1 175 0 = z39) (k76 : M70.1 175 1 = z48) (h77 : -20 * b32 - 20 ≤ b69 ∧ b69 ≤ 120), F 223 [some (.inr (.inr (.inl 173))), some (.inl a0), some (.inl b5), some (.inl b6), some (.inl b69), some (.inl b32), some (.inl b42)] [] M70 := by
               intro b69 hb69 M70 hH70 hF70 k72 k74 k76 h77
               refine jx_iinc c1 hm (v := (b32 + 1)) (L' := [some (.inr (.inr (.inl 173))), some (.inl a0), some (.inl b5), some (.inl b6), some (.inl b69), some (.inl (b32 + 1)), some (.inl b42)]) rfl rfl (by omega) (by omega) rfl ?_
               refine jx_goto c1 hm 104 rfl rfl ?_
               exact ihW37 b69 (by omega) (b32 + 1) (by omega) (some (.inl b42)) (Or.inr (Or.inl ⟨_, rfl⟩)) M70 hH70 hF70 k72 (by omega) (by omega)
              refine jc_ne c1 hm 201 rfl rfl (fun h64 => ?_) (fun h64 => ?_)
              ·
               refine jx_load c1 hm rfl rfl rfl rfl ?_
               refine jx_getr c1 hm rfl sh_173 rfl ?_
               refine jx_load c1 hm rfl rfl rfl rfl ?_
               refine jx_load c1 hm rfl rfl rfl rfl ?_
               obtain ⟨M65, e65, hH65, hF65, k65, n65, q65⟩ := mup hH34 hF34 (c := 193) (i := (b32).toNat) (v := b42) (A := (-2147483648)) (B := 2147483647) rfl ⟨by omega, by omega⟩ (jin_of 3 rfl ⟨by omega, by omega⟩)
               refine jm_iast c1 hm rfl sh_193 ⟨by omega, by omega⟩ e65 ?_
               refine jx_load c1 hm rfl rfl rfl rfl ?_
               refine jx_load c1 hm rfl rfl rfl rfl ?_
               refine jx_load c1 hm rfl rfl rfl rfl ?_
               refine jx_load c1 hm rfl rfl rfl rfl ?_
               have t66 : 0 ≤ b42 ∧ b42 ≤ 5 := by omega
               refine jv_i c3 hm rfl pj_X12_costOf rfl rfl ⟨_, _, _, rfl, sh_173⟩ rfl ((ct_X12_costOf_173 X (by omega) M65 hH65 b32 ⟨by omega, by omega⟩ b42 ⟨by omega, by omega⟩).le (by decide)) (fun z67 _ ⟨rfl, lz67, uz67, p68⟩ => ?_)
               refine jy_sub c1 hm (b31 - z67) rfl (by omega) ?_
               refine jx_stor c1 hm (L' := [some (.inr (.inr (.inl 173))), some (.inl a0), some (.inl b5), some (.inl b6), some (.inl (b31 - z67)), some (.inl b32), some (.inl b42)]) rfl rfl rfl rfl rfl ?_
               have k71 : M65.1 173 0 = 0 := (n65 173 0 (fun h => absurd h.1 (by decide))).trans k35
               have k73 : M65.1 175 0 = z39 := (n65 175 0 (fun h => absurd h.1 (by decide))).trans k40
               have k75 : M65.1 175 1 = z48 := (n65 175 1 (fun h => absurd h.1 (by decide))).trans k49
               exact J78 (b31 - z67) (by omega) M65 hH65 hF65 k71 k73 k75 (by omega)
              refine jx_goto c1 hm 223 rfl rfl ?_
              exact J78 b31 (by omega) M34 hH34 hF34 k35 k40 k49 (by omega)
             refine jc_ge c1 hm 187 rfl rfl (fun h50 => ?_) (fun h50 => ?_)
             ·
              exact J63 (by omega)
             refine jx_load c1 hm rfl rfl rfl rfl ?_
             refine jx_load c1 hm rfl rfl rfl rfl ?_
             refine jx_load c1 hm rfl rfl rfl rfl ?_
             refine jx_load c1 hm rfl rfl rfl rfl ?_
             have t51 : 0 ≤ b5 ∧ b5 ≤ 20 := by omega
             refine jv_i c3 hm rfl pj_X12_mayDo rfl rfl ⟨_, _, _, rfl, sh_173⟩ rfl ((ct_X12_mayDo_173 X (by omega) M34 hH34 b32 ⟨by omega, by omega⟩ b42 ⟨by omega, by omega⟩ b5 ⟨by omega, by omega⟩).le (by decide)) (fun z52 _ ⟨rfl, lz52, uz52⟩ => ?_)
             refine jz_eq c1 hm 181 rfl rfl (fun h53 => ?_) (fun h53 => ?_)
             ·
              refine jx_iinc c1 hm (v := (b42 + 1)) (L' := [some (.inr (.inr (.inl 173))), some (.inl a0), some (.inl b5), some (.inl b6), some (.inl b31), some (.inl b32), some (.inl (b42 + 1))]) rfl rfl (by omega) (by omega) rfl ?_
              refine jx_goto c1 hm 118 rfl rfl ?_
              exact ihW46 (b42 + 1) (by omega) (by omega) (by omega)
             refine jx_load c1 hm rfl rfl rfl rfl ?_
             refine jx_load c1 hm rfl rfl rfl rfl ?_
             refine jx_load c1 hm rfl rfl rfl rfl ?_
             refine jv_i c3 hm rfl pj_X12_costOf rfl rfl ⟨_, _, _, rfl, sh_173⟩ rfl ((ct_X12_costOf_173 X (by omega) M34 hH34 b32 ⟨by omega, by omega⟩ b42 ⟨by omega, by omega⟩).le (by decide)) (fun z54 _ ⟨rfl, lz54, uz54, p55⟩ => ?_)
             refine jx_load c1 hm rfl rfl rfl rfl ?_
             refine jc_gt c1 hm 181 rfl rfl (fun h56 => ?_) (fun h56 => ?_)
             ·
              refine jx_iinc c1 hm (v := (b42 + 1)) (L' := [some (.inr (.inr (.inl 173))), some (.inl a0), some (.inl b5), some (.inl b6), some (.inl b31), some (.inl b32), some (.inl (b42 + 1))]) rfl rfl (by omega) (by omega) rfl ?_
              refine jx_goto c1 hm 118 rfl rfl ?_
              exact ihW46 (b42 + 1) (by omega) (by omega) (by omega)
             refine jx_load c1 hm rfl rfl rfl rfl ?_
             refine jx_getr c1 hm rfl sh_173 rfl ?_
             refine jy_bp c1 hm rfl (by decide) ?_
             refine jx_load c1 hm rfl rfl rfl rfl ?_
             refine jy_ic c1 hm rfl (by decide) ?_
             refine jy_add c1 hm (b32 + 1) rfl (by omega) ?_
             refine jy_mul c1 hm (121 * b32 + 121) rfl (by omega) ?_
             refine jx_load c1 hm rfl rfl rfl rfl ?_
             refine jy_add c1 hm (b31 + 121 * b32 + 121) rfl (by omega) ?_
             refine jx_load c1 hm rfl rfl rfl rfl ?_
             refine jx_load c1 hm rfl rfl rfl rfl ?_
             refine jx_load c1 hm rfl rfl rfl rfl ?_
             refine jv_i c3 hm rfl pj_X12_costOf rfl rfl ⟨_, _, _, rfl, sh_173⟩ rfl ((ct_X12_costOf_173 X (by omega) M34 hH34 b32 ⟨by omega, by omega⟩ b42 ⟨by omega, by omega⟩).le (by decide)) (fun z57 _ ⟨rfl, lz57, uz57, p58⟩ => ?_)
             obtain rfl : z54 = z57 := by omega
             refine jy_sub c1 hm (b31 + 121 * b32 - z54 + 121) rfl (by omega) ?_
             obtain ⟨z59, k60, lz59, uz59⟩ := hH34.ld (c := 192) (i := ((b31 + 121 * b32 - z54 + 121)).toNat) (A := 0) (B := 1) rfl
             refine jx_bald c1 hm rfl sh_192 rfl ⟨by omega, by omega⟩ k60 ?_
             refine jz_ne c1 hm 187 rfl rfl (fun h61 => ?_) (fun h61 => ?_)
             ·
              exact J63 (by omega)
             refine jx_iinc c1 hm (v := (b42 + 1)) (L' := [some (.inr (.inr (.inl 173))), some (.inl a0), some (.inl b5), some (.inl b6), some (.inl b31), some (.inl b32), some (.inl (b42 + 1))]) rfl rfl (by omega) (by omega) rfl ?_
             refine jx_goto c1 hm 118 rfl rfl ?_
             exact ihW46 (b42 + 1) (by omega) (by omega) (by omega)
           obtain ⟨z44, k45, lz44, uz44⟩ := hH34.ld (c := 175) (i := 1) (A := 0) (B := 6) (bs_11_0 _ _ (by omega) (by omega))
           exact W46 (6 + 1 : Int).toNat 0 (by omega) (by omega) (by omega)
         exact W37 (6 + 1 : Int).toNat b6 (by omega) 0 (by omega) none (Or.inl rfl) M25 hH25 hF25 k26 (by omega) (by omega)
        refine jx_load c1 hm rfl rfl rfl rfl ?_
        refine jx_getr c1 hm rfl sh_173 rfl ?_
        refine jx_load c1 hm rfl rfl rfl rfl ?_
        refine jy_ic c1 hm rfl (by decide) ?_
        obtain ⟨M30, e30, hH30, hF30, k30, n30, q30⟩ := mup hH25 hF25 (c := 193) (i := (b24).toNat) (v := (-1)) (A := (-2147483648)) (B := 2147483647) rfl ⟨by omega, by omega⟩ (jin_of 3 rfl ⟨by omega, by omega⟩)
        refine jm_iast c1 hm rfl sh_193 ⟨by omega, by omega⟩ e30 ?_
        refine jx_iinc c1 hm (v := (b24 + 1)) (L' := [some (.inr (.inr (.inl 173))), some (.inl a0), some (.inl b5), some (.inl b6), some (.inl b6), some (.inl (b24 + 1)), none]) rfl rfl (by omega) (by omega) rfl ?_
        refine jx_goto c1 hm 80 rfl rfl ?_
        have k80 : M30.1 173 0 = 0 := (n30 173 0 (fun h => absurd h.1 (by decide))).trans k26
        exact ihW27 (b24 + 1) (by omega) M30 hH30 hF30 k80 (by omega)
      exact W27 (6 + 1 : Int).toNat 0 (by omega) M7 hH7 hF7 k8 (by omega)
     refine jy_ic c1 hm rfl (by decide) ?_
     exact jx_reti c2 hm rfl rfl ⟨_, rfl, hH7, hF7, by omega, by omega⟩
    refine jc_le c1 hm 66 rfl rfl (fun h12 => ?_) (fun h12 => ?_)
    ·
     exact J22 
    refine jx_load c1 hm rfl rfl rfl rfl ?_
    refine jy_bp c1 hm rfl (by decide) ?_
    refine jc_ge c1 hm 66 rfl rfl (fun h13 => ?_) (fun h13 => ?_)
    ·
     exact J22 
    refine jx_iinc c1 hm (v := (b5 + 1)) (L' := [some (.inr (.inr (.inl 173))), some (.inl a0), some (.inl (b5 + 1)), some (.inl b6), none, none, none]) rfl rfl (by omega) (by omega) rfl ?_
    refine jx_load c1 hm rfl rfl rfl rfl ?_
    refine jx_load c1 hm rfl rfl rfl rfl ?_
    refine jv_v c3 hm rfl pj_X12_layReach rfl rfl ⟨_, _, _, rfl, sh_173⟩ rfl ((ct_X12_layReach_173 X (by omega) M7 hH7 (b5 + 1) ⟨by omega, by omega⟩).le (by decide)) (fun M14 ⟨hH14, hR14⟩ => ?_)
    have hF14 := hF7.tr hR14 (by decide +kernel)
    refine jx_load c1 hm rfl rfl rfl rfl ?_
    refine jx_stor c1 hm (L' := [some (.inr (.inr (.inl 173))), some (.inl a0), some (.inl (b5 + 1)), some (.inl a0), none, none, none]) rfl rfl rfl rfl rfl ?_
    have W16 : ∀ (n17 : Nat) (b15 : Int) (hb15 : 0 ≤ b15 ∧ b15 ≤ 200), (-b15 + 200) < (n17 : Int) → F 45 [some (.inr (.inr (.inl 173))), some (.inl a0), some (.inl (b5 + 1)), some (.inl b15), none, none, none] [] M14 := by
     intro n17
     induction n17 with
     | zero => intros; omega
     | succ n17 ihW16 =>
      intro b15 hb15 hrW16
      refine jx_load c1 hm rfl rfl rfl rfl ?_
      refine jy_bp c1 hm rfl (by decide) ?_
      refine jc_gt c1 hm 23 rfl rfl (fun h18 => ?_) (fun h18 => ?_)
      ·
       have k81 : M14.1 173 0 = 0 := (hR14 173 0 (by decide +kernel)).trans k8
       exact ihW10 (b5 + 1) (by omega) b15 (by omega) M14 hH14 hF14 k81 (by omega) (by omega)
      refine jx_load c1 hm rfl rfl rfl rfl ?_
      refine jx_getr c1 hm rfl sh_173 rfl ?_
      refine jx_load c1 hm rfl rfl rfl rfl ?_
      obtain ⟨z19, k20, lz19, uz19⟩ := hH14.ld (c := 192) (i := (b15).toNat) (A := 0) (B := 1) rfl
      refine jx_bald c1 hm rfl sh_192 rfl ⟨by omega, by omega⟩ k20 ?_
      refine jz_ne c1 hm 23 rfl rfl (fun h21 => ?_) (fun h21 => ?_)
      ·
       have k82 : M14.1 173 0 = 0 := (hR14 173 0 (by decide +kernel)).trans k8
       exact ihW10 (b5 + 1) (by omega) b15 (by omega) M14 hH14 hF14 k82 (by omega) (by omega)
      refine jx_iinc c1 hm (v := (b15 + 1)) (L' := [some (.inr (.inr (.inl 173))), some (.inl a0), some (.inl (b5 + 1)), some (.inl (b15 + 1)), none, none, none]) rfl rfl (by omega) (by omega) rfl ?_
      refine jx_goto c1 hm 45 rfl rfl ?_
      exact ihW16 (b15 + 1) (by omega) (by omega)
    exact W16 ((-a0 + 200) + 1 : Int).toNat a0 (by omega) (by omega)
  exact W10 (21 + 1 : Int).toNat (-1) (by omega) 121 (by omega) M1 hH1 hF1 k1 (by omega) (by omega)
 refine jy_ic c1 hm rfl (by decide) ?_
 exact jx_reti c2 hm rfl rfl ⟨_, rfl, hH1, hF1, by omega, by omega⟩
def md_X12_proudest_173 : List (Nat × (Nat × Nat)) := [(173, (0, 0))]
theorem ct_X12_proudest_173 (X : Int) (hX : 0 ≤ X ∧ X ≤ 100000000) (M0 : JM) (hH0 : HI X M0)  : JOk shp PJ 1 150 [.inr (.inr (.inl 173))] M0 (jRi (fun v M' => HI X M' ∧ Fr md_X12_proudest_173 M0 M' ∧ (-1) ≤ v ∧ v ≤ 5 )) := by
 refine ⟨jr_X12_proudest, pj_X12_proudest, fun F c1 c2 c3 => ?_⟩
 have hm := pj_X12_proudest
 change F 0 [some (.inr (.inr (.inl 173))), none, none] [] M0
 have hF0 : Fr md_X12_proudest_173 M0 M0 := Fr.rf _ _
 refine jx_load c1 hm rfl rfl rfl rfl ?_
 refine jy_ic c1 hm rfl (by decide) ?_
 obtain ⟨M1, e1, hH1, hF1, k1, n1, q1⟩ := mup hH0 hF0 (c := 173) (i := 0) (v := 0) (A := (-2147483648)) (B := 2147483647) (bs_28_0 _ _ (by omega) (by omega)) ⟨by omega, by omega⟩ (jin_of 0 rfl ⟨by omega, by omega⟩)
 refine jm_puti c1 hm rfl sh_173 rfl e1 ?_
 refine jy_ic c1 hm rfl (by decide) ?_
 refine jx_stor c1 hm (L' := [some (.inr (.inr (.inl 173))), some (.inl (-1)), none]) rfl rfl rfl rfl rfl ?_
 refine jy_ic c1 hm rfl (by decide) ?_
 refine jx_stor c1 hm (L' := [some (.inr (.inr (.inl 173))), some (.inl (-1)), some (.inl 0)]) rfl rfl rfl rfl rfl ?_
 have W4 : ∀ (n5 : Nat) (b2 : Int) (hb2 : (-1) ≤ b2 ∧ b2 ≤ 5) (b3 : Int) (hb3 : 0 ≤ b3 ∧ b3 ≤ 6), (-b3 + 6) < (n5 : Int) → F 9 [some (.inr (.inr (.inl 173))), some (.inl b2), some (.inl b3)] [] M1 := by
  intro n5
  induction n5 with
  | zero => intros; omega
  | succ n5 ihW4 =>
   intro b2 hb2 b3 hb3 hrW4
   refine jx_load c1 hm rfl rfl rfl rfl ?_
   refine jx_load c1 hm rfl rfl rfl rfl ?_
   refine jx_getr c1 hm rfl sh_173 rfl ?_
   refine jy_ic c1 hm rfl (by decide) ?_
   obtain ⟨z6, k7, lz6, uz6⟩ := hH1.ld (c := 175) (i := 0) (A := 0) (B := 6) (bs_11_0 _ _ (by omega) (by omega))
   refine jx_iald c1 hm rfl sh_175 ⟨by omega, by omega⟩ k7 ?_
   refine jc_ge c1 hm 53 rfl rfl (fun h8 => ?_) (fun h8 => ?_)
   ·
    refine jx_load c1 hm rfl rfl rfl rfl ?_
    exact jx_reti c2 hm rfl rfl ⟨_, rfl, hH1, hF1, by omega, by omega⟩
   refine jx_load c1 hm rfl rfl rfl rfl ?_
   refine jy_ic c1 hm rfl (by decide) ?_
   have J16 : ∀ (b15 : Int) (hb15 : 0 ≤ b15 ∧ b15 ≤ 5), F 47 [some (.inr (.inr (.inl 173))), some (.inl b15), some (.inl b3)] [] M1 := by
    intro b15 hb15
    refine jx_iinc c1 hm (v := (b3 + 1)) (L' := [some (.inr (.inr (.inl 173))), some (.inl b15), some (.inl (b3 + 1))]) rfl rfl (by omega) (by omega) rfl ?_
    refine jx_goto c1 hm 9 rfl rfl ?_
    exact ihW4 b15 (by omega) (b3 + 1) (by omega) (by omega)
   refine jc_eq c1 hm 45 rfl rfl (fun h9 => ?_) (fun h9 => ?_)
   ·
    refine jx_load c1 hm rfl rfl rfl rfl ?_
    refine jx_stor c1 hm (L' := [some (.inr (.inr (.inl 173))), some (.inl b3), some (.inl b3)]) rfl rfl rfl rfl rfl ?_
    exact J16 b3 (by omega)
   refine jx_load c1 hm rfl rfl rfl rfl ?_
   refine jx_getr c1 hm rfl sh_173 rfl ?_
   refine jy_bp c1 hm rfl (by decide) ?_
   refine jx_load c1 hm rfl rfl rfl rfl ?_
   refine jy_add c1 hm (b3 + 102) rfl (by omega) ?_
   obtain ⟨z10, k11, lz10, uz10⟩ := hH1.ld (c := 175) (i := ((b3 + 102)).toNat) (A := (-20) * X) (B := 99) (bs_11_8 _ _ (by omega) (by omega))
   refine jx_iald c1 hm rfl sh_175 ⟨by omega, by omega⟩ k11 ?_
   refine jx_load c1 hm rfl rfl rfl rfl ?_
   refine jx_getr c1 hm rfl sh_173 rfl ?_
   refine jy_bp c1 hm rfl (by decide) ?_
   refine jx_load c1 hm rfl rfl rfl rfl ?_
   refine jy_add c1 hm (b2 + 102) rfl (by omega) ?_
   obtain ⟨z12, k13, lz12, uz12⟩ := hH1.ld (c := 175) (i := ((b2 + 102)).toNat) (A := (-20) * X) (B := 99) (bs_11_8 _ _ (by omega) (by omega))
   refine jx_iald c1 hm rfl sh_175 ⟨by omega, by omega⟩ k13 ?_
   refine jc_le c1 hm 47 rfl rfl (fun h14 => ?_) (fun h14 => ?_)
   ·
    exact J16 b2 (by omega)
   refine jx_load c1 hm rfl rfl rfl rfl ?_
   refine jx_stor c1 hm (L' := [some (.inr (.inr (.inl 173))), some (.inl b3), some (.inl b3)]) rfl rfl rfl rfl rfl ?_
   exact J16 b3 (by omega)
 exact W4 (6 + 1 : Int).toNat (-1) (by omega) 0 (by omega) (by omega)
def md_X12_snap_173 : List (Nat × (Nat × Nat)) := [(173, (23, 23)), (178, (0, 1063))]
theorem ct_X12_snap_173 (X : Int) (hX : 0 ≤ X ∧ X ≤ 100000000) (M0 : JM) (hH0 : HI X M0)  : JOk shp PJ 1 182 [.inr (.inr (.inl 173))] M0 (jRv (fun M' => HI X M' ∧ Fr md_X12_snap_173 M0 M' )) := by
 refine ⟨jr_X12_snap, pj_X12_snap, fun F c1 c2 c3 => ?_⟩
 have hm := pj_X12_snap
 change F 0 [some (.inr (.inr (.inl 173))), none] [] M0
 have hF0 : Fr md_X12_snap_173 M0 M0 := Fr.rf _ _
 refine jx_load c1 hm rfl rfl rfl rfl ?_
 obtain ⟨z1, k2, lz1, uz1⟩ := hH0.ld (c := 173) (i := 23) (A := 0) (B := 8) (bs_28_8 _ _ (by omega) (by omega))
 refine jx_geti c1 hm rfl sh_173 rfl k2 ?_
 refine jy_bp c1 hm rfl (by decide) ?_
 have J19 : ∀ (o15 : Option JV) (ho15 : o15 = none ∨ (∃ z, o15 = some (.inl z)) ∨ ∃ r, o15 = some (.inr (.inr r))) (M16 : JM) (hH16 : HI (X) M16) (hF16 : Fr md_X12_snap_173 M0 M16) (b17 : Int) (hb17 : 0 ≤ b17 ∧ b17 ≤ 7) (k18 : M16.1 173 23 = b17), F 50 [some (.inr (.inr (.inl 173))), o15] [] M16 := by
  intro o15 ho15 M16 hH16 hF16 b17 hb17 k18
  refine jy_ic c1 hm rfl (by decide) ?_
  refine jx_stor c1 hm (L' := [some (.inr (.inr (.inl 173))), some (.inl 0)]) rfl rfl rfl rfl rfl ?_
  have W23 : ∀ (n24 : Nat) (b20 : Int) (hb20 : 0 ≤ b20 ∧ b20 ≤ 133) (M21 : JM) (hH21 : HI (X) M21) (hF21 : Fr md_X12_snap_173 M0 M21) (k22 : M21.1 173 23 = b17), (-b20 + 133) < (n24 : Int) → F 52 [some (.inr (.inr (.inl 173))), some (.inl b20)] [] M21 := by
   intro n24
   induction n24 with
   | zero => intros; omega
   | succ n24 ihW23 =>
    intro b20 hb20 M21 hH21 hF21 k22 hrW23
    refine jx_load c1 hm rfl rfl rfl rfl ?_
    refine jy_sp c1 hm rfl (by decide) ?_
    refine jc_ge c1 hm 89 rfl rfl (fun h25 => ?_) (fun h25 => ?_)
    ·
     refine jx_load c1 hm rfl rfl rfl rfl ?_
     refine jx_dup c1 hm rfl rfl ?_
     refine jx_geti c1 hm rfl sh_173 rfl k22 ?_
     refine jy_ic c1 hm rfl (by decide) ?_
     refine jy_add c1 hm (b17 + 1) rfl (by omega) ?_
     obtain ⟨M29, e29, hH29, hF29, k29, n29, q29⟩ := mup hH21 hF21 (c := 173) (i := 23) (v := (b17 + 1)) (A := 0) (B := 8) (bs_28_8 _ _ (by omega) (by omega)) ⟨by omega, by omega⟩ (jin_of 0 rfl ⟨by omega, by omega⟩)
     refine jm_puti c1 hm rfl sh_173 rfl e29 ?_
     exact jx_retv c2 hm rfl rfl ⟨rfl, hH29, hF29⟩
    refine jx_load c1 hm rfl rfl rfl rfl ?_
    refine jx_getr c1 hm rfl sh_173 rfl ?_
    refine jy_sp c1 hm rfl (by decide) ?_
    refine jx_load c1 hm rfl rfl rfl rfl ?_
    refine jx_geti c1 hm rfl sh_173 rfl k22 ?_
    refine jy_mul c1 hm (133 * b17) rfl (by omega) ?_
    refine jx_load c1 hm rfl rfl rfl rfl ?_
    refine jy_add c1 hm (133 * b17 + b20) rfl (by omega) ?_
    refine jx_load c1 hm rfl rfl rfl rfl ?_
    refine jx_getr c1 hm rfl sh_173 rfl ?_
    refine jy_bp c1 hm rfl (by decide) ?_
    refine jx_load c1 hm rfl rfl rfl rfl ?_
    refine jy_add c1 hm (b20 + 101) rfl (by omega) ?_
    obtain ⟨z26, k27, lz26, uz26⟩ := hH21.any (by omega) (by omega) 175 ((b20 + 101)).toNat
    refine jx_iald c1 hm rfl sh_175 ⟨by omega, by omega⟩ k27 ?_
    obtain ⟨M28, e28, hH28, hF28, k28, n28, q28⟩ := mupc hH21 hF21 hH21 (c := 178) (i := ((133 * b17 + b20)).toNat) (c1 := 175) (i1 := ((b20 + 101)).toNat) (v := z26) k27 (cso (by omega)) (jin_of 1 rfl ⟨by omega, by omega⟩)
    refine jm_iast c1 hm rfl sh_178 ⟨by omega, by omega⟩ e28 ?_
    refine jx_iinc c1 hm (v := (b20 + 1)) (L' := [some (.inr (.inr (.inl 173))), some (.inl (b20 + 1))]) rfl rfl (by omega) (by omega) rfl ?_
    refine jx_goto c1 hm 52 rfl rfl ?_
    have k30 : M28.1 173 23 = b17 := (n28 173 23 (fun h => absurd h.1 (by decide))).trans k22
    exact ihW23 (b20 + 1) (by omega) M28 hH28 hF28 k30 (by omega)
  exact W23 (133 + 1 : Int).toNat 0 (by omega) M16 hH16 hF16 k18 (by omega)
 refine jc_ne c1 hm 50 rfl rfl (fun h3 => ?_) (fun h3 => ?_)
 ·
  exact J19 none (Or.inl rfl) M0 hH0 hF0 z1 (by omega) k2
 refine jy_ic c1 hm rfl (by decide) ?_
 refine jx_stor c1 hm (L' := [some (.inr (.inr (.inl 173))), some (.inl 0)]) rfl rfl rfl rfl rfl ?_
 have W7 : ∀ (n8 : Nat) (b4 : Int) (hb4 : 0 ≤ b4 ∧ b4 ≤ 931) (M5 : JM) (hH5 : HI (X) M5) (hF5 : Fr md_X12_snap_173 M0 M5) (k6 : M5.1 173 23 = z1), (-b4 + 931) < (n8 : Int) → F 11 [some (.inr (.inr (.inl 173))), some (.inl b4)] [] M5 := by
  intro n8
  induction n8 with
  | zero => intros; omega
  | succ n8 ihW7 =>
   intro b4 hb4 M5 hH5 hF5 k6 hrW7
   refine jx_load c1 hm rfl rfl rfl rfl ?_
   refine jy_sp c1 hm rfl (by decide) ?_
   refine jc_ge c1 hm 40 rfl rfl (fun h9 => ?_) (fun h9 => ?_)
   ·
    refine jx_load c1 hm rfl rfl rfl rfl ?_
    refine jx_dup c1 hm rfl rfl ?_
    refine jx_geti c1 hm rfl sh_173 rfl k6 ?_
    refine jy_ic c1 hm rfl (by decide) ?_
    refine jy_sub c1 hm (z1 - 1) rfl (by omega) ?_
    obtain ⟨M13, e13, hH13, hF13, k13, n13, q13⟩ := mup hH5 hF5 (c := 173) (i := 23) (v := (z1 - 1)) (A := 0) (B := 8) (bs_28_8 _ _ (by omega) (by omega)) ⟨by omega, by omega⟩ (jin_of 0 rfl ⟨by omega, by omega⟩)
    refine jm_puti c1 hm rfl sh_173 rfl e13 ?_
    exact J19 (some (.inl b4)) (Or.inr (Or.inl ⟨_, rfl⟩)) M13 hH13 hF13 (z1 - 1) (by omega) k13
   refine jx_load c1 hm rfl rfl rfl rfl ?_
   refine jx_getr c1 hm rfl sh_173 rfl ?_
   refine jx_load c1 hm rfl rfl rfl rfl ?_
   refine jx_load c1 hm rfl rfl rfl rfl ?_
   refine jx_getr c1 hm rfl sh_173 rfl ?_
   refine jx_load c1 hm rfl rfl rfl rfl ?_
   refine jy_sp c1 hm rfl (by decide) ?_
   refine jy_add c1 hm (b4 + 133) rfl (by omega) ?_
   obtain ⟨z10, k11, lz10, uz10⟩ := hH5.any (by omega) (by omega) 178 ((b4 + 133)).toNat
   refine jx_iald c1 hm rfl sh_178 ⟨by omega, by omega⟩ k11 ?_
   obtain ⟨M12, e12, hH12, hF12, k12, n12, q12⟩ := mupc hH5 hF5 hH5 (c := 178) (i := (b4).toNat) (c1 := 178) (i1 := ((b4 + 133)).toNat) (v := z10) k11 (csn (by omega)) (jin_of 1 rfl ⟨by omega, by omega⟩)
   refine jm_iast c1 hm rfl sh_178 ⟨by omega, by omega⟩ e12 ?_
   refine jx_iinc c1 hm (v := (b4 + 1)) (L' := [some (.inr (.inr (.inl 173))), some (.inl (b4 + 1))]) rfl rfl (by omega) (by omega) rfl ?_
   refine jx_goto c1 hm 11 rfl rfl ?_
   have k14 : M12.1 173 23 = z1 := (n12 173 23 (fun h => absurd h.1 (by decide))).trans k6
   exact ihW7 (b4 + 1) (by omega) M12 hH12 hF12 k14 (by omega)
 exact W7 (931 + 1 : Int).toNat 0 (by omega) M0 hH0 hF0 k2 (by omega)
def md_X12_oneWeek_173 : List (Nat × (Nat × Nat)) := [(175, (101, 101)), (175, (102, 107))]
theorem ct_X12_oneWeek_173 (X : Int) (hX : 0 ≤ X ∧ X ≤ 100000000) (M0 : JM) (hH0 : HI X M0)  : JOk shp PJ 2 141 [.inr (.inr (.inl 173))] M0 (jRv (fun M' => HI X M' ∧ Fr md_X12_oneWeek_173 M0 M' )) := by
 refine ⟨jr_X12_oneWeek, pj_X12_oneWeek, fun F c1 c2 c3 => ?_⟩
 have hm := pj_X12_oneWeek
 change F 0 [some (.inr (.inr (.inl 173))), none] [] M0
 have hF0 : Fr md_X12_oneWeek_173 M0 M0 := Fr.rf _ _
 refine jy_ic c1 hm rfl (by decide) ?_
 refine jx_stor c1 hm (L' := [some (.inr (.inr (.inl 173))), some (.inl 0)]) rfl rfl rfl rfl rfl ?_
 have W3 : ∀ (n4 : Nat) (b1 : Int) (hb1 : 0 ≤ b1 ∧ b1 ≤ 6) (M2 : JM) (hH2 : HI (X) M2) (hF2 : Fr md_X12_oneWeek_173 M0 M2), (-b1 + 6) < (n4 : Int) → F 2 [some (.inr (.inr (.inl 173))), some (.inl b1)] [] M2 := by
  intro n4
  induction n4 with
  | zero => intros; omega
  | succ n4 ihW3 =>
   intro b1 hb1 M2 hH2 hF2 hrW3
   refine jx_load c1 hm rfl rfl rfl rfl ?_
   refine jy_bp c1 hm rfl (by decide) ?_
   refine jc_ge c1 hm 50 rfl rfl (fun h5 => ?_) (fun h5 => ?_)
   ·
    refine jx_load c1 hm rfl rfl rfl rfl ?_
    refine jx_getr c1 hm rfl sh_173 rfl ?_
    refine jy_bp c1 hm rfl (by decide) ?_
    refine jx_dup2 c1 hm rfl rfl rfl ?_
    obtain ⟨z16, k17, lz16, uz16⟩ := hH2.ld (c := 175) (i := 101) (A := (-2147483648)) (B := 2147483647) (bs_11_7 _ _ (by omega) (by omega))
    refine jx_iald c1 hm rfl sh_175 ⟨by omega, by omega⟩ k17 ?_
    refine jy_ic c1 hm rfl (by decide) ?_
    refine jx_iopw c1 hm rfl rfl (fun z18 lz18 uz18 => ?_)
    obtain ⟨M19, e19, hH19, hF19, k19, n19, q19⟩ := mup hH2 hF2 (c := 175) (i := 101) (v := z18) (A := (-2147483648)) (B := 2147483647) (bs_11_7 _ _ (by omega) (by omega)) ⟨by omega, by omega⟩ (jin_of 0 rfl ⟨by omega, by omega⟩)
    refine jm_iast c1 hm rfl sh_175 ⟨by omega, by omega⟩ e19 ?_
    exact jx_retv c2 hm rfl rfl ⟨rfl, hH19, hF19⟩
   refine jx_load c1 hm rfl rfl rfl rfl ?_
   refine jx_getr c1 hm rfl sh_173 rfl ?_
   refine jy_bp c1 hm rfl (by decide) ?_
   refine jx_load c1 hm rfl rfl rfl rfl ?_
   refine jy_add c1 hm (b1 + 102) rfl (by omega) ?_
   refine jx_load c1 hm rfl rfl rfl rfl ?_
   refine jx_getr c1 hm rfl sh_173 rfl ?_
   refine jy_ic c1 hm rfl (by decide) ?_
   refine jx_load c1 hm rfl rfl rfl rfl ?_
   refine jy_add c1 hm (b1 + 5) rfl (by omega) ?_
   obtain ⟨z6, k7, lz6, uz6⟩ := hH2.ld (c := 175) (i := ((b1 + 5)).toNat) (A := 0) (B := 99) (bs_11_2 _ _ (by omega) (by omega))
   refine jx_iald c1 hm rfl sh_175 ⟨by omega, by omega⟩ k7 ?_
   refine jx_load c1 hm rfl rfl rfl rfl ?_
   refine jx_getr c1 hm rfl sh_173 rfl ?_
   refine jy_bp c1 hm rfl (by decide) ?_
   refine jx_load c1 hm rfl rfl rfl rfl ?_
   refine jy_add c1 hm (b1 + 102) rfl (by omega) ?_
   obtain ⟨z8, k9, lz8, uz8⟩ := hH2.ld (c := 175) (i := ((b1 + 102)).toNat) (A := (-20) * X) (B := 99) (bs_11_8 _ _ (by omega) (by omega))
   refine jx_iald c1 hm rfl sh_175 ⟨by omega, by omega⟩ k9 ?_
   refine jx_load c1 hm rfl rfl rfl rfl ?_
   refine jx_getr c1 hm rfl sh_173 rfl ?_
   refine jy_ic c1 hm rfl (by decide) ?_
   obtain ⟨z10, k11, lz10, uz10⟩ := hH2.ld (c := 175) (i := 4) (A := 0) (B := 9) (bs_11_1 _ _ (by omega) (by omega))
   refine jx_iald c1 hm rfl sh_175 ⟨by omega, by omega⟩ k11 ?_
   refine jy_add c1 hm (z10 + z8) rfl (by omega) ?_
   refine jt_i c3 hm rfl rfl pj_X12_least rfl rfl rfl ((ct_X12_least X (by omega) M2 hH2 z6 ⟨by omega, by omega⟩ (z10 + z8) ⟨by omega, by omega⟩).le (by decide)) (fun z12 _ ⟨rfl, lz12, uz12, p13, p14⟩ => ?_)
   obtain ⟨M15, e15, hH15, hF15, k15, n15, q15⟩ := mup hH2 hF2 (c := 175) (i := ((b1 + 102)).toNat) (v := z12) (A := (-20) * X) (B := 99) (bs_11_8 _ _ (by omega) (by omega)) ⟨by omega, by omega⟩ (jin_of 1 rfl ⟨by omega, by omega⟩)
   refine jm_iast c1 hm rfl sh_175 ⟨by omega, by omega⟩ e15 ?_
   refine jx_iinc c1 hm (v := (b1 + 1)) (L' := [some (.inr (.inr (.inl 173))), some (.inl (b1 + 1))]) rfl rfl (by omega) (by omega) rfl ?_
   refine jx_goto c1 hm 2 rfl rfl ?_
   exact ihW3 (b1 + 1) (by omega) M15 hH15 hF15 (by omega)
 exact W3 (6 + 1 : Int).toNat 0 (by omega) M0 hH0 hF0 (by omega)
def md_X12_passWeeks_173 : List (Nat × (Nat × Nat)) := [(175, (101, 101)), (175, (102, 107))]
theorem ct_X12_passWeeks_173 (X : Int) (hX : 0 ≤ X ∧ X ≤ 100000000) (M0 : JM) (hH0 : HI X M0) (a0 : Int) (ha0 : (-2147483648) ≤ a0 ∧ a0 ≤ 60) : JOk shp PJ 3 146 [.inr (.inr (.inl 173)), .inl a0] M0 (jRi (fun v M' => HI X M' ∧ Fr md_X12_passWeeks_173 M0 M' ∧ (-2147483648) ≤ v ∧ v ≤ 60 )) := by
 refine ⟨jr_X12_passWeeks, pj_X12_passWeeks, fun F c1 c2 c3 => ?_⟩
 have hm := pj_X12_passWeeks
 change F 0 [some (.inr (.inr (.inl 173))), some (.inl a0), none, none] [] M0
 have hF0 : Fr md_X12_passWeeks_173 M0 M0 := Fr.rf _ _
 refine jx_load c1 hm rfl rfl rfl rfl ?_
 refine jy_sp c1 hm rfl (by decide) ?_
 refine jx_load c1 hm rfl rfl rfl rfl ?_
 refine jx_getr c1 hm rfl sh_173 rfl ?_
 refine jy_bp c1 hm rfl (by decide) ?_
 obtain ⟨z1, k2, lz1, uz1⟩ := hH0.ld (c := 175) (i := 101) (A := (-2147483648)) (B := 2147483647) (bs_11_7 _ _ (by omega) (by omega))
 refine jx_iald c1 hm rfl sh_175 ⟨by omega, by omega⟩ k2 ?_
 refine jx_iopw c1 hm rfl rfl (fun z3 lz3 uz3 => ?_)
 refine jt_i c3 hm rfl rfl pj_X12_least rfl rfl rfl ((ct_X12_least X (by omega) M0 hH0 a0 ⟨by omega, by omega⟩ z3 ⟨by omega, by omega⟩).le (by decide)) (fun z4 _ ⟨rfl, lz4, uz4, p5, p6⟩ => ?_)
 refine jx_stor c1 hm (L' := [some (.inr (.inr (.inl 173))), some (.inl a0), some (.inl z4), none]) rfl rfl rfl rfl rfl ?_
 refine jy_ic c1 hm rfl (by decide) ?_
 refine jx_stor c1 hm (L' := [some (.inr (.inr (.inl 173))), some (.inl a0), some (.inl z4), some (.inl 0)]) rfl rfl rfl rfl rfl ?_
 have W9 : ∀ (n10 : Nat) (b7 : Int) (hb7 : 0 ≤ b7 ∧ b7 ≤ 60) (M8 : JM) (hH8 : HI (X) M8) (hF8 : Fr md_X12_passWeeks_173 M0 M8), (-b7 + 60) < (n10 : Int) → F 18 [some (.inr (.inr (.inl 173))), some (.inl a0), some (.inl z4), some (.inl b7)] [] M8 := by
  intro n10
  induction n10 with
  | zero => intros; omega
  | succ n10 ihW9 =>
   intro b7 hb7 M8 hH8 hF8 hrW9
   refine jx_load c1 hm rfl rfl rfl rfl ?_
   refine jx_load c1 hm rfl rfl rfl rfl ?_
   refine jc_ge c1 hm 33 rfl rfl (fun h11 => ?_) (fun h11 => ?_)
   ·
    refine jx_load c1 hm rfl rfl rfl rfl ?_
    exact jx_reti c2 hm rfl rfl ⟨_, rfl, hH8, hF8, by omega, by omega⟩
   refine jx_load c1 hm rfl rfl rfl rfl ?_
   refine jv_v c3 hm rfl pj_X12_oneWeek rfl rfl ⟨_, _, _, rfl, sh_173⟩ rfl ((ct_X12_oneWeek_173 X (by omega) M8 hH8 ).le (by decide)) (fun M12 ⟨hH12, hR12⟩ => ?_)
   have hF12 := hF8.tr hR12 (by decide +kernel)
   refine jx_iinc c1 hm (v := (b7 + 1)) (L' := [some (.inr (.inr (.inl 173))), some (.inl a0), some (.inl z4), some (.inl (b7 + 1))]) rfl rfl (by omega) (by omega) rfl ?_
   refine jx_goto c1 hm 18 rfl rfl ?_
   exact ihW9 (b7 + 1) (by omega) M12 hH12 hF12 (by omega)
 exact W9 (60 + 1 : Int).toNat 0 (by omega) M0 hH0 hF0 (by omega)
def md_X12_weeks_173 : List (Nat × (Nat × Nat)) := [(173, (0, 0)), (173, (23, 23)), (175, (101, 101)), (175, (102, 107)), (178, (0, 1063))]
theorem ct_X12_weeks_173 (X : Int) (hX : 0 ≤ X ∧ X ≤ 100000000) (M0 : JM) (hH0 : HI X M0) (a0 : Int) (ha0 : (-2147483648) ≤ a0 ∧ a0 ≤ 2147483647) : JOk shp PJ 4 199 [.inr (.inr (.inl 173)), .inl a0] M0 (jRi (fun v M' => HI X M' ∧ Fr md_X12_weeks_173 M0 M' ∧ (-2147483648) ≤ v ∧ v ≤ 60 )) := by
 refine ⟨jr_X12_weeks, pj_X12_weeks, fun F c1 c2 c3 => ?_⟩
 have hm := pj_X12_weeks
 change F 0 [some (.inr (.inr (.inl 173))), some (.inl a0)] [] M0
 have hF0 : Fr md_X12_weeks_173 M0 M0 := Fr.rf _ _
 refine jx_load c1 hm rfl rfl rfl rfl ?_
 refine jy_ic c1 hm rfl (by decide) ?_
 obtain ⟨M1, e1, hH1, hF1, k1, n1, q1⟩ := mup hH0 hF0 (c := 173) (i := 0) (v := 0) (A := (-2147483648)) (B := 2147483647) (bs_28_0 _ _ (by omega) (by omega)) ⟨by omega, by omega⟩ (jin_of 0 rfl ⟨by omega, by omega⟩)
 refine jm_puti c1 hm rfl sh_173 rfl e1 ?_
 refine jx_load c1 hm rfl rfl rfl rfl ?_
 refine jy_ic c1 hm rfl (by decide) ?_
 refine jy_bp c1 hm rfl (by decide) ?_
 refine jt_i c3 hm rfl rfl pj_X12_isIn rfl rfl rfl ((ct_X12_isIn X (by omega) M1 hH1 a0 ⟨by omega, by omega⟩ 1 ⟨by omega, by omega⟩ 60 ⟨by omega, by omega⟩).le (by decide)) (fun z2 _ ⟨rfl, lz2, uz2, p3⟩ => ?_)
 refine jz_ne c1 hm 17 rfl rfl (fun h4 => ?_) (fun h4 => ?_)
 ·
  refine jx_load c1 hm rfl rfl rfl rfl ?_
  refine jx_getr c1 hm rfl sh_173 rfl ?_
  refine jy_bp c1 hm rfl (by decide) ?_
  obtain ⟨z5, k6, lz5, uz5⟩ := hH1.ld (c := 175) (i := 101) (A := (-2147483648)) (B := 2147483647) (bs_11_7 _ _ (by omega) (by omega))
  refine jx_iald c1 hm rfl sh_175 ⟨by omega, by omega⟩ k6 ?_
  refine jy_sp c1 hm rfl (by decide) ?_
  refine jc_ne c1 hm 32 rfl rfl (fun h7 => ?_) (fun h7 => ?_)
  ·
   refine jx_load c1 hm rfl rfl rfl rfl ?_
   refine jv_v c3 hm rfl pj_X12_snap rfl rfl ⟨_, _, _, rfl, sh_173⟩ rfl ((ct_X12_snap_173 X (by omega) M1 hH1 ).le (by decide)) (fun M8 ⟨hH8, hR8⟩ => ?_)
   have hF8 := hF1.tr hR8 (by decide +kernel)
   refine jx_load c1 hm rfl rfl rfl rfl ?_
   refine jx_load c1 hm rfl rfl rfl rfl ?_
   refine jv_i c3 hm rfl pj_X12_passWeeks rfl rfl ⟨_, _, _, rfl, sh_173⟩ rfl ((ct_X12_passWeeks_173 X (by omega) M8 hH8 a0 ⟨by omega, by omega⟩).le (by decide)) (fun z9 M10 ⟨hH10, hR10, lz9, uz9⟩ => ?_)
   have hF10 := hF8.tr hR10 (by decide +kernel)
   exact jx_reti c2 hm rfl rfl ⟨_, rfl, hH10, hF10, by omega, by omega⟩
  refine jy_ic c1 hm rfl (by decide) ?_
  exact jx_reti c2 hm rfl rfl ⟨_, rfl, hH1, hF1, by omega, by omega⟩
 refine jy_ic c1 hm rfl (by decide) ?_
 exact jx_reti c2 hm rfl rfl ⟨_, rfl, hH1, hF1, by omega, by omega⟩
theorem ct_X12_lastsOf_173 (X : Int) (hX : 0 ≤ X ∧ X ≤ 100000000) (M0 : JM) (hH0 : HI X M0) (a0 : Int) (ha0 : 0 ≤ a0 ∧ a0 ≤ 5) (a1 : Int) (ha1 : 0 ≤ a1 ∧ a1 ≤ 5) : JOk shp PJ 3 127 [.inr (.inr (.inl 173)), .inl a0, .inl a1] M0 (jRi (fun v M' => M0 = M' ∧ 0 ≤ v ∧ v ≤ 99 )) := by
 refine ⟨jr_X12_lastsOf, pj_X12_lastsOf, fun F c1 c2 c3 => ?_⟩
 have hm := pj_X12_lastsOf
 change F 0 [some (.inr (.inr (.inl 173))), some (.inl a0), some (.inl a1), none, none] [] M0
 refine jx_load c1 hm rfl rfl rfl rfl ?_
 refine jx_getr c1 hm rfl sh_173 rfl ?_
 refine jy_bp c1 hm rfl (by decide) ?_
 refine jx_load c1 hm rfl rfl rfl rfl ?_
 refine jy_add c1 hm (a0 + 102) rfl (by omega) ?_
 obtain ⟨z1, k2, lz1, uz1⟩ := hH0.ld (c := 175) (i := ((a0 + 102)).toNat) (A := (-20) * X) (B := 99) (bs_11_8 _ _ (by omega) (by omega))
 refine jx_iald c1 hm rfl sh_175 ⟨by omega, by omega⟩ k2 ?_
 refine jx_stor c1 hm (L' := [some (.inr (.inr (.inl 173))), some (.inl a0), some (.inl a1), some (.inl z1), none]) rfl rfl rfl rfl rfl ?_
 refine jy_ic c1 hm rfl (by decide) ?_
 refine jx_stor c1 hm (L' := [some (.inr (.inr (.inl 173))), some (.inl a0), some (.inl a1), some (.inl z1), some (.inl 0)]) rfl rfl rfl rfl rfl ?_
 have W7 : ∀ (n8 : Nat) (b3 : Int) (hb3 : (-2000000000) ≤ b3 ∧ b3 ≤ 99) (b4 : Int) (hb4 : 0 ≤ b4 ∧ b4 ≤ 2000000100) (h5 : b4 + b3 ≤ 99) (h6 : b4 = 0 ∨ 0 ≤ b3), (b3 + 2000000000) < (n8 : Int) → F 13 [some (.inr (.inr (.inl 173))), some (.inl a0), some (.inl a1), some (.inl b3), some (.inl b4)] [] M0 := by
  intro n8
  induction n8 with
  | zero => intros; omega
  | succ n8 ihW7 =>
   intro b3 hb3 b4 hb4 h5 h6 hrW7
   refine jx_load c1 hm rfl rfl rfl rfl ?_
   refine jx_load c1 hm rfl rfl rfl rfl ?_
   refine jx_load c1 hm rfl rfl rfl rfl ?_
   refine jx_load c1 hm rfl rfl rfl rfl ?_
   refine jx_load c1 hm rfl rfl rfl rfl ?_
   refine jx_load c1 hm rfl rfl rfl rfl ?_
   refine jv_i c3 hm rfl pj_X12_timesOf rfl rfl ⟨_, _, _, rfl, sh_173⟩ rfl ((ct_X12_timesOf_173 X (by omega) M0 hH0 a0 ⟨by omega, by omega⟩ a1 ⟨by omega, by omega⟩).le (by decide)) (fun z9 _ ⟨rfl, lz9, uz9, p10⟩ => ?_)
   refine jx_load c1 hm rfl rfl rfl rfl ?_
   refine jy_add c1 hm (b4 + z9) rfl (by omega) ?_
   refine jv_i c3 hm rfl pj_X12_costBy rfl rfl ⟨_, _, _, rfl, sh_173⟩ rfl ((ct_X12_costBy_173 X (by omega) M0 hH0 a0 ⟨by omega, by omega⟩ a1 ⟨by omega, by omega⟩ (b4 + z9) ⟨by omega, by omega⟩).le (by decide)) (fun z11 _ ⟨rfl, lz11, uz11, p12, p13⟩ => ?_)
   refine jz_le c1 hm 74 rfl rfl (fun h14 => ?_) (fun h14 => ?_)
   ·
    refine jx_load c1 hm rfl rfl rfl rfl ?_
    exact jx_reti c2 hm rfl rfl ⟨_, rfl, rfl, by omega, by omega⟩
   refine jx_load c1 hm rfl rfl rfl rfl ?_
   refine jx_load c1 hm rfl rfl rfl rfl ?_
   refine jx_load c1 hm rfl rfl rfl rfl ?_
   refine jx_load c1 hm rfl rfl rfl rfl ?_
   refine jx_load c1 hm rfl rfl rfl rfl ?_
   refine jx_load c1 hm rfl rfl rfl rfl ?_
   refine jv_i c3 hm rfl pj_X12_timesOf rfl rfl ⟨_, _, _, rfl, sh_173⟩ rfl ((ct_X12_timesOf_173 X (by omega) M0 hH0 a0 ⟨by omega, by omega⟩ a1 ⟨by omega, by omega⟩).le (by decide)) (fun z15 _ ⟨rfl, lz15, uz15, p16⟩ => ?_)
   obtain rfl : z9 = z15 := by omega
   refine jx_load c1 hm rfl rfl rfl rfl ?_
   refine jy_add c1 hm (b4 + z9) rfl (by omega) ?_
   refine jv_i c3 hm rfl pj_X12_costBy rfl rfl ⟨_, _, _, rfl, sh_173⟩ rfl ((ct_X12_costBy_173 X (by omega) M0 hH0 a0 ⟨by omega, by omega⟩ a1 ⟨by omega, by omega⟩ (b4 + z9) ⟨by omega, by omega⟩).le (by decide)) (fun z17 _ ⟨rfl, lz17, uz17, p18, p19⟩ => ?_)
   obtain rfl : z11 = z17 := by omega
   refine jx_load c1 hm rfl rfl rfl rfl ?_
   refine jc_gt c1 hm 74 rfl rfl (fun h20 => ?_) (fun h20 => ?_)
   ·
    refine jx_load c1 hm rfl rfl rfl rfl ?_
    exact jx_reti c2 hm rfl rfl ⟨_, rfl, rfl, by omega, by omega⟩
   refine jx_load c1 hm rfl rfl rfl rfl ?_
   refine jx_load c1 hm rfl rfl rfl rfl ?_
   refine jx_load c1 hm rfl rfl rfl rfl ?_
   refine jx_load c1 hm rfl rfl rfl rfl ?_
   refine jx_load c1 hm rfl rfl rfl rfl ?_
   refine jx_load c1 hm rfl rfl rfl rfl ?_
   refine jx_load c1 hm rfl rfl rfl rfl ?_
   refine jv_i c3 hm rfl pj_X12_timesOf rfl rfl ⟨_, _, _, rfl, sh_173⟩ rfl ((ct_X12_timesOf_173 X (by omega) M0 hH0 a0 ⟨by omega, by omega⟩ a1 ⟨by omega, by omega⟩).le (by decide)) (fun z21 _ ⟨rfl, lz21, uz21, p22⟩ => ?_)
   obtain rfl : z9 = z21 := by omega
   refine jx_load c1 hm rfl rfl rfl rfl ?_
   refine jy_add c1 hm (b4 + z9) rfl (by omega) ?_
   refine jv_i c3 hm rfl pj_X12_costBy rfl rfl ⟨_, _, _, rfl, sh_173⟩ rfl ((ct_X12_costBy_173 X (by omega) M0 hH0 a0 ⟨by omega, by omega⟩ a1 ⟨by omega, by omega⟩ (b4 + z9) ⟨by omega, by omega⟩).le (by decide)) (fun z23 _ ⟨rfl, lz23, uz23, p24, p25⟩ => ?_)
   obtain rfl : z11 = z23 := by omega
   refine jy_sub c1 hm (b3 - z11) rfl (by omega) ?_
   refine jx_stor c1 hm (L' := [some (.inr (.inr (.inl 173))), some (.inl a0), some (.inl a1), some (.inl (b3 - z11)), some (.inl b4)]) rfl rfl rfl rfl rfl ?_
   refine jx_iinc c1 hm (v := (b4 + 1)) (L' := [some (.inr (.inr (.inl 173))), some (.inl a0), some (.inl a1), some (.inl (b3 - z11)), some (.inl (b4 + 1))]) rfl rfl (by omega) (by omega) rfl ?_
   refine jx_goto c1 hm 13 rfl rfl ?_
   exact ihW7 (b3 - z11) (by omega) (b4 + 1) (by omega) (by omega) (by omega) (by omega)
 exact W7 ((z1 + 2000000000) + 1 : Int).toNat z1 (by omega) 0 (by omega) (by omega) (by omega) (by omega)
def md_X12_lasts_173 : List (Nat × (Nat × Nat)) := [(173, (0, 0))]
theorem ct_X12_lasts_173 (X : Int) (hX : 0 ≤ X ∧ X ≤ 100000000) (M0 : JM) (hH0 : HI X M0) (a0 : Int) (ha0 : (-2147483648) ≤ a0 ∧ a0 ≤ 2147483647) (a1 : Int) (ha1 : (-2147483648) ≤ a1 ∧ a1 ≤ 2147483647) : JOk shp PJ 4 126 [.inr (.inr (.inl 173)), .inl a0, .inl a1] M0 (jRi (fun v M' => HI X M' ∧ Fr md_X12_lasts_173 M0 M' ∧ (-1) ≤ v ∧ v ≤ 99 )) := by
 refine ⟨jr_X12_lasts, pj_X12_lasts, fun F c1 c2 c3 => ?_⟩
 have hm := pj_X12_lasts
 change F 0 [some (.inr (.inr (.inl 173))), some (.inl a0), some (.inl a1)] [] M0
 have hF0 : Fr md_X12_lasts_173 M0 M0 := Fr.rf _ _
 refine jx_load c1 hm rfl rfl rfl rfl ?_
 refine jy_ic c1 hm rfl (by decide) ?_
 obtain ⟨M1, e1, hH1, hF1, k1, n1, q1⟩ := mup hH0 hF0 (c := 173) (i := 0) (v := 0) (A := (-2147483648)) (B := 2147483647) (bs_28_0 _ _ (by omega) (by omega)) ⟨by omega, by omega⟩ (jin_of 0 rfl ⟨by omega, by omega⟩)
 refine jm_puti c1 hm rfl sh_173 rfl e1 ?_
 refine jx_load c1 hm rfl rfl rfl rfl ?_
 refine jx_load c1 hm rfl rfl rfl rfl ?_
 refine jv_i c3 hm rfl pj_X12_isMan rfl rfl ⟨_, _, _, rfl, sh_173⟩ rfl ((ct_X12_isMan_173 X (by omega) M1 hH1 a0 ⟨by omega, by omega⟩).le (by decide)) (fun z2 _ ⟨rfl, lz2, uz2, p3⟩ => ?_)
 refine jz_eq c1 hm 30 rfl rfl (fun h4 => ?_) (fun h4 => ?_)
 ·
  refine jy_ic c1 hm rfl (by decide) ?_
  exact jx_reti c2 hm rfl rfl ⟨_, rfl, hH1, hF1, by omega, by omega⟩
 refine jx_load c1 hm rfl rfl rfl rfl ?_
 refine jx_load c1 hm rfl rfl rfl rfl ?_
 refine jv_i c3 hm rfl pj_X12_isForfeit rfl rfl ⟨_, _, _, rfl, sh_173⟩ rfl ((ct_X12_isForfeit_173 X (by omega) M1 hH1 a1 ⟨by omega, by omega⟩).le (by decide)) (fun z5 _ ⟨rfl, lz5, uz5, p6⟩ => ?_)
 refine jz_eq c1 hm 30 rfl rfl (fun h7 => ?_) (fun h7 => ?_)
 ·
  refine jy_ic c1 hm rfl (by decide) ?_
  exact jx_reti c2 hm rfl rfl ⟨_, rfl, hH1, hF1, by omega, by omega⟩
 refine jx_load c1 hm rfl rfl rfl rfl ?_
 refine jx_load c1 hm rfl rfl rfl rfl ?_
 refine jx_load c1 hm rfl rfl rfl rfl ?_
 refine jv_i c3 hm rfl pj_X12_lastsOf rfl rfl ⟨_, _, _, rfl, sh_173⟩ rfl ((ct_X12_lastsOf_173 X (by omega) M1 hH1 a0 ⟨by omega, by omega⟩ a1 ⟨by omega, by omega⟩).le (by decide)) (fun z8 _ ⟨rfl, lz8, uz8⟩ => ?_)
 refine jx_goto c1 hm 31 rfl rfl ?_
 exact jx_reti c2 hm rfl rfl ⟨_, rfl, hH1, hF1, by omega, by omega⟩
theorem ct_X12_paysBy_173 (X : Int) (hX : 0 ≤ X ∧ X ≤ 100000000) (M0 : JM) (hH0 : HI X M0) (a0 : Int) (ha0 : 0 ≤ a0 ∧ a0 ≤ 5) (a1 : Int) (ha1 : 0 ≤ a1 ∧ a1 ≤ 5) (a2 : Int) (ha2 : 0 ≤ a2 ∧ a2 ≤ 100) : JOk shp PJ 3 147 [.inr (.inr (.inl 173)), .inl a0, .inl a1, .inl a2] M0 (jRi (fun v M' => M0 = M' ∧ 0 ≤ v ∧ v ≤ 2000 ∧ (v = pbv M0 a0 a1 (a2).toNat))) := by
 refine ⟨jr_X12_paysBy, pj_X12_paysBy, fun F c1 c2 c3 => ?_⟩
 have hm := pj_X12_paysBy
 change F 0 [some (.inr (.inr (.inl 173))), some (.inl a0), some (.inl a1), some (.inl a2), none, none] [] M0
 refine jy_ic c1 hm rfl (by decide) ?_
 refine jx_stor c1 hm (L' := [some (.inr (.inr (.inl 173))), some (.inl a0), some (.inl a1), some (.inl a2), some (.inl 0), none]) rfl rfl rfl rfl rfl ?_
 refine jy_ic c1 hm rfl (by decide) ?_
 refine jx_stor c1 hm (L' := [some (.inr (.inr (.inl 173))), some (.inl a0), some (.inl a1), some (.inl a2), some (.inl 0), some (.inl 0)]) rfl rfl rfl rfl rfl ?_
 have W6 : ∀ (n7 : Nat) (b1 : Int) (hb1 : 0 ≤ b1 ∧ b1 ≤ 2147483647) (b2 : Int) (hb2 : 0 ≤ b2 ∧ b2 ≤ 100) (h3 : 0 ≤ b1 ∧ b1 ≤ 20 * b2) (h4 : b2 ≤ a2) (hpb : b1 = pbv M0 a0 a1 (b2).toNat), (-b2 + 100) < (n7 : Int) → F 6 [some (.inr (.inr (.inl 173))), some (.inl a0), some (.inl a1), some (.inl a2), some (.inl b1), some (.inl b2)] [] M0 := by
  intro n7
  induction n7 with
  | zero => intros; omega
  | succ n7 ihW6 =>
   intro b1 hb1 b2 hb2 h3 h4 hpb hrW6
   refine jx_load c1 hm rfl rfl rfl rfl ?_
   refine jx_load c1 hm rfl rfl rfl rfl ?_
   refine jc_ge c1 hm 38 rfl rfl (fun h8 => ?_) (fun h8 => ?_)
   ·
    refine jx_load c1 hm rfl rfl rfl rfl ?_
    exact jx_reti c2 hm rfl rfl ⟨_, rfl, rfl, by omega, by omega, (by have e : a2 = b2 := (by omega); rw [e]; omega)⟩
   refine jx_load c1 hm rfl rfl rfl rfl ?_
   refine jx_load c1 hm rfl rfl rfl rfl ?_
   refine jx_load c1 hm rfl rfl rfl rfl ?_
   refine jx_load c1 hm rfl rfl rfl rfl ?_
   refine jx_load c1 hm rfl rfl rfl rfl ?_
   refine jx_load c1 hm rfl rfl rfl rfl ?_
   refine jx_load c1 hm rfl rfl rfl rfl ?_
   refine jv_i c3 hm rfl pj_X12_timesOf rfl rfl ⟨_, _, _, rfl, sh_173⟩ rfl ((ct_X12_timesOf_173 X (by omega) M0 hH0 a0 ⟨by omega, by omega⟩ a1 ⟨by omega, by omega⟩).le (by decide)) (fun z9 _ ⟨rfl, lz9, uz9, p10⟩ => ?_)
   refine jx_load c1 hm rfl rfl rfl rfl ?_
   refine jy_add c1 hm (b2 + z9) rfl (by omega) ?_
   refine jv_i c3 hm rfl pj_X12_costBy rfl rfl ⟨_, _, _, rfl, sh_173⟩ rfl ((ct_X12_costBy_173 X (by omega) M0 hH0 a0 ⟨by omega, by omega⟩ a1 ⟨by omega, by omega⟩ (b2 + z9) ⟨by omega, by omega⟩).le (by decide)) (fun z11 _ ⟨rfl, lz11, uz11, p12, p13⟩ => ?_)
   refine jy_add c1 hm (b1 + z11) rfl (by omega) ?_
   refine jx_stor c1 hm (L' := [some (.inr (.inr (.inl 173))), some (.inl a0), some (.inl a1), some (.inl a2), some (.inl (b1 + z11)), some (.inl b2)]) rfl rfl rfl rfl rfl ?_
   refine jx_iinc c1 hm (v := (b2 + 1)) (L' := [some (.inr (.inr (.inl 173))), some (.inl a0), some (.inl a1), some (.inl a2), some (.inl (b1 + z11)), some (.inl (b2 + 1))]) rfl rfl (by omega) (by omega) rfl ?_
   refine jx_goto c1 hm 6 rfl rfl ?_
   exact ihW6 (b1 + z11) (by omega) (b2 + 1) (by omega) (by omega) (by omega) (by rw [pbv_s (by omega), ← p10, Int.add_comm z9 b2]; omega) (by omega)
 exact W6 (100 + 1 : Int).toNat 0 (by omega) 0 (by omega) (by omega) (by omega) rfl (by omega)
def md_X12_worth_173 : List (Nat × (Nat × Nat)) := [(173, (0, 0))]
theorem ct_X12_worth_173 (X : Int) (hX : 0 ≤ X ∧ X ≤ 100000000) (M0 : JM) (hH0 : HI X M0) (a0 : Int) (ha0 : (-2147483648) ≤ a0 ∧ a0 ≤ 2147483647) (a1 : Int) (ha1 : (-2147483648) ≤ a1 ∧ a1 ≤ 2147483647) : JOk shp PJ 4 202 [.inr (.inr (.inl 173)), .inl a0, .inl a1] M0 (jRi (fun v M' => HI X M' ∧ Fr md_X12_worth_173 M0 M' ∧ (-1) ≤ v ∧ v ≤ 2000 )) := by
 refine ⟨jr_X12_worth, pj_X12_worth, fun F c1 c2 c3 => ?_⟩
 have hm := pj_X12_worth
 change F 0 [some (.inr (.inr (.inl 173))), some (.inl a0), some (.inl a1)] [] M0
 have hF0 : Fr md_X12_worth_173 M0 M0 := Fr.rf _ _
 refine jx_load c1 hm rfl rfl rfl rfl ?_
 refine jy_ic c1 hm rfl (by decide) ?_
 obtain ⟨M1, e1, hH1, hF1, k1, n1, q1⟩ := mup hH0 hF0 (c := 173) (i := 0) (v := 0) (A := (-2147483648)) (B := 2147483647) (bs_28_0 _ _ (by omega) (by omega)) ⟨by omega, by omega⟩ (jin_of 0 rfl ⟨by omega, by omega⟩)
 refine jm_puti c1 hm rfl sh_173 rfl e1 ?_
 refine jx_load c1 hm rfl rfl rfl rfl ?_
 refine jx_load c1 hm rfl rfl rfl rfl ?_
 refine jv_i c3 hm rfl pj_X12_isMan rfl rfl ⟨_, _, _, rfl, sh_173⟩ rfl ((ct_X12_isMan_173 X (by omega) M1 hH1 a0 ⟨by omega, by omega⟩).le (by decide)) (fun z2 _ ⟨rfl, lz2, uz2, p3⟩ => ?_)
 refine jz_eq c1 hm 36 rfl rfl (fun h4 => ?_) (fun h4 => ?_)
 ·
  refine jy_ic c1 hm rfl (by decide) ?_
  exact jx_reti c2 hm rfl rfl ⟨_, rfl, hH1, hF1, by omega, by omega⟩
 refine jx_load c1 hm rfl rfl rfl rfl ?_
 refine jx_load c1 hm rfl rfl rfl rfl ?_
 refine jv_i c3 hm rfl pj_X12_isForfeit rfl rfl ⟨_, _, _, rfl, sh_173⟩ rfl ((ct_X12_isForfeit_173 X (by omega) M1 hH1 a1 ⟨by omega, by omega⟩).le (by decide)) (fun z5 _ ⟨rfl, lz5, uz5, p6⟩ => ?_)
 refine jz_eq c1 hm 36 rfl rfl (fun h7 => ?_) (fun h7 => ?_)
 ·
  refine jy_ic c1 hm rfl (by decide) ?_
  exact jx_reti c2 hm rfl rfl ⟨_, rfl, hH1, hF1, by omega, by omega⟩
 refine jx_load c1 hm rfl rfl rfl rfl ?_
 refine jx_load c1 hm rfl rfl rfl rfl ?_
 refine jx_load c1 hm rfl rfl rfl rfl ?_
 refine jx_load c1 hm rfl rfl rfl rfl ?_
 refine jx_load c1 hm rfl rfl rfl rfl ?_
 refine jx_load c1 hm rfl rfl rfl rfl ?_
 refine jv_i c3 hm rfl pj_X12_lastsOf rfl rfl ⟨_, _, _, rfl, sh_173⟩ rfl ((ct_X12_lastsOf_173 X (by omega) M1 hH1 a0 ⟨by omega, by omega⟩ a1 ⟨by omega, by omega⟩).le (by decide)) (fun z8 _ ⟨rfl, lz8, uz8⟩ => ?_)
 refine jv_i c3 hm rfl pj_X12_paysBy rfl rfl ⟨_, _, _, rfl, sh_173⟩ rfl ((ct_X12_paysBy_173 X (by omega) M1 hH1 a0 ⟨by omega, by omega⟩ a1 ⟨by omega, by omega⟩ z8 ⟨by omega, by omega⟩).le (by decide)) (fun z9 _ ⟨rfl, lz9, uz9, p10⟩ => ?_)
 refine jx_goto c1 hm 37 rfl rfl ?_
 exact jx_reti c2 hm rfl rfl ⟨_, rfl, hH1, hF1, by omega, by omega⟩
def md_X12_take_173 : List (Nat × (Nat × Nat)) := [(173, (2, 2))]
theorem ct_X12_take_173 (X : Int) (hX : 0 ≤ X ∧ X ≤ 100000000) (M0 : JM) (hH0 : HI X M0)  : JOk shp PJ 1 188 [.inr (.inr (.inl 173))] M0 (jRi (fun v M' => HI X M' ∧ Fr md_X12_take_173 M0 M' ∧ 0 ≤ v ∧ v ≤ 940 )) := by
 refine ⟨jr_X12_take, pj_X12_take, fun F c1 c2 c3 => ?_⟩
 have hm := pj_X12_take
 change F 0 [some (.inr (.inr (.inl 173))), none] [] M0
 have hF0 : Fr md_X12_take_173 M0 M0 := Fr.rf _ _
 refine jx_load c1 hm rfl rfl rfl rfl ?_
 obtain ⟨z1, k2, lz1, uz1⟩ := hH0.ld (c := 173) (i := 2) (A := 0) (B := 940) (bs_28_1 _ _ (by omega) (by omega))
 refine jx_geti c1 hm rfl sh_173 rfl k2 ?_
 refine jx_stor c1 hm (L' := [some (.inr (.inr (.inl 173))), some (.inl z1)]) rfl rfl rfl rfl rfl ?_
 refine jx_load c1 hm rfl rfl rfl rfl ?_
 refine jy_ic c1 hm rfl (by decide) ?_
 obtain ⟨M3, e3, hH3, hF3, k3, n3, q3⟩ := mup hH0 hF0 (c := 173) (i := 2) (v := 0) (A := 0) (B := 940) (bs_28_1 _ _ (by omega) (by omega)) ⟨by omega, by omega⟩ (jin_of 0 rfl ⟨by omega, by omega⟩)
 refine jm_puti c1 hm rfl sh_173 rfl e3 ?_
 refine jx_load c1 hm rfl rfl rfl rfl ?_
 exact jx_reti c2 hm rfl rfl ⟨_, rfl, hH3, hF3, by omega, by omega⟩
theorem ct_X12_mostAlike_173 (X : Int) (hX : 0 ≤ X ∧ X ≤ 100000000) (M0 : JM) (hH0 : HI X M0) (a0 : Int) (ha0 : 0 ≤ a0 ∧ a0 ≤ 5) (a1 : Int) (ha1 : (-2147483648) ≤ a1 ∧ a1 ≤ 2147483647) : JOk shp PJ 2 137 [.inr (.inr (.inl 173)), .inl a0, .inl a1] M0 (jRi (fun v M' => M0 = M' ∧ 0 ≤ v ∧ v ≤ 6 )) := by
 refine ⟨jr_X12_mostAlike, pj_X12_mostAlike, fun F c1 c2 c3 => ?_⟩
 have hm := pj_X12_mostAlike
 change F 0 [some (.inr (.inr (.inl 173))), some (.inl a0), some (.inl a1), none, none, none, none] [] M0
 refine jy_ic c1 hm rfl (by decide) ?_
 refine jx_stor c1 hm (L' := [some (.inr (.inr (.inl 173))), some (.inl a0), some (.inl a1), some (.inl 0), none, none, none]) rfl rfl rfl rfl rfl ?_
 refine jy_ic c1 hm rfl (by decide) ?_
 refine jx_stor c1 hm (L' := [some (.inr (.inr (.inl 173))), some (.inl a0), some (.inl a1), some (.inl 0), some (.inl 0), none, none]) rfl rfl rfl rfl rfl ?_
 have W5 : ∀ (n6 : Nat) (b1 : Int) (hb1 : 0 ≤ b1 ∧ b1 ≤ 6) (b2 : Int) (hb2 : 0 ≤ b2 ∧ b2 ≤ 6) (o3 : Option JV) (ho3 : o3 = none ∨ (∃ z, o3 = some (.inl z)) ∨ ∃ r, o3 = some (.inr (.inr r))) (o4 : Option JV) (ho4 : o4 = none ∨ (∃ z, o4 = some (.inl z)) ∨ ∃ r, o4 = some (.inr (.inr r))), (-b2 + 6) < (n6 : Int) → F 5 [some (.inr (.inr (.inl 173))), some (.inl a0), some (.inl a1), some (.inl b1), some (.inl b2), o3, o4] [] M0 := by
  intro n6
  induction n6 with
  | zero => intros; omega
  | succ n6 ihW5 =>
   intro b1 hb1 b2 hb2 o3 ho3 o4 ho4 hrW5
   refine jx_load c1 hm rfl rfl rfl rfl ?_
   refine jy_bp c1 hm rfl (by decide) ?_
   refine jc_ge c1 hm 94 rfl rfl (fun h7 => ?_) (fun h7 => ?_)
   ·
    refine jx_load c1 hm rfl rfl rfl rfl ?_
    exact jx_reti c2 hm rfl rfl ⟨_, rfl, rfl, by omega, by omega⟩
   refine jy_ic c1 hm rfl (by decide) ?_
   refine jx_stor c1 hm (L' := [some (.inr (.inr (.inl 173))), some (.inl a0), some (.inl a1), some (.inl b1), some (.inl b2), some (.inl 0), o4]) rfl rfl rfl rfl rfl ?_
   refine jy_ic c1 hm rfl (by decide) ?_
   refine jx_stor c1 hm (L' := [some (.inr (.inr (.inl 173))), some (.inl a0), some (.inl a1), some (.inl b1), some (.inl b2), some (.inl 0), some (.inl 0)]) rfl rfl rfl rfl rfl ?_
   have W11 : ∀ (n12 : Nat) (b8 : Int) (hb8 : 0 ≤ b8 ∧ b8 ≤ 6) (b9 : Int) (hb9 : 0 ≤ b9 ∧ b9 ≤ 6) (h10 : b8 ≤ b9), (-b9 + 6) < (n12 : Int) → F 18 [some (.inr (.inr (.inl 173))), some (.inl a0), some (.inl a1), some (.inl b1), some (.inl b2), some (.inl b8), some (.inl b9)] [] M0 := by
    intro n12
    induction n12 with
    | zero => intros; omega
    | succ n12 ihW11 =>
     intro b8 hb8 b9 hb9 h10 hrW11
     refine jx_load c1 hm rfl rfl rfl rfl ?_
     refine jy_bp c1 hm rfl (by decide) ?_
     refine jc_ge c1 hm 79 rfl rfl (fun h13 => ?_) (fun h13 => ?_)
     ·
      refine jx_load c1 hm rfl rfl rfl rfl ?_
      refine jx_load c1 hm rfl rfl rfl rfl ?_
      have J28 : ∀ (b27 : Int) (hb27 : 0 ≤ b27 ∧ b27 ≤ 6), F 88 [some (.inr (.inr (.inl 173))), some (.inl a0), some (.inl a1), some (.inl b27), some (.inl b2), some (.inl b8), some (.inl b9)] [] M0 := by
       intro b27 hb27
       refine jx_iinc c1 hm (v := (b2 + 1)) (L' := [some (.inr (.inr (.inl 173))), some (.inl a0), some (.inl a1), some (.inl b27), some (.inl (b2 + 1)), some (.inl b8), some (.inl b9)]) rfl rfl (by omega) (by omega) rfl ?_
       refine jx_goto c1 hm 5 rfl rfl ?_
       exact ihW5 b27 (by omega) (b2 + 1) (by omega) (some (.inl b8)) (Or.inr (Or.inl ⟨_, rfl⟩)) (some (.inl b9)) (Or.inr (Or.inl ⟨_, rfl⟩)) (by omega)
      refine jc_le c1 hm 88 rfl rfl (fun h26 => ?_) (fun h26 => ?_)
      ·
       exact J28 b1 (by omega)
      refine jx_load c1 hm rfl rfl rfl rfl ?_
      refine jx_stor c1 hm (L' := [some (.inr (.inr (.inl 173))), some (.inl a0), some (.inl a1), some (.inl b8), some (.inl b2), some (.inl b8), some (.inl b9)]) rfl rfl rfl rfl rfl ?_
      exact J28 b8 (by omega)
     refine jx_load c1 hm rfl rfl rfl rfl ?_
     refine jx_load c1 hm rfl rfl rfl rfl ?_
     refine jt_i c3 hm rfl rfl pj_X12_has rfl rfl rfl ((ct_X12_has X (by omega) M0 hH0 a1 ⟨by omega, by omega⟩ b2 ⟨by omega, by omega⟩).le (by decide)) (fun z14 _ ⟨rfl, lz14, uz14⟩ => ?_)
     have J25 : ∀ (b23 : Int) (hb23 : 0 ≤ b23 ∧ b23 ≤ 7) (h24 : b23 ≤ b9 + 1), F 73 [some (.inr (.inr (.inl 173))), some (.inl a0), some (.inl a1), some (.inl b1), some (.inl b2), some (.inl b23), some (.inl b9)] [] M0 := by
      intro b23 hb23 h24
      refine jx_iinc c1 hm (v := (b9 + 1)) (L' := [some (.inr (.inr (.inl 173))), some (.inl a0), some (.inl a1), some (.inl b1), some (.inl b2), some (.inl b23), some (.inl (b9 + 1))]) rfl rfl (by omega) (by omega) rfl ?_
      refine jx_goto c1 hm 18 rfl rfl ?_
      exact ihW11 b23 (by omega) (b9 + 1) (by omega) (by omega) (by omega)
     refine jz_eq c1 hm 73 rfl rfl (fun h15 => ?_) (fun h15 => ?_)
     ·
      exact J25 b8 (by omega) (by omega)
     refine jx_load c1 hm rfl rfl rfl rfl ?_
     refine jx_load c1 hm rfl rfl rfl rfl ?_
     refine jt_i c3 hm rfl rfl pj_X12_has rfl rfl rfl ((ct_X12_has X (by omega) M0 hH0 a1 ⟨by omega, by omega⟩ b9 ⟨by omega, by omega⟩).le (by decide)) (fun z16 _ ⟨rfl, lz16, uz16⟩ => ?_)
     refine jz_eq c1 hm 73 rfl rfl (fun h17 => ?_) (fun h17 => ?_)
     ·
      exact J25 b8 (by omega) (by omega)
     refine jx_load c1 hm rfl rfl rfl rfl ?_
     refine jx_getr c1 hm rfl sh_173 rfl ?_
     refine jy_bp c1 hm rfl (by decide) ?_
     refine jx_load c1 hm rfl rfl rfl rfl ?_
     refine jy_mul c1 hm (6 * b2) rfl (by omega) ?_
     refine jx_load c1 hm rfl rfl rfl rfl ?_
     refine jy_add c1 hm (a0 + 6 * b2) rfl (by omega) ?_
     obtain ⟨z18, k19, lz18, uz18⟩ := hH0.ld (c := 191) (i := ((a0 + 6 * b2)).toNat) (A := (-2147483648)) (B := 2147483647) rfl
     refine jx_iald c1 hm rfl sh_191 ⟨by omega, by omega⟩ k19 ?_
     refine jx_load c1 hm rfl rfl rfl rfl ?_
     refine jx_getr c1 hm rfl sh_173 rfl ?_
     refine jy_bp c1 hm rfl (by decide) ?_
     refine jx_load c1 hm rfl rfl rfl rfl ?_
     refine jy_mul c1 hm (6 * b9) rfl (by omega) ?_
     refine jx_load c1 hm rfl rfl rfl rfl ?_
     refine jy_add c1 hm (a0 + 6 * b9) rfl (by omega) ?_
     obtain ⟨z20, k21, lz20, uz20⟩ := hH0.ld (c := 191) (i := ((a0 + 6 * b9)).toNat) (A := (-2147483648)) (B := 2147483647) rfl
     refine jx_iald c1 hm rfl sh_191 ⟨by omega, by omega⟩ k21 ?_
     refine jc_ne c1 hm 73 rfl rfl (fun h22 => ?_) (fun h22 => ?_)
     ·
      exact J25 b8 (by omega) (by omega)
     refine jx_iinc c1 hm (v := (b8 + 1)) (L' := [some (.inr (.inr (.inl 173))), some (.inl a0), some (.inl a1), some (.inl b1), some (.inl b2), some (.inl (b8 + 1)), some (.inl b9)]) rfl rfl (by omega) (by omega) rfl ?_
     exact J25 (b8 + 1) (by omega) (by omega)
   exact W11 (6 + 1 : Int).toNat 0 (by omega) 0 (by omega) (by omega) (by omega)
 exact W5 (6 + 1 : Int).toNat 0 (by omega) 0 (by omega) none (Or.inl rfl) none (Or.inl rfl) (by omega)
def md_X12_fits_173 : List (Nat × (Nat × Nat)) := [(173, (0, 0)), (173, (2, 2)), (173, (35, 35)), (190, (0, 5)), (191, (0, 35))]
theorem ct_X12_fits_173 (X : Int) (hX : 0 ≤ X ∧ X ≤ 100000000) (M0 : JM) (hH0 : HI X M0)  : JOk shp PJ 3 105 [.inr (.inr (.inl 173))] M0 (jRi (fun v M' => HI X M' ∧ Fr md_X12_fits_173 M0 M' ∧ (-2147483648) ≤ v ∧ v ≤ 2147483647 )) := by
 refine ⟨jr_X12_fits, pj_X12_fits, fun F c1 c2 c3 => ?_⟩
 have hm := pj_X12_fits
 change F 0 [some (.inr (.inr (.inl 173))), none, none, none, none, none, none] [] M0
 have hF0 : Fr md_X12_fits_173 M0 M0 := Fr.rf _ _
 refine jx_load c1 hm rfl rfl rfl rfl ?_
 refine jy_ic c1 hm rfl (by decide) ?_
 obtain ⟨M1, e1, hH1, hF1, k1, n1, q1⟩ := mup hH0 hF0 (c := 173) (i := 0) (v := 0) (A := (-2147483648)) (B := 2147483647) (bs_28_0 _ _ (by omega) (by omega)) ⟨by omega, by omega⟩ (jin_of 0 rfl ⟨by omega, by omega⟩)
 refine jm_puti c1 hm rfl sh_173 rfl e1 ?_
 refine jx_load c1 hm rfl rfl rfl rfl ?_
 refine jv_i c3 hm rfl pj_X12_take rfl rfl ⟨_, _, _, rfl, sh_173⟩ rfl ((ct_X12_take_173 X (by omega) M1 hH1 ).le (by decide)) (fun z2 M3 ⟨hH3, hR3, lz2, uz2⟩ => ?_)
 have hF3 := hF1.tr hR3 (by decide +kernel)
 refine jx_stor c1 hm (L' := [some (.inr (.inr (.inl 173))), some (.inl z2), none, none, none, none, none]) rfl rfl rfl rfl rfl ?_
 refine jx_load c1 hm rfl rfl rfl rfl ?_
 refine jy_ic c1 hm rfl (by decide) ?_
 refine jy_rem c1 hm rfl ⟨by omega, by omega, by omega, by omega⟩ (fun z4 ez4 lz4 uz4 => ?_)
 refine jz_ne c1 hm 28 rfl rfl (fun h5 => ?_) (fun h5 => ?_)
 ·
  refine jy_ic c1 hm rfl (by decide) ?_
  exact jx_reti c2 hm rfl rfl ⟨_, rfl, hH3, hF3, by omega, by omega⟩
 refine jx_load c1 hm rfl rfl rfl rfl ?_
 refine jy_ic c1 hm rfl (by decide) ?_
 refine jy_div c1 hm rfl ⟨by omega, by omega, by omega, by omega⟩ (fun z6 ez6 lz6 uz6 => ?_)
 refine jy_ic c1 hm rfl (by decide) ?_
 refine jy_bp c1 hm rfl (by decide) ?_
 refine jt_i c3 hm rfl rfl pj_X12_isIn rfl rfl rfl ((ct_X12_isIn X (by omega) M3 hH3 z6 ⟨by omega, by omega⟩ 1 ⟨by omega, by omega⟩ 10 ⟨by omega, by omega⟩).le (by decide)) (fun z7 _ ⟨rfl, lz7, uz7, p8⟩ => ?_)
 refine jz_ne c1 hm 30 rfl rfl (fun h9 => ?_) (fun h9 => ?_)
 ·
  refine jy_ic c1 hm rfl (by decide) ?_
  refine jx_stor c1 hm (L' := [some (.inr (.inr (.inl 173))), some (.inl z2), some (.inl 0), none, none, none, none]) rfl rfl rfl rfl rfl ?_
  have W13 : ∀ (n14 : Nat) (b10 : Int) (hb10 : 0 ≤ b10 ∧ b10 ≤ 941) (hq1 : ∀ j : Nat, (j : Int) < b10 → j % 2 = 0 → M0.1 174 j ≤ 5) (h12 : b10 % 2 = 0), (-b10 + 941) < (n14 : Int) → F 32 [some (.inr (.inr (.inl 173))), some (.inl z2), some (.inl b10), none, none, none, none] [] M3 := by
   intro n14
   induction n14 with
   | zero => intros; omega
   | succ n14 ihW13 =>
    intro b10 hb10 hq1 h12 hrW13
    refine jx_load c1 hm rfl rfl rfl rfl ?_
    refine jx_load c1 hm rfl rfl rfl rfl ?_
    refine jc_ge c1 hm 58 rfl rfl (fun h15 => ?_) (fun h15 => ?_)
    ·
     refine jy_ic c1 hm rfl (by decide) ?_
     refine jx_stor c1 hm (L' := [some (.inr (.inr (.inl 173))), some (.inl z2), some (.inl 0), none, none, none, none]) rfl rfl rfl rfl rfl ?_
     refine jy_ic c1 hm rfl (by decide) ?_
     refine jx_stor c1 hm (L' := [some (.inr (.inr (.inl 173))), some (.inl z2), some (.inl 0), some (.inl 0), none, none, none]) rfl rfl rfl rfl rfl ?_
     have W24 : ∀ (n25 : Nat) (b16 : Int) (hb16 : (-2147483648) ≤ b16 ∧ b16 ≤ 2147483647) (b17 : Int) (hb17 : 0 ≤ b17 ∧ b17 ≤ 6) (o18 : Option JV) (ho18 : o18 = none ∨ (∃ z, o18 = some (.inl z)) ∨ ∃ r, o18 = some (.inr (.inr r))) (o19 : Option JV) (ho19 : o19 = none ∨ (∃ z, o19 = some (.inl z)) ∨ ∃ r, o19 = some (.inr (.inr r))) (o20 : Option JV) (ho20 : o20 = none ∨ (∃ z, o20 = some (.inl z)) ∨ ∃ r, o20 = some (.inr (.inr r))) (M21 : JM) (hH21 : HI (X) M21) (hF21 : Fr md_X12_fits_173 M0 M21) (k23 : M21.1 173 0 = 0), (-b17 + 6) < (n25 : Int) → F 62 [some (.inr (.inr (.inl 173))), some (.inl z2), some (.inl b16), some (.inl b17), o18, o19, o20] [] M21 := by
      intro n25
      induction n25 with
      | zero => intros; omega
      | succ n25 ihW24 =>
       intro b16 hb16 b17 hb17 o18 ho18 o19 ho19 o20 ho20 M21 hH21 hF21 k23 hrW24
       refine jx_load c1 hm rfl rfl rfl rfl ?_
       refine jx_load c1 hm rfl rfl rfl rfl ?_
       refine jx_getr c1 hm rfl sh_173 rfl ?_
       refine jy_ic c1 hm rfl (by decide) ?_
       obtain ⟨z26, k27, lz26, uz26⟩ := hH21.ld (c := 175) (i := 0) (A := 0) (B := 6) (bs_11_0 _ _ (by omega) (by omega))
       refine jx_iald c1 hm rfl sh_175 ⟨by omega, by omega⟩ k27 ?_
       refine jc_ge c1 hm 255 rfl rfl (fun h28 => ?_) (fun h28 => ?_)
       ·
        refine jx_load c1 hm rfl rfl rfl rfl ?_
        refine jz_ne c1 hm 261 rfl rfl (fun h94 => ?_) (fun h94 => ?_)
        ·
         refine jx_ldcw c1 hm (v := 100000) rfl rfl (by decide) ?_
         refine jx_stor c1 hm (L' := [some (.inr (.inr (.inl 173))), some (.inl z2), some (.inl b16), some (.inl 100000), o18, o19, o20]) rfl rfl rfl rfl rfl ?_
         refine jy_ic c1 hm rfl (by decide) ?_
         refine jx_stor c1 hm (L' := [some (.inr (.inr (.inl 173))), some (.inl z2), some (.inl b16), some (.inl 100000), some (.inl 0), o19, o20]) rfl rfl rfl rfl rfl ?_
         have W101 : ∀ (n102 : Nat) (b95 : Int) (hb95 : 0 ≤ b95 ∧ b95 ≤ 100000) (b96 : Int) (hb96 : 0 ≤ b96 ∧ b96 ≤ 6) (o97 : Option JV) (ho97 : o97 = none ∨ (∃ z, o97 = some (.inl z)) ∨ ∃ r, o97 = some (.inr (.inr r))) (M98 : JM) (hH98 : HI (X) M98) (hF98 : Fr md_X12_fits_173 M0 M98) (k99 : M98.1 173 0 = 0) (k100 : M98.1 175 0 = z26), (-b96 + 6) < (n102 : Int) → F 268 [some (.inr (.inr (.inl 173))), some (.inl z2), some (.inl b16), some (.inl b95), some (.inl b96), o97, o20] [] M98 := by
          intro n102
          induction n102 with
          | zero => intros; omega
          | succ n102 ihW101 =>
           intro b95 hb95 b96 hb96 o97 ho97 M98 hH98 hF98 k99 k100 hrW101
           refine jx_load c1 hm rfl rfl rfl rfl ?_
           refine jx_load c1 hm rfl rfl rfl rfl ?_
           refine jx_getr c1 hm rfl sh_173 rfl ?_
           refine jy_ic c1 hm rfl (by decide) ?_
           obtain ⟨z103, k104, lz103, uz103⟩ := hH98.ld (c := 175) (i := 1) (A := 0) (B := 6) (bs_11_0 _ _ (by omega) (by omega))
           refine jx_iald c1 hm rfl sh_175 ⟨by omega, by omega⟩ k104 ?_
           refine jc_ge c1 hm 312 rfl rfl (fun h105 => ?_) (fun h105 => ?_)
           ·
            refine jx_load c1 hm rfl rfl rfl rfl ?_
            exact jx_reti c2 hm rfl rfl ⟨_, rfl, hH98, hF98, by omega, by omega⟩
           refine jx_load c1 hm rfl rfl rfl rfl ?_
           refine jx_load c1 hm rfl rfl rfl rfl ?_
           refine jx_load c1 hm rfl rfl rfl rfl ?_
           refine jv_i c3 hm rfl pj_X12_mostAlike rfl rfl ⟨_, _, _, rfl, sh_173⟩ rfl ((ct_X12_mostAlike_173 X (by omega) M98 hH98 b96 ⟨by omega, by omega⟩ b16 ⟨by omega, by omega⟩).le (by decide)) (fun z106 _ ⟨rfl, lz106, uz106⟩ => ?_)
           refine jx_stor c1 hm (L' := [some (.inr (.inr (.inl 173))), some (.inl z2), some (.inl b16), some (.inl b95), some (.inl b96), some (.inl z106), o20]) rfl rfl rfl rfl rfl ?_
           refine jx_load c1 hm rfl rfl rfl rfl ?_
           refine jx_load c1 hm rfl rfl rfl rfl ?_
           have J117 : ∀ (b109 : Int) (hb109 : 0 ≤ b109 ∧ b109 ≤ 6) (M110 : JM) (hH110 : HI (X) M110) (hF110 : Fr md_X12_fits_173 M0 M110) (k112 : M110.1 173 0 = 0) (k114 : M110.1 175 0 = z26) (k116 : M110.1 175 1 = z103), F 306 [some (.inr (.inr (.inl 173))), some (.inl z2), some (.inl b16), some (.inl b109), some (.inl b96), some (.inl z106), o20] [] M110 := by
            intro b109 hb109 M110 hH110 hF110 k112 k114 k116
            refine jx_iinc c1 hm (v := (b96 + 1)) (L' := [some (.inr (.inr (.inl 173))), some (.inl z2), some (.inl b16), some (.inl b109), some (.inl (b96 + 1)), some (.inl z106), o20]) rfl rfl (by omega) (by omega) rfl ?_
            refine jx_goto c1 hm 268 rfl rfl ?_
            exact ihW101 b109 (by omega) (b96 + 1) (by omega) (some (.inl z106)) (Or.inr (Or.inl ⟨_, rfl⟩)) M110 hH110 hF110 k112 k114 (by omega)
           refine jc_lt c1 hm 297 rfl rfl (fun h107 => ?_) (fun h107 => ?_)
           ·
            refine jx_load c1 hm rfl rfl rfl rfl ?_
            refine jx_stor c1 hm (L' := [some (.inr (.inr (.inl 173))), some (.inl z2), some (.inl b16), some (.inl z106), some (.inl b96), some (.inl z106), o20]) rfl rfl rfl rfl rfl ?_
            refine jx_load c1 hm rfl rfl rfl rfl ?_
            refine jx_load c1 hm rfl rfl rfl rfl ?_
            obtain ⟨M108, e108, hH108, hF108, k108, n108, q108⟩ := mup hH98 hF98 (c := 173) (i := 35) (v := b96) (A := (-2147483648)) (B := 2147483647) (bs_28_15 _ _ (by omega) (by omega)) ⟨by omega, by omega⟩ (jin_of 2 rfl ⟨by omega, by omega⟩)
            refine jm_puti c1 hm rfl sh_173 rfl e108 ?_
            have k111 : M108.1 173 0 = 0 := (n108 173 0 (by decide)).trans k99
            have k113 : M108.1 175 0 = z26 := (n108 175 0 (fun h => absurd h.1 (by decide))).trans k100
            have k115 : M108.1 175 1 = z103 := (n108 175 1 (fun h => absurd h.1 (by decide))).trans k104
            exact J117 z106 (by omega) M108 hH108 hF108 k111 k113 k115
           refine jx_goto c1 hm 306 rfl rfl ?_
           exact J117 b95 (by omega) M98 hH98 hF98 k99 k100 k104
         exact W101 (6 + 1 : Int).toNat 100000 (by omega) 0 (by omega) o19 ho19 M21 hH21 hF21 k23 k27 (by omega)
        refine jy_ic c1 hm rfl (by decide) ?_
        exact jx_reti c2 hm rfl rfl ⟨_, rfl, hH21, hF21, by omega, by omega⟩
       refine jy_ic c1 hm rfl (by decide) ?_
       refine jx_stor c1 hm (L' := [some (.inr (.inr (.inl 173))), some (.inl z2), some (.inl b16), some (.inl b17), some (.inl 0), o19, o20]) rfl rfl rfl rfl rfl ?_
       have W33 : ∀ (n34 : Nat) (b29 : Int) (hb29 : 0 ≤ b29 ∧ b29 ≤ 6) (M30 : JM) (hH30 : HI (X) M30) (hF30 : Fr md_X12_fits_173 M0 M30) (k31 : M30.1 173 0 = 0) (k32 : M30.1 175 0 = z26), (-b29 + 6) < (n34 : Int) → F 75 [some (.inr (.inr (.inl 173))), some (.inl z2), some (.inl b16), some (.inl b17), some (.inl b29), o19, o20] [] M30 := by
        intro n34
        induction n34 with
        | zero => intros; omega
        | succ n34 ihW33 =>
         intro b29 hb29 M30 hH30 hF30 k31 k32 hrW33
         refine jx_load c1 hm rfl rfl rfl rfl ?_
         refine jy_bp c1 hm rfl (by decide) ?_
         refine jc_ge c1 hm 102 rfl rfl (fun h35 => ?_) (fun h35 => ?_)
         ·
          refine jy_ic c1 hm rfl (by decide) ?_
          refine jx_stor c1 hm (L' := [some (.inr (.inr (.inl 173))), some (.inl z2), some (.inl b16), some (.inl b17), some (.inl 1), o19, o20]) rfl rfl rfl rfl rfl ?_
          refine jy_ic c1 hm rfl (by decide) ?_
          refine jx_stor c1 hm (L' := [some (.inr (.inr (.inl 173))), some (.inl z2), some (.inl b16), some (.inl b17), some (.inl 1), some (.inl 0), o20]) rfl rfl rfl rfl rfl ?_
          have W46 : ∀ (n47 : Nat) (b39 : Int) (hb39 : 0 ≤ b39 ∧ b39 ≤ 1) (b40 : Int) (hb40 : 0 ≤ b40 ∧ b40 ≤ 941) (o41 : Option JV) (ho41 : o41 = none ∨ (∃ z, o41 = some (.inl z)) ∨ ∃ r, o41 = some (.inr (.inr r))) (M42 : JM) (hH42 : HI (X) M42) (hF42 : Fr md_X12_fits_173 M0 M42) (k43 : M42.1 173 0 = 0) (k44 : M42.1 175 0 = z26) (h45 : b40 % 2 = 0), (-b40 + 941) < (n47 : Int) → F 108 [some (.inr (.inr (.inl 173))), some (.inl z2), some (.inl b16), some (.inl b17), some (.inl b39), some (.inl b40), o41] [] M42 := by
           intro n47
           induction n47 with
           | zero => intros; omega
           | succ n47 ihW46 =>
            intro b39 hb39 b40 hb40 o41 ho41 M42 hH42 hF42 k43 k44 h45 hrW46
            refine jx_load c1 hm rfl rfl rfl rfl ?_
            refine jx_load c1 hm rfl rfl rfl rfl ?_
            refine jc_ge c1 hm 196 rfl rfl (fun h48 => ?_) (fun h48 => ?_)
            ·
             refine jy_ic c1 hm rfl (by decide) ?_
             refine jx_stor c1 hm (L' := [some (.inr (.inr (.inl 173))), some (.inl z2), some (.inl b16), some (.inl b17), some (.inl b39), some (.inl 0), o41]) rfl rfl rfl rfl rfl ?_
             have W74 : ∀ (n75 : Nat) (b70 : Int) (hb70 : 0 ≤ b70 ∧ b70 ≤ 6) (M71 : JM) (hH71 : HI (X) M71) (hF71 : Fr md_X12_fits_173 M0 M71) (k72 : M71.1 173 0 = 0) (k73 : M71.1 175 0 = z26), (-b70 + 6) < (n75 : Int) → F 199 [some (.inr (.inr (.inl 173))), some (.inl z2), some (.inl b16), some (.inl b17), some (.inl b39), some (.inl b70), o41] [] M71 := by
              intro n75
              induction n75 with
              | zero => intros; omega
              | succ n75 ihW74 =>
               intro b70 hb70 M71 hH71 hF71 k72 k73 hrW74
               refine jx_load c1 hm rfl rfl rfl rfl ?_
               refine jy_bp c1 hm rfl (by decide) ?_
               refine jc_ge c1 hm 238 rfl rfl (fun h76 => ?_) (fun h76 => ?_)
               ·
                refine jx_load c1 hm rfl rfl rfl rfl ?_
                have J87 : ∀ (b86 : Int) (hb86 : (-2147483648) ≤ b86 ∧ b86 ≤ 2147483647), F 249 [some (.inr (.inr (.inl 173))), some (.inl z2), some (.inl b86), some (.inl b17), some (.inl b39), some (.inl b70), o41] [] M71 := by
                 intro b86 hb86
                 refine jx_iinc c1 hm (v := (b17 + 1)) (L' := [some (.inr (.inr (.inl 173))), some (.inl z2), some (.inl b86), some (.inl (b17 + 1)), some (.inl b39), some (.inl b70), o41]) rfl rfl (by omega) (by omega) rfl ?_
                 refine jx_goto c1 hm 62 rfl rfl ?_
                 exact ihW24 b86 (by omega) (b17 + 1) (by omega) (some (.inl b39)) (Or.inr (Or.inl ⟨_, rfl⟩)) (some (.inl b70)) (Or.inr (Or.inl ⟨_, rfl⟩)) o41 ho41 M71 hH71 hF71 k72 (by omega)
                refine jz_eq c1 hm 249 rfl rfl (fun h83 => ?_) (fun h83 => ?_)
                ·
                 exact J87 b16 (by omega)
                refine jx_load c1 hm rfl rfl rfl rfl ?_
                refine jy_ic c1 hm rfl (by decide) ?_
                refine jx_load c1 hm rfl rfl rfl rfl ?_
                refine jy_sh1 c1 hm rfl ⟨by omega, by omega⟩ (fun z84 lz84 uz84 => ?_)
                refine jx_iopw c1 hm rfl rfl (fun z85 lz85 uz85 => ?_)
                refine jx_stor c1 hm (L' := [some (.inr (.inr (.inl 173))), some (.inl z2), some (.inl z85), some (.inl b17), some (.inl b39), some (.inl b70), o41]) rfl rfl rfl rfl rfl ?_
                exact J87 z85 (by omega)
               refine jx_load c1 hm rfl rfl rfl rfl ?_
               refine jx_getr c1 hm rfl sh_173 rfl ?_
               refine jy_bp c1 hm rfl (by decide) ?_
               refine jx_load c1 hm rfl rfl rfl rfl ?_
               refine jy_mul c1 hm (6 * b17) rfl (by omega) ?_
               refine jx_load c1 hm rfl rfl rfl rfl ?_
               refine jy_add c1 hm (6 * b17 + b70) rfl (by omega) ?_
               refine jx_load c1 hm rfl rfl rfl rfl ?_
               refine jx_load c1 hm rfl rfl rfl rfl ?_
               refine jx_load c1 hm rfl rfl rfl rfl ?_
               refine jx_load c1 hm rfl rfl rfl rfl ?_
               refine jx_getr c1 hm rfl sh_173 rfl ?_
               refine jx_load c1 hm rfl rfl rfl rfl ?_
               obtain ⟨z77, k78, lz77, uz77⟩ := hH71.ld (c := 190) (i := (b70).toNat) (A := (-2147483648)) (B := 2147483647) rfl
               refine jx_iald c1 hm rfl sh_190 ⟨by omega, by omega⟩ k78 ?_
               refine jv_i c3 hm rfl pj_X12_costBy rfl rfl ⟨_, _, _, rfl, sh_173⟩ rfl ((ct_X12_costBy_173 X (by omega) M71 hH71 b17 ⟨by omega, by omega⟩ b70 ⟨by omega, by omega⟩ z77 ⟨by omega, by omega⟩).le (by decide)) (fun z79 _ ⟨rfl, lz79, uz79, p80, p81⟩ => ?_)
               obtain ⟨M82, e82, hH82, hF82, k82, n82, q82⟩ := mup hH71 hF71 (c := 191) (i := ((6 * b17 + b70)).toNat) (v := z79) (A := (-2147483648)) (B := 2147483647) rfl ⟨by omega, by omega⟩ (jin_of 4 rfl ⟨by omega, by omega⟩)
               refine jm_iast c1 hm rfl sh_191 ⟨by omega, by omega⟩ e82 ?_
               refine jx_iinc c1 hm (v := (b70 + 1)) (L' := [some (.inr (.inr (.inl 173))), some (.inl z2), some (.inl b16), some (.inl b17), some (.inl b39), some (.inl (b70 + 1)), o41]) rfl rfl (by omega) (by omega) rfl ?_
               refine jx_goto c1 hm 199 rfl rfl ?_
               have k88 : M82.1 173 0 = 0 := (n82 173 0 (fun h => absurd h.1 (by decide))).trans k72
               have k89 : M82.1 175 0 = z26 := (n82 175 0 (fun h => absurd h.1 (by decide))).trans k73
               exact ihW74 (b70 + 1) (by omega) M82 hH82 hF82 k88 k89 (by omega)
             exact W74 (6 + 1 : Int).toNat 0 (by omega) M42 hH42 hF42 k43 k44 (by omega)
            refine jx_load c1 hm rfl rfl rfl rfl ?_
            refine jx_getr c1 hm rfl sh_173 rfl ?_
            refine jx_load c1 hm rfl rfl rfl rfl ?_
            obtain ⟨z49, k50, lz49, uz49⟩ := hH42.ld (c := 174) (i := (b40).toNat) (A := 0) (B := 255) rfl
            refine jx_iald c1 hm rfl sh_174 ⟨by omega, by omega⟩ k50 ?_
            have hzz49 : z49 ≤ 5 := by (have h1 := hq1 (b40).toNat (by omega) (by omega); have h2 := hF42 174 (b40).toNat rfl; omega)
            refine jx_stor c1 hm (L' := [some (.inr (.inr (.inl 173))), some (.inl z2), some (.inl b16), some (.inl b17), some (.inl b39), some (.inl b40), some (.inl z49)]) rfl rfl rfl rfl rfl ?_
            refine jx_load c1 hm rfl rfl rfl rfl ?_
            have J65 : ∀ (b64 : Int) (hb64 : 0 ≤ b64 ∧ b64 ≤ 1), F 177 [some (.inr (.inr (.inl 173))), some (.inl z2), some (.inl b16), some (.inl b17), some (.inl b39), some (.inl b40), some (.inl z49)] [.inl b64] M42 := by
             intro b64 hb64
             refine jx_stor c1 hm (L' := [some (.inr (.inr (.inl 173))), some (.inl z2), some (.inl b16), some (.inl b17), some (.inl b64), some (.inl b40), some (.inl z49)]) rfl rfl rfl rfl rfl ?_
             refine jx_load c1 hm rfl rfl rfl rfl ?_
             refine jx_getr c1 hm rfl sh_173 rfl ?_
             refine jx_load c1 hm rfl rfl rfl rfl ?_
             refine jx_dup2 c1 hm rfl rfl rfl ?_
             obtain ⟨z66, k67, lz66, uz66⟩ := hH42.ld (c := 190) (i := (z49).toNat) (A := (-2147483648)) (B := 2147483647) rfl
             refine jx_iald c1 hm rfl sh_190 ⟨by omega, by omega⟩ k67 ?_
             refine jy_ic c1 hm rfl (by decide) ?_
             refine jx_iopw c1 hm rfl rfl (fun z68 lz68 uz68 => ?_)
             obtain ⟨M69, e69, hH69, hF69, k69, n69, q69⟩ := mup hH42 hF42 (c := 190) (i := (z49).toNat) (v := z68) (A := (-2147483648)) (B := 2147483647) rfl ⟨by omega, by omega⟩ (jin_of 3 rfl ⟨by omega, by omega⟩)
             refine jm_iast c1 hm rfl sh_190 ⟨by omega, by omega⟩ e69 ?_
             refine jx_iinc c1 hm (v := (b40 + 2)) (L' := [some (.inr (.inr (.inl 173))), some (.inl z2), some (.inl b16), some (.inl b17), some (.inl b64), some (.inl (b40 + 2)), some (.inl z49)]) rfl rfl (by omega) (by omega) rfl ?_
             refine jx_goto c1 hm 108 rfl rfl ?_
             have k90 : M69.1 173 0 = 0 := (n69 173 0 (fun h => absurd h.1 (by decide))).trans k43
             have k91 : M69.1 175 0 = z26 := (n69 175 0 (fun h => absurd h.1 (by decide))).trans k44
             exact ihW46 b64 (by omega) (b40 + 2) (by omega) (some (.inl z49)) (Or.inr (Or.inl ⟨_, rfl⟩)) M69 hH69 hF69 k90 k91 (by omega) (by omega)
            refine jz_eq c1 hm 176 rfl rfl (fun h51 => ?_) (fun h51 => ?_)
            ·
             refine jy_ic c1 hm rfl (by decide) ?_
             exact J65 0 (by omega)
            refine jx_load c1 hm rfl rfl rfl rfl ?_
            refine jx_getr c1 hm rfl sh_173 rfl ?_
            refine jy_bp c1 hm rfl (by decide) ?_
            refine jy_bp c1 hm rfl (by decide) ?_
            refine jx_load c1 hm rfl rfl rfl rfl ?_
            refine jy_mul c1 hm (6 * b17) rfl (by omega) ?_
            refine jy_add c1 hm (6 * b17 + 17) rfl (by omega) ?_
            refine jx_load c1 hm rfl rfl rfl rfl ?_
            refine jy_add c1 hm (6 * b17 + z49 + 17) rfl (by omega) ?_
            obtain ⟨z52, k53, lz52, uz52⟩ := hH42.ld (c := 175) (i := ((6 * b17 + z49 + 17)).toNat) (A := (-1)) (B := 20) (bs_11_4 _ _ (by omega) (by omega))
            refine jx_iald c1 hm rfl sh_175 ⟨by omega, by omega⟩ k53 ?_
            refine jz_le c1 hm 176 rfl rfl (fun h54 => ?_) (fun h54 => ?_)
            ·
             refine jy_ic c1 hm rfl (by decide) ?_
             exact J65 0 (by omega)
            refine jx_load c1 hm rfl rfl rfl rfl ?_
            refine jx_load c1 hm rfl rfl rfl rfl ?_
            refine jx_load c1 hm rfl rfl rfl rfl ?_
            refine jx_load c1 hm rfl rfl rfl rfl ?_
            refine jx_getr c1 hm rfl sh_173 rfl ?_
            refine jx_load c1 hm rfl rfl rfl rfl ?_
            obtain ⟨z55, k56, lz55, uz55⟩ := hH42.ld (c := 190) (i := (z49).toNat) (A := (-2147483648)) (B := 2147483647) rfl
            refine jx_iald c1 hm rfl sh_190 ⟨by omega, by omega⟩ k56 ?_
            refine jv_i c3 hm rfl pj_X12_costBy rfl rfl ⟨_, _, _, rfl, sh_173⟩ rfl ((ct_X12_costBy_173 X (by omega) M42 hH42 b17 ⟨by omega, by omega⟩ z49 ⟨by omega, by omega⟩ z55 ⟨by omega, by omega⟩).le (by decide)) (fun z57 _ ⟨rfl, lz57, uz57, p58, p59⟩ => ?_)
            refine jx_load c1 hm rfl rfl rfl rfl ?_
            refine jx_getr c1 hm rfl sh_173 rfl ?_
            refine jx_load c1 hm rfl rfl rfl rfl ?_
            refine jy_ic c1 hm rfl (by decide) ?_
            refine jy_add c1 hm (b40 + 1) rfl (by omega) ?_
            have t60 : 0 ≤ (b40 + 1) ∧ (b40 + 1) ≤ 939 := by omega
            obtain ⟨z61, k62, lz61, uz61⟩ := hH42.ld (c := 174) (i := ((b40 + 1)).toNat) (A := 0) (B := 255) rfl
            refine jx_iald c1 hm rfl sh_174 ⟨by omega, by omega⟩ k62 ?_
            refine jc_ne c1 hm 176 rfl rfl (fun h63 => ?_) (fun h63 => ?_)
            ·
             refine jy_ic c1 hm rfl (by decide) ?_
             exact J65 0 (by omega)
            refine jy_ic c1 hm rfl (by decide) ?_
            refine jx_goto c1 hm 177 rfl rfl ?_
            exact J65 1 (by omega)
          exact W46 (941 + 1 : Int).toNat 1 (by omega) 0 (by omega) o20 ho20 M30 hH30 hF30 k31 k32 (by omega) (by omega)
         refine jx_load c1 hm rfl rfl rfl rfl ?_
         refine jx_getr c1 hm rfl sh_173 rfl ?_
         refine jx_load c1 hm rfl rfl rfl rfl ?_
         refine jx_load c1 hm rfl rfl rfl rfl ?_
         refine jx_load c1 hm rfl rfl rfl rfl ?_
         refine jx_load c1 hm rfl rfl rfl rfl ?_
         refine jv_i c3 hm rfl pj_X12_timesOf rfl rfl ⟨_, _, _, rfl, sh_173⟩ rfl ((ct_X12_timesOf_173 X (by omega) M30 hH30 b17 ⟨by omega, by omega⟩ b29 ⟨by omega, by omega⟩).le (by decide)) (fun z36 _ ⟨rfl, lz36, uz36, p37⟩ => ?_)
         obtain ⟨M38, e38, hH38, hF38, k38, n38, q38⟩ := mup hH30 hF30 (c := 190) (i := (b29).toNat) (v := z36) (A := (-2147483648)) (B := 2147483647) rfl ⟨by omega, by omega⟩ (jin_of 3 rfl ⟨by omega, by omega⟩)
         refine jm_iast c1 hm rfl sh_190 ⟨by omega, by omega⟩ e38 ?_
         refine jx_iinc c1 hm (v := (b29 + 1)) (L' := [some (.inr (.inr (.inl 173))), some (.inl z2), some (.inl b16), some (.inl b17), some (.inl (b29 + 1)), o19, o20]) rfl rfl (by omega) (by omega) rfl ?_
         refine jx_goto c1 hm 75 rfl rfl ?_
         have k92 : M38.1 173 0 = 0 := (n38 173 0 (fun h => absurd h.1 (by decide))).trans k31
         have k93 : M38.1 175 0 = z26 := (n38 175 0 (fun h => absurd h.1 (by decide))).trans k32
         exact ihW33 (b29 + 1) (by omega) M38 hH38 hF38 k92 k93 (by omega)
       exact W33 (6 + 1 : Int).toNat 0 (by omega) M21 hH21 hF21 k23 k27 (by omega)
     have k22 : M3.1 173 0 = 0 := (hR3 173 0 (by decide +kernel)).trans k1
     exact W24 (6 + 1 : Int).toNat 0 (by omega) 0 (by omega) none (Or.inl rfl) none (Or.inl rfl) none (Or.inl rfl) M3 hH3 hF3 k22 (by omega)
    refine jx_load c1 hm rfl rfl rfl rfl ?_
    refine jx_load c1 hm rfl rfl rfl rfl ?_
    refine jx_getr c1 hm rfl sh_173 rfl ?_
    refine jx_load c1 hm rfl rfl rfl rfl ?_
    obtain ⟨z118, k119, lz118, uz118⟩ := hH3.ld (c := 174) (i := (b10).toNat) (A := 0) (B := 255) rfl
    refine jx_iald c1 hm rfl sh_174 ⟨by omega, by omega⟩ k119 ?_
    refine jv_i c3 hm rfl pj_X12_isForfeit rfl rfl ⟨_, _, _, rfl, sh_173⟩ rfl ((ct_X12_isForfeit_173 X (by omega) M3 hH3 z118 ⟨by omega, by omega⟩).le (by decide)) (fun z120 _ ⟨rfl, lz120, uz120, p121⟩ => ?_)
    refine jz_ne c1 hm 52 rfl rfl (fun h122 => ?_) (fun h122 => ?_)
    ·
     refine jx_iinc c1 hm (v := (b10 + 2)) (L' := [some (.inr (.inr (.inl 173))), some (.inl z2), some (.inl (b10 + 2)), none, none, none, none]) rfl rfl (by omega) (by omega) rfl ?_
     refine jx_goto c1 hm 32 rfl rfl ?_
     exact ihW13 (b10 + 2) (by omega) (fun j hj hp => if c : (j : Int) < b10 then hq1 j c hp else (by have e : j = (b10).toNat := (by omega); subst e; have := hF3 174 (b10).toNat rfl; omega)) (by omega) (by omega)
    refine jy_ic c1 hm rfl (by decide) ?_
    exact jx_reti c2 hm rfl rfl ⟨_, rfl, hH3, hF3, by omega, by omega⟩
  exact W13 (941 + 1 : Int).toNat 0 (by omega) (fun j hj _ => by omega) (by omega) (by omega)
 refine jy_ic c1 hm rfl (by decide) ?_
 exact jx_reti c2 hm rfl rfl ⟨_, rfl, hH3, hF3, by omega, by omega⟩
