/-! Contracts that tell kinds of faults (by wip/q/wlk.py). -/
def md_X1_add_133y : List (Nat × (Nat × Nat)) := [(134, (0, 156)), (134, (1, 157)), (134, (2, 158)), (134, (3, 159))]
theorem ct_X1_add_133y (X : Int) (hX : 0 ≤ X ∧ X ≤ 100000000) (M0 : JM) (hH0 : HI X M0) (a0 : Int) (ha0 : 0 ≤ a0 ∧ a0 ≤ 5) (a1 : Int) (ha1 : 0 ≤ a1 ∧ a1 ≤ 5) (a2 : Int) (ha2 : 0 ≤ a2 ∧ a2 ≤ 5) (a3 : Int) (ha3 : 0 ≤ a3 ∧ a3 ≤ 99) : JOk shp PJ 1 207 [.inr (.inr (.inl 133)), .inl a0, .inl a1, .inl a2, .inl a3] M0 (jRi (fun v M' => HI X M' ∧ Fr md_X1_add_133y M0 M' ∧ 0 ≤ v ∧ v ≤ 1 ∧ (v = 1) ∧ (LFr ml_0 M0 M') ∧ (M'.1 133 1 = M0.1 133 1))) := by
 refine ⟨jr_X1_add, pj_X1_add, fun F c1 c2 c3 => ?_⟩
 have hm := pj_X1_add
 change F 0 [some (.inr (.inr (.inl 133))), some (.inl a0), some (.inl a1), some (.inl a2), some (.inl a3), none] [] M0
 have hF0 : Fr md_X1_add_133y M0 M0 := Fr.rf _ _
 obtain ⟨z1, k2, lz1, uz1⟩ := hH0.ld (c := 133) (i := 1) (A := 0) (B := 40) (bs_27_1 _ _ (by omega) (by omega))
 refine jx_load c1 hm rfl rfl rfl rfl ?_
 refine jx_geti c1 hm rfl sh_133 rfl k2 ?_
 refine jy_ic c1 hm rfl (by decide) ?_
 refine jy_mul c1 hm (4 * z1) rfl (by omega) ?_
 refine jx_stor c1 hm (L' := [some (.inr (.inr (.inl 133))), some (.inl a0), some (.inl a1), some (.inl a2), some (.inl a3), some (.inl (4 * z1))]) rfl rfl rfl rfl rfl ?_
 refine jx_load c1 hm rfl rfl rfl rfl ?_
 refine jy_ic c1 hm rfl (by decide) ?_
 refine jy_add c1 hm (4 * z1 + 4) rfl (by omega) ?_
 refine jx_load c1 hm rfl rfl rfl rfl ?_
 refine jx_getr c1 hm rfl sh_133 rfl ?_
 refine jx_alen c1 hm (v := 160) rfl sh_134 rfl rfl ?_
 refine jc_gt c1 hm 59 rfl rfl (fun h3 => ?_) (fun h3 => ?_)
 ·
  refine jy_ic c1 hm rfl (by decide) ?_
  exact jx_retz c2 hm rfl rfl ⟨by omega, by omega⟩ ⟨_, rfl, hH0, hF0, by omega, by omega, (by omega), (LFr.rf _ _), (by omega)⟩
 refine jx_load c1 hm rfl rfl rfl rfl ?_
 refine jx_getr c1 hm rfl sh_133 rfl ?_
 refine jx_load c1 hm rfl rfl rfl rfl ?_
 refine jx_load c1 hm rfl rfl rfl rfl ?_
 obtain ⟨M4, e4, hH4, hF4, k4, n4, q4⟩ := mup hH0 hF0 (c := 134) (i := ((4 * z1)).toNat) (v := a0) (A := 0) (B := 5) (bs_10_0 _ _ (by omega) (by omega)) ⟨by omega, by omega⟩ (jin_of 0 rfl ⟨by omega, by omega⟩)
 refine jm_iast c1 hm rfl sh_134 ⟨by omega, by omega⟩ e4 ?_
 refine jx_load c1 hm rfl rfl rfl rfl ?_
 refine jx_getr c1 hm rfl sh_133 rfl ?_
 refine jx_load c1 hm rfl rfl rfl rfl ?_
 refine jy_ic c1 hm rfl (by decide) ?_
 refine jy_add c1 hm (4 * z1 + 1) rfl (by omega) ?_
 refine jx_load c1 hm rfl rfl rfl rfl ?_
 obtain ⟨M5, e5, hH5, hF5, k5, n5, q5⟩ := mup hH4 hF4 (c := 134) (i := ((4 * z1 + 1)).toNat) (v := a1) (A := 0) (B := 5) (bs_10_0 _ _ (by omega) (by omega)) ⟨by omega, by omega⟩ (jin_of 1 rfl ⟨by omega, by omega⟩)
 refine jm_iast c1 hm rfl sh_134 ⟨by omega, by omega⟩ e5 ?_
 refine jx_load c1 hm rfl rfl rfl rfl ?_
 refine jx_getr c1 hm rfl sh_133 rfl ?_
 refine jx_load c1 hm rfl rfl rfl rfl ?_
 refine jy_ic c1 hm rfl (by decide) ?_
 refine jy_add c1 hm (4 * z1 + 2) rfl (by omega) ?_
 refine jx_load c1 hm rfl rfl rfl rfl ?_
 obtain ⟨M6, e6, hH6, hF6, k6, n6, q6⟩ := mup hH5 hF5 (c := 134) (i := ((4 * z1 + 2)).toNat) (v := a2) (A := 0) (B := 5) (bs_10_0 _ _ (by omega) (by omega)) ⟨by omega, by omega⟩ (jin_of 2 rfl ⟨by omega, by omega⟩)
 refine jm_iast c1 hm rfl sh_134 ⟨by omega, by omega⟩ e6 ?_
 refine jx_load c1 hm rfl rfl rfl rfl ?_
 refine jx_getr c1 hm rfl sh_133 rfl ?_
 refine jx_load c1 hm rfl rfl rfl rfl ?_
 refine jy_ic c1 hm rfl (by decide) ?_
 refine jy_add c1 hm (4 * z1 + 3) rfl (by omega) ?_
 refine jx_load c1 hm rfl rfl rfl rfl ?_
 obtain ⟨M7, e7, hH7, hF7, k7, n7, q7⟩ := mup hH6 hF6 (c := 134) (i := ((4 * z1 + 3)).toNat) (v := a3) (A := 0) (B := 99) (bs_10_1 _ _ (by omega) (by omega)) ⟨by omega, by omega⟩ (jin_of 3 rfl ⟨by omega, by omega⟩)
 refine jm_iast c1 hm rfl sh_134 ⟨by omega, by omega⟩ e7 ?_
 refine jy_ic c1 hm rfl (by decide) ?_
 have k8 : M7.1 133 1 = z1 := (n7 133 1 (fun h => absurd h.1 (by decide))).trans ((n6 133 1 (fun h => absurd h.1 (by decide))).trans ((n5 133 1 (fun h => absurd h.1 (by decide))).trans ((n4 133 1 (fun h => absurd h.1 (by decide))).trans k2)))
 exact jx_retz c2 hm rfl rfl ⟨by omega, by omega⟩ ⟨_, rfl, hH7, hF7, by omega, by omega, (by omega), (((((LFr.rf _ _).eq q4).eq q5).eq q6).eq q7), (by omega)⟩
def md_X1_readOfMan_133_1_5y : List (Nat × (Nat × Nat)) := [(1, (4, 4)), (1, (5, 5)), (1, (6, 6)), (1, (7, 7)), (1, (9, 9)), (1, (11, 11)), (1, (12, 12)), (1, (13, 13)), (134, (0, 156)), (134, (1, 157)), (134, (2, 158)), (134, (3, 159))]
theorem ct_X1_readOfMan_133_1_5y (X : Int) (hX : 0 ≤ X ∧ X ≤ 100000000) (M0 : JM) (hH0 : HI X M0) (a0 : Int) (ha0 : 0 ≤ a0 ∧ a0 ≤ 5) : JOk shp PJ 4 211 [.inr (.inr (.inl 133)), .inr (.inr (.inl 1)), .inr (.inr (.inl 5)), .inl a0] M0 (jRi (fun v M' => HI X M' ∧ Fr md_X1_readOfMan_133_1_5y M0 M' ∧ 0 ≤ v ∧ v ≤ 1 ∧ (∀ (t : TXT) (σ : PSt) (n : Int), CQ M0 t σ → LT t (omQ t (σ, n)) v M') ∧ (M'.1 133 1 = M0.1 133 1) ∧ (LFr ml_X10_next_1p M0 M'))) := by
 refine ⟨jr_X1_readOfMan, pj_X1_readOfMan, fun F c1 c2 c3 => ?_⟩
 have hm := pj_X1_readOfMan
 change F 0 [some (.inr (.inr (.inl 133))), some (.inr (.inr (.inl 1))), some (.inr (.inr (.inl 5))), some (.inl a0), none, none, none] [] M0
 have hF0 : Fr md_X1_readOfMan_133_1_5y M0 M0 := Fr.rf _ _
 obtain ⟨z1, k2, lz1, uz1⟩ := hH0.ld (c := 133) (i := 1) (A := 0) (B := 40) (bs_27_1 _ _ (by omega) (by omega))
 obtain ⟨z3, k4, lz3, uz3⟩ := hH0.ld (c := 1) (i := 6) (A := 0) (B := 4) (bs_19_4 _ _ (by omega) (by omega))
 obtain ⟨z5, k6, lz5, uz5⟩ := hH0.ld (c := 1) (i := 7) (A := (-1)) (B := 23) (bs_19_5 _ _ (by omega) (by omega))
 obtain ⟨z7, k8, lz7, uz7⟩ := hH0.ld (c := 1) (i := 9) (A := (-2147483648)) (B := 2147483647) (bs_19_6 _ _ (by omega) (by omega))
 obtain ⟨z9, k10, lz9, uz9⟩ := hH0.ld (c := 1) (i := 5) (A := 0) (B := 940) (bs_19_3 _ _ (by omega) (by omega))
 refine jx_load c1 hm rfl rfl rfl rfl ?_
 refine jx_geti c1 hm rfl sh_1 rfl k6 ?_
 refine jx_stor c1 hm (L' := [some (.inr (.inr (.inl 133))), some (.inr (.inr (.inl 1))), some (.inr (.inr (.inl 5))), some (.inl a0), some (.inl z5), none, none]) rfl rfl rfl rfl rfl ?_
 refine jx_load c1 hm rfl rfl rfl rfl ?_
 refine jy_bp c1 hm rfl (by decide) ?_
 refine jc_lt c1 hm 20 rfl rfl (fun h11 => ?_) (fun h11 => ?_)
 ·
  refine jx_load c1 hm rfl rfl rfl rfl ?_
  refine jy_ic c1 hm rfl (by decide) ?_
  refine jx_load c1 hm rfl rfl rfl rfl ?_
  refine jx_geti c1 hm rfl sh_1 rfl k10 ?_
  refine jv_i c3 hm rfl pj_X10_fails rfl rfl ⟨_, _, _, rfl, sh_1⟩ rfl ((ct_X10_fails_1p X (by omega) M0 hH0 1 ⟨by omega, by omega⟩ z9 ⟨by omega, by omega⟩).le (by decide)) (fun z12 M18 ⟨hH18, hR18, lz12, uz12, p13, p14, p15, p16, p17⟩ => ?_)
  have hF18 := hF0.tr hR18 (by decide +kernel)
  obtain ⟨z19, k20, lz19, uz19⟩ := hH18.ld (c := 1) (i := 12) (A := 0) (B := 4) (bs_19_8 _ _ (by omega) (by omega))
  obtain ⟨z21, k22, lz21, uz21⟩ := hH18.ld (c := 1) (i := 13) (A := 0) (B := 940) (bs_19_9 _ _ (by omega) (by omega))
  have k23 : M18.1 133 1 = z1 := (hR18 133 1 (by decide +kernel)).trans k2
  exact jx_retz c2 hm rfl rfl ⟨by omega, by omega⟩ ⟨_, rfl, hH18, hF18, by omega, by omega, (fun t σ n hσ => LT.no (k := 1) (n := n) (omQ_n (hσ.nokey (by omega)) (hσ.nokey (by omega)) (hσ.nokey (by omega)) (hσ.nokey (by omega))) (by decide) hσ (by omega) (by omega) (by omega)), (by omega), ((LFr.rf _ _).tr p17 (by decide +kernel))⟩
 refine jx_load c1 hm rfl rfl rfl rfl ?_
 refine jy_bp c1 hm rfl (by decide) ?_
 refine jc_le c1 hm 30 rfl rfl (fun h24 => ?_) (fun h24 => ?_)
 ·
  refine jx_load c1 hm rfl rfl rfl rfl ?_
  obtain ⟨z25, k26, lz25, uz25⟩ := hH0.ld (c := 1) (i := 2) (A := 0) (B := 940) (bs_19_1 _ _ (by omega) (by omega))
  obtain ⟨z27, k28, lz27, uz27⟩ := hH0.ld (c := 1) (i := 4) (A := 0) (B := 940) (bs_19_3 _ _ (by omega) (by omega))
  refine jv_v c3 hm rfl pj_X10_next rfl rfl ⟨_, _, _, rfl, sh_1⟩ rfl ((ct_X10_next_1p X (by omega) M0 hH0 ).le (by decide)) (fun M31 ⟨hH31, hR31, p29, p30⟩ => ?_)
  have hF31 := hF0.tr hR31 (by decide +kernel)
  refine jx_load c1 hm rfl rfl rfl rfl ?_
  refine jy_bp c1 hm rfl (by decide) ?_
  refine jc_ne c1 hm 70 rfl rfl (fun h32 => ?_) (fun h32 => ?_)
  ·
   refine jx_load c1 hm rfl rfl rfl rfl ?_
   refine jy_bp c1 hm rfl (by decide) ?_
   refine jc_ne c1 hm 106 rfl rfl (fun h33 => ?_) (fun h33 => ?_)
   ·
    refine jx_load c1 hm rfl rfl rfl rfl ?_
    refine jx_load c1 hm rfl rfl rfl rfl ?_
    refine jy_ic c1 hm rfl (by decide) ?_
    refine jv_i c3 hm rfl pj_X10_takesName rfl rfl ⟨_, _, _, rfl, sh_1⟩ rfl ((ct_X10_takesName_1_5q X (by omega) M31 hH31 0 ⟨by omega, by omega⟩).le (by decide)) (fun z34 M38 ⟨hH38, hR38, lz34, uz34, p35, p36, p37⟩ => ?_)
    have hF38 := hF31.tr hR38 (by decide +kernel)
    obtain ⟨z39, k40, lz39, uz39⟩ := hH38.ld (c := 1) (i := 11) (A := 0) (B := 999) (bs_19_7 _ _ (by omega) (by omega))
    refine jz_ne c1 hm 117 rfl rfl (fun h41 => ?_) (fun h41 => ?_)
    ·
     refine jx_load c1 hm rfl rfl rfl rfl ?_
     refine jx_geti c1 hm rfl sh_1 rfl k40 ?_
     refine jx_stor c1 hm (L' := [some (.inr (.inr (.inl 133))), some (.inr (.inr (.inl 1))), some (.inr (.inr (.inl 5))), some (.inl a0), some (.inl z5), some (.inl z39), none]) rfl rfl rfl rfl rfl ?_
     refine jx_load c1 hm rfl rfl rfl rfl ?_
     refine jy_bp c1 hm rfl (by decide) ?_
     refine jc_ne c1 hm 134 rfl rfl (fun h42 => ?_) (fun h42 => ?_)
     ·
      refine jy_ic c1 hm rfl (by decide) ?_
      refine jx_stor c1 hm (L' := [some (.inr (.inr (.inl 133))), some (.inr (.inr (.inl 1))), some (.inr (.inr (.inl 5))), some (.inl a0), some (.inl z5), some (.inl z39), some (.inl 3)]) rfl rfl rfl rfl rfl ?_
      refine jx_load c1 hm rfl rfl rfl rfl ?_
      refine jy_ic c1 hm rfl (by decide) ?_
      refine jy_bp c1 hm rfl (by decide) ?_
      refine jv_i c3 hm rfl pj_X10_takesNumber rfl rfl ⟨_, _, _, rfl, sh_1⟩ rfl ((ct_X10_takesNumber_1q X (by omega) M38 hH38 1 ⟨by omega, by omega⟩ 99 ⟨by omega, by omega⟩).le (by decide)) (fun z43 M49 ⟨hH49, hR49, lz43, uz43, p44, p45, p46, p47, p48⟩ => ?_)
      have hF49 := hF38.tr hR49 (by decide +kernel)
      obtain ⟨z50, k51, lz50, uz50⟩ := hH49.ld (c := 1) (i := 11) (A := 0) (B := 999) (bs_19_7 _ _ (by omega) (by omega))
      refine jz_eq c1 hm 167 rfl rfl (fun h52 => ?_) (fun h52 => ?_)
      ·
       refine jy_ic c1 hm rfl (by decide) ?_
       have k53 : M49.1 133 1 = z1 := (hR49 133 1 (by decide +kernel)).trans ((hR38 133 1 (by decide +kernel)).trans ((hR31 133 1 (by decide +kernel)).trans k2))
       exact jx_retz c2 hm rfl rfl ⟨by omega, by omega⟩ ⟨_, rfl, hH49, hF49, by omega, by omega, (fun t σ n hσ => LT.eq (omQ_9 (Or.inr (hσ.keyd (n := n) (k := 10) (by omega) (by decide)))) (LT.sq (p36 t _ n (CQ.next hσ (kyQ.k2 (hσ.keyd (n := n) (k := 10) (by omega) (by decide))) p29 (hR31 1 12 rfl) (fun j => hR31 6 j rfl) (fun k => p30 7 k rfl))) (by omega) (fun σ n hσ => (p48 t σ n hσ).vc (by omega)))), (by omega), ((((LFr.rf _ _).tr p30 (by decide +kernel)).tr p37 (by decide +kernel)).tr p47 (by decide +kernel))⟩
      refine jx_load c1 hm rfl rfl rfl rfl ?_
      refine jx_load c1 hm rfl rfl rfl rfl ?_
      refine jx_load c1 hm rfl rfl rfl rfl ?_
      refine jx_load c1 hm rfl rfl rfl rfl ?_
      refine jx_load c1 hm rfl rfl rfl rfl ?_
      refine jx_geti c1 hm rfl sh_1 rfl k51 ?_
      have k54 : M49.1 133 1 = z1 := (hR49 133 1 (by decide +kernel)).trans ((hR38 133 1 (by decide +kernel)).trans ((hR31 133 1 (by decide +kernel)).trans k2))
      refine jv_i c3 hm rfl pj_X1_add rfl rfl ⟨_, _, _, rfl, sh_133⟩ rfl ((ct_X1_add_133y X (by omega) M49 hH49 3 ⟨by omega, by omega⟩ a0 ⟨by omega, by omega⟩ z39 ⟨by omega, by omega⟩ z50 ⟨by omega, by omega⟩).le (by decide)) (fun z55 M59 ⟨hH59, hR59, lz55, uz55, p56, p57, p58⟩ => ?_)
      have hF59 := hF49.tr hR59 (by decide +kernel)
      have k60 : M59.1 133 1 = z1 := (hR59 133 1 (by decide +kernel)).trans k54
      refine jz_eq c1 hm 167 rfl rfl (fun h61 => ?_) (fun h61 => ?_)
      ·
       exfalso; omega
      refine jy_ic c1 hm rfl (by decide) ?_
      refine jx_goto c1 hm 168 rfl rfl ?_
      exact jx_retz c2 hm rfl rfl ⟨by omega, by omega⟩ ⟨_, rfl, hH59, hF59, by omega, by omega, (fun t σ n hσ => LT.eq (omQ_9 (Or.inr (hσ.keyd (n := n) (k := 10) (by omega) (by decide)))) (LT.sq (p36 t _ n (CQ.next hσ (kyQ.k2 (hσ.keyd (n := n) (k := 10) (by omega) (by decide))) p29 (hR31 1 12 rfl) (fun j => hR31 6 j rfl) (fun k => p30 7 k rfl))) (by omega) (fun σ n hσ => by have y9 := (p48 t σ n hσ).ok (by omega); exact LT.o (CQ.cg y9.2 (fun j => (hR59 2 j rfl)) (fun i hi => (hR59 1 i rfl)) ((p57 1 8 rfl)) (fun j => (hR59 6 j rfl)) (fun k => (p57 7 k rfl))) y9.1 (by omega)))), (by omega), (((((LFr.rf _ _).tr p30 (by decide +kernel)).tr p37 (by decide +kernel)).tr p47 (by decide +kernel)).tr p57 (by decide +kernel))⟩
     refine jy_ic c1 hm rfl (by decide) ?_
     refine jx_goto c1 hm 135 rfl rfl ?_
     refine jx_stor c1 hm (L' := [some (.inr (.inr (.inl 133))), some (.inr (.inr (.inl 1))), some (.inr (.inr (.inl 5))), some (.inl a0), some (.inl z5), some (.inl z39), some (.inl 2)]) rfl rfl rfl rfl rfl ?_
     refine jx_load c1 hm rfl rfl rfl rfl ?_
     refine jy_ic c1 hm rfl (by decide) ?_
     refine jy_bp c1 hm rfl (by decide) ?_
     refine jv_i c3 hm rfl pj_X10_takesNumber rfl rfl ⟨_, _, _, rfl, sh_1⟩ rfl ((ct_X10_takesNumber_1q X (by omega) M38 hH38 1 ⟨by omega, by omega⟩ 99 ⟨by omega, by omega⟩).le (by decide)) (fun z62 M68 ⟨hH68, hR68, lz62, uz62, p63, p64, p65, p66, p67⟩ => ?_)
     have hF68 := hF38.tr hR68 (by decide +kernel)
     obtain ⟨z69, k70, lz69, uz69⟩ := hH68.ld (c := 1) (i := 11) (A := 0) (B := 999) (bs_19_7 _ _ (by omega) (by omega))
     refine jz_eq c1 hm 167 rfl rfl (fun h71 => ?_) (fun h71 => ?_)
     ·
      refine jy_ic c1 hm rfl (by decide) ?_
      have k72 : M68.1 133 1 = z1 := (hR68 133 1 (by decide +kernel)).trans ((hR38 133 1 (by decide +kernel)).trans ((hR31 133 1 (by decide +kernel)).trans k2))
      exact jx_retz c2 hm rfl rfl ⟨by omega, by omega⟩ ⟨_, rfl, hH68, hF68, by omega, by omega, (fun t σ n hσ => LT.eq (omQ_9 (Or.inl (hσ.keyd (n := n) (k := 9) (by omega) (by decide)))) (LT.sq (p36 t _ n (CQ.next hσ (kyQ.k2 (hσ.keyd (n := n) (k := 9) (by omega) (by decide))) p29 (hR31 1 12 rfl) (fun j => hR31 6 j rfl) (fun k => p30 7 k rfl))) (by omega) (fun σ n hσ => (p67 t σ n hσ).vc (by omega)))), (by omega), ((((LFr.rf _ _).tr p30 (by decide +kernel)).tr p37 (by decide +kernel)).tr p66 (by decide +kernel))⟩
     refine jx_load c1 hm rfl rfl rfl rfl ?_
     refine jx_load c1 hm rfl rfl rfl rfl ?_
     refine jx_load c1 hm rfl rfl rfl rfl ?_
     refine jx_load c1 hm rfl rfl rfl rfl ?_
     refine jx_load c1 hm rfl rfl rfl rfl ?_
     refine jx_geti c1 hm rfl sh_1 rfl k70 ?_
     have k73 : M68.1 133 1 = z1 := (hR68 133 1 (by decide +kernel)).trans ((hR38 133 1 (by decide +kernel)).trans ((hR31 133 1 (by decide +kernel)).trans k2))
     refine jv_i c3 hm rfl pj_X1_add rfl rfl ⟨_, _, _, rfl, sh_133⟩ rfl ((ct_X1_add_133y X (by omega) M68 hH68 2 ⟨by omega, by omega⟩ a0 ⟨by omega, by omega⟩ z39 ⟨by omega, by omega⟩ z69 ⟨by omega, by omega⟩).le (by decide)) (fun z74 M78 ⟨hH78, hR78, lz74, uz74, p75, p76, p77⟩ => ?_)
     have hF78 := hF68.tr hR78 (by decide +kernel)
     have k79 : M78.1 133 1 = z1 := (hR78 133 1 (by decide +kernel)).trans k73
     refine jz_eq c1 hm 167 rfl rfl (fun h80 => ?_) (fun h80 => ?_)
     ·
      exfalso; omega
     refine jy_ic c1 hm rfl (by decide) ?_
     refine jx_goto c1 hm 168 rfl rfl ?_
     exact jx_retz c2 hm rfl rfl ⟨by omega, by omega⟩ ⟨_, rfl, hH78, hF78, by omega, by omega, (fun t σ n hσ => LT.eq (omQ_9 (Or.inl (hσ.keyd (n := n) (k := 9) (by omega) (by decide)))) (LT.sq (p36 t _ n (CQ.next hσ (kyQ.k2 (hσ.keyd (n := n) (k := 9) (by omega) (by decide))) p29 (hR31 1 12 rfl) (fun j => hR31 6 j rfl) (fun k => p30 7 k rfl))) (by omega) (fun σ n hσ => by have y9 := (p67 t σ n hσ).ok (by omega); exact LT.o (CQ.cg y9.2 (fun j => (hR78 2 j rfl)) (fun i hi => (hR78 1 i rfl)) ((p76 1 8 rfl)) (fun j => (hR78 6 j rfl)) (fun k => (p76 7 k rfl))) y9.1 (by omega)))), (by omega), (((((LFr.rf _ _).tr p30 (by decide +kernel)).tr p37 (by decide +kernel)).tr p66 (by decide +kernel)).tr p76 (by decide +kernel))⟩
    refine jy_ic c1 hm rfl (by decide) ?_
    have k81 : M38.1 133 1 = z1 := (hR38 133 1 (by decide +kernel)).trans ((hR31 133 1 (by decide +kernel)).trans k2)
    exact jx_retz c2 hm rfl rfl ⟨by omega, by omega⟩ ⟨_, rfl, hH38, hF38, by omega, by omega, (fun t σ n hσ => by rcases (show M0.1 1 7 = 9 ∨ M0.1 1 7 = 10 by omega) with e9 | e9; exact LT.eq (omQ_9 (Or.inl (hσ.keyd (n := n) (k := 9) (by omega) (by decide)))) (LT.sz (p36 t _ n (CQ.next hσ (kyQ.k2 (hσ.keyd (n := n) (k := 9) (by omega) (by decide))) p29 (hR31 1 12 rfl) (fun j => hR31 6 j rfl) (fun k => p30 7 k rfl))) (by omega) (by omega)); exact LT.eq (omQ_9 (Or.inr (hσ.keyd (n := n) (k := 10) (by omega) (by decide)))) (LT.sz (p36 t _ n (CQ.next hσ (kyQ.k2 (hσ.keyd (n := n) (k := 10) (by omega) (by decide))) p29 (hR31 1 12 rfl) (fun j => hR31 6 j rfl) (fun k => p30 7 k rfl))) (by omega) (by omega))), (by omega), (((LFr.rf _ _).tr p30 (by decide +kernel)).tr p37 (by decide +kernel))⟩
   refine jx_load c1 hm rfl rfl rfl rfl ?_
   refine jx_load c1 hm rfl rfl rfl rfl ?_
   refine jy_ic c1 hm rfl (by decide) ?_
   refine jv_i c3 hm rfl pj_X10_takesName rfl rfl ⟨_, _, _, rfl, sh_1⟩ rfl ((ct_X10_takesName_1_5q X (by omega) M31 hH31 2 ⟨by omega, by omega⟩).le (by decide)) (fun z82 M86 ⟨hH86, hR86, lz82, uz82, p83, p84, p85⟩ => ?_)
   have hF86 := hF31.tr hR86 (by decide +kernel)
   obtain ⟨z87, k88, lz87, uz87⟩ := hH86.ld (c := 1) (i := 11) (A := 0) (B := 999) (bs_19_7 _ _ (by omega) (by omega))
   refine jz_eq c1 hm 104 rfl rfl (fun h89 => ?_) (fun h89 => ?_)
   ·
    refine jy_ic c1 hm rfl (by decide) ?_
    have k90 : M86.1 133 1 = z1 := (hR86 133 1 (by decide +kernel)).trans ((hR31 133 1 (by decide +kernel)).trans k2)
    exact jx_retz c2 hm rfl rfl ⟨by omega, by omega⟩ ⟨_, rfl, hH86, hF86, by omega, by omega, (fun t σ n hσ => LT.eq (omQ_8 (hσ.keyd (n := n) (k := 8) (by omega) (by decide))) ((p84 t _ n (CQ.next hσ (kyQ.k2 (hσ.keyd (n := n) (k := 8) (by omega) (by decide))) p29 (hR31 1 12 rfl) (fun j => hR31 6 j rfl) (fun k => p30 7 k rfl))).vc (by omega))), (by omega), (((LFr.rf _ _).tr p30 (by decide +kernel)).tr p85 (by decide +kernel))⟩
   refine jx_load c1 hm rfl rfl rfl rfl ?_
   refine jy_ic c1 hm rfl (by decide) ?_
   refine jx_load c1 hm rfl rfl rfl rfl ?_
   refine jx_load c1 hm rfl rfl rfl rfl ?_
   refine jx_geti c1 hm rfl sh_1 rfl k88 ?_
   refine jy_ic c1 hm rfl (by decide) ?_
   have k91 : M86.1 133 1 = z1 := (hR86 133 1 (by decide +kernel)).trans ((hR31 133 1 (by decide +kernel)).trans k2)
   refine jv_i c3 hm rfl pj_X1_add rfl rfl ⟨_, _, _, rfl, sh_133⟩ rfl ((ct_X1_add_133y X (by omega) M86 hH86 1 ⟨by omega, by omega⟩ a0 ⟨by omega, by omega⟩ z87 ⟨by omega, by omega⟩ 0 ⟨by omega, by omega⟩).le (by decide)) (fun z92 M96 ⟨hH96, hR96, lz92, uz92, p93, p94, p95⟩ => ?_)
   have hF96 := hF86.tr hR96 (by decide +kernel)
   have k97 : M96.1 133 1 = z1 := (hR96 133 1 (by decide +kernel)).trans k91
   refine jz_eq c1 hm 104 rfl rfl (fun h98 => ?_) (fun h98 => ?_)
   ·
    exfalso; omega
   refine jy_ic c1 hm rfl (by decide) ?_
   refine jx_goto c1 hm 105 rfl rfl ?_
   exact jx_retz c2 hm rfl rfl ⟨by omega, by omega⟩ ⟨_, rfl, hH96, hF96, by omega, by omega, (fun t σ n hσ => LT.eq (omQ_8 (hσ.keyd (n := n) (k := 8) (by omega) (by decide))) (by have y9 := (p84 t _ n (CQ.next hσ (kyQ.k2 (hσ.keyd (n := n) (k := 8) (by omega) (by decide))) p29 (hR31 1 12 rfl) (fun j => hR31 6 j rfl) (fun k => p30 7 k rfl))).ok (by omega); exact LT.o (CQ.cg y9.2 (fun j => (hR96 2 j rfl)) (fun i hi => (hR96 1 i rfl)) ((p94 1 8 rfl)) (fun j => (hR96 6 j rfl)) (fun k => (p94 7 k rfl))) y9.1 (by omega))), (by omega), ((((LFr.rf _ _).tr p30 (by decide +kernel)).tr p85 (by decide +kernel)).tr p94 (by decide +kernel))⟩
  refine jx_load c1 hm rfl rfl rfl rfl ?_
  refine jx_load c1 hm rfl rfl rfl rfl ?_
  refine jy_ic c1 hm rfl (by decide) ?_
  refine jv_i c3 hm rfl pj_X10_takesName rfl rfl ⟨_, _, _, rfl, sh_1⟩ rfl ((ct_X10_takesName_1_5q X (by omega) M31 hH31 1 ⟨by omega, by omega⟩).le (by decide)) (fun z99 M103 ⟨hH103, hR103, lz99, uz99, p100, p101, p102⟩ => ?_)
  have hF103 := hF31.tr hR103 (by decide +kernel)
  obtain ⟨z104, k105, lz104, uz104⟩ := hH103.ld (c := 1) (i := 11) (A := 0) (B := 999) (bs_19_7 _ _ (by omega) (by omega))
  refine jz_eq c1 hm 68 rfl rfl (fun h106 => ?_) (fun h106 => ?_)
  ·
   refine jy_ic c1 hm rfl (by decide) ?_
   have k107 : M103.1 133 1 = z1 := (hR103 133 1 (by decide +kernel)).trans ((hR31 133 1 (by decide +kernel)).trans k2)
   exact jx_retz c2 hm rfl rfl ⟨by omega, by omega⟩ ⟨_, rfl, hH103, hF103, by omega, by omega, (fun t σ n hσ => LT.eq (omQ_7 (hσ.keyd (n := n) (k := 7) (by omega) (by decide))) ((p101 t _ n (CQ.next hσ (kyQ.k2 (hσ.keyd (n := n) (k := 7) (by omega) (by decide))) p29 (hR31 1 12 rfl) (fun j => hR31 6 j rfl) (fun k => p30 7 k rfl))).vc (by omega))), (by omega), (((LFr.rf _ _).tr p30 (by decide +kernel)).tr p102 (by decide +kernel))⟩
  refine jx_load c1 hm rfl rfl rfl rfl ?_
  refine jy_ic c1 hm rfl (by decide) ?_
  refine jx_load c1 hm rfl rfl rfl rfl ?_
  refine jx_load c1 hm rfl rfl rfl rfl ?_
  refine jx_geti c1 hm rfl sh_1 rfl k105 ?_
  refine jy_ic c1 hm rfl (by decide) ?_
  have k108 : M103.1 133 1 = z1 := (hR103 133 1 (by decide +kernel)).trans ((hR31 133 1 (by decide +kernel)).trans k2)
  refine jv_i c3 hm rfl pj_X1_add rfl rfl ⟨_, _, _, rfl, sh_133⟩ rfl ((ct_X1_add_133y X (by omega) M103 hH103 0 ⟨by omega, by omega⟩ a0 ⟨by omega, by omega⟩ z104 ⟨by omega, by omega⟩ 0 ⟨by omega, by omega⟩).le (by decide)) (fun z109 M113 ⟨hH113, hR113, lz109, uz109, p110, p111, p112⟩ => ?_)
  have hF113 := hF103.tr hR113 (by decide +kernel)
  have k114 : M113.1 133 1 = z1 := (hR113 133 1 (by decide +kernel)).trans k108
  refine jz_eq c1 hm 68 rfl rfl (fun h115 => ?_) (fun h115 => ?_)
  ·
   exfalso; omega
  refine jy_ic c1 hm rfl (by decide) ?_
  refine jx_goto c1 hm 69 rfl rfl ?_
  exact jx_retz c2 hm rfl rfl ⟨by omega, by omega⟩ ⟨_, rfl, hH113, hF113, by omega, by omega, (fun t σ n hσ => LT.eq (omQ_7 (hσ.keyd (n := n) (k := 7) (by omega) (by decide))) (by have y9 := (p101 t _ n (CQ.next hσ (kyQ.k2 (hσ.keyd (n := n) (k := 7) (by omega) (by decide))) p29 (hR31 1 12 rfl) (fun j => hR31 6 j rfl) (fun k => p30 7 k rfl))).ok (by omega); exact LT.o (CQ.cg y9.2 (fun j => (hR113 2 j rfl)) (fun i hi => (hR113 1 i rfl)) ((p111 1 8 rfl)) (fun j => (hR113 6 j rfl)) (fun k => (p111 7 k rfl))) y9.1 (by omega))), (by omega), ((((LFr.rf _ _).tr p30 (by decide +kernel)).tr p102 (by decide +kernel)).tr p111 (by decide +kernel))⟩
 refine jx_load c1 hm rfl rfl rfl rfl ?_
 refine jy_ic c1 hm rfl (by decide) ?_
 refine jx_load c1 hm rfl rfl rfl rfl ?_
 refine jx_geti c1 hm rfl sh_1 rfl k10 ?_
 refine jv_i c3 hm rfl pj_X10_fails rfl rfl ⟨_, _, _, rfl, sh_1⟩ rfl ((ct_X10_fails_1p X (by omega) M0 hH0 1 ⟨by omega, by omega⟩ z9 ⟨by omega, by omega⟩).le (by decide)) (fun z116 M122 ⟨hH122, hR122, lz116, uz116, p117, p118, p119, p120, p121⟩ => ?_)
 have hF122 := hF0.tr hR122 (by decide +kernel)
 obtain ⟨z123, k124, lz123, uz123⟩ := hH122.ld (c := 1) (i := 12) (A := 0) (B := 4) (bs_19_8 _ _ (by omega) (by omega))
 obtain ⟨z125, k126, lz125, uz125⟩ := hH122.ld (c := 1) (i := 13) (A := 0) (B := 940) (bs_19_9 _ _ (by omega) (by omega))
 have k127 : M122.1 133 1 = z1 := (hR122 133 1 (by decide +kernel)).trans k2
 exact jx_retz c2 hm rfl rfl ⟨by omega, by omega⟩ ⟨_, rfl, hH122, hF122, by omega, by omega, (fun t σ n hσ => LT.no (k := 1) (n := n) (omQ_n (hσ.nokey (by omega)) (hσ.nokey (by omega)) (hσ.nokey (by omega)) (hσ.nokey (by omega))) (by decide) hσ (by omega) (by omega) (by omega)), (by omega), ((LFr.rf _ _).tr p121 (by decide +kernel))⟩
def md_X1_readLine_133_1_5y : List (Nat × (Nat × Nat)) := [(1, (4, 4)), (1, (5, 5)), (1, (6, 6)), (1, (7, 7)), (1, (9, 9)), (1, (11, 11)), (1, (12, 12)), (1, (13, 13)), (134, (0, 156)), (134, (1, 157)), (134, (2, 158)), (134, (3, 159))]
theorem ct_X1_readLine_133_1_5y (X : Int) (hX : 0 ≤ X ∧ X ≤ 100000000) (M0 : JM) (hH0 : HI X M0)  : JOk shp PJ 5 209 [.inr (.inr (.inl 133)), .inr (.inr (.inl 1)), .inr (.inr (.inl 5))] M0 (jRi (fun v M' => HI X M' ∧ Fr md_X1_readLine_133_1_5y M0 M' ∧ 0 ≤ v ∧ v ≤ 1 ∧ (v = 1 → M'.1 133 1 ≤ 39) ∧ (∀ (t : TXT) (σ : PSt), CQ M0 t σ → LT t (blnQ t (σ, M0.1 133 1)) v M') ∧ (M'.1 133 1 = M0.1 133 1) ∧ (LFr ml_X10_next_1p M0 M'))) := by
 refine ⟨jr_X1_readLine, pj_X1_readLine, fun F c1 c2 c3 => ?_⟩
 have hm := pj_X1_readLine
 change F 0 [some (.inr (.inr (.inl 133))), some (.inr (.inr (.inl 1))), some (.inr (.inr (.inl 5))), none, none, none] [] M0
 have hF0 : Fr md_X1_readLine_133_1_5y M0 M0 := Fr.rf _ _
 obtain ⟨z1, k2, lz1, uz1⟩ := hH0.ld (c := 133) (i := 1) (A := 0) (B := 40) (bs_27_1 _ _ (by omega) (by omega))
 obtain ⟨z3, k4, lz3, uz3⟩ := hH0.ld (c := 1) (i := 6) (A := 0) (B := 4) (bs_19_4 _ _ (by omega) (by omega))
 obtain ⟨z5, k6, lz5, uz5⟩ := hH0.ld (c := 1) (i := 7) (A := (-1)) (B := 23) (bs_19_5 _ _ (by omega) (by omega))
 obtain ⟨z7, k8, lz7, uz7⟩ := hH0.ld (c := 1) (i := 9) (A := (-2147483648)) (B := 2147483647) (bs_19_6 _ _ (by omega) (by omega))
 obtain ⟨z9, k10, lz9, uz9⟩ := hH0.ld (c := 1) (i := 5) (A := 0) (B := 940) (bs_19_3 _ _ (by omega) (by omega))
 refine jx_load c1 hm rfl rfl rfl rfl ?_
 refine jx_geti c1 hm rfl sh_1 rfl k10 ?_
 refine jx_stor c1 hm (L' := [some (.inr (.inr (.inl 133))), some (.inr (.inr (.inl 1))), some (.inr (.inr (.inl 5))), some (.inl z9), none, none]) rfl rfl rfl rfl rfl ?_
 refine jx_load c1 hm rfl rfl rfl rfl ?_
 refine jx_geti c1 hm rfl sh_1 rfl k6 ?_
 refine jx_stor c1 hm (L' := [some (.inr (.inr (.inl 133))), some (.inr (.inr (.inl 1))), some (.inr (.inr (.inl 5))), some (.inl z9), some (.inl z5), none]) rfl rfl rfl rfl rfl ?_
 refine jx_load c1 hm rfl rfl rfl rfl ?_
 refine jy_bp c1 hm rfl (by decide) ?_
 refine jc_eq c1 hm 29 rfl rfl (fun h11 => ?_) (fun h11 => ?_)
 ·
  refine jy_ic c1 hm rfl (by decide) ?_
  refine jx_stor c1 hm (L' := [some (.inr (.inr (.inl 133))), some (.inr (.inr (.inl 1))), some (.inr (.inr (.inl 5))), some (.inl z9), some (.inl z5), some (.inl 0)]) rfl rfl rfl rfl rfl ?_
  refine jx_load c1 hm rfl rfl rfl rfl ?_
  refine jz_eq c1 hm 48 rfl rfl (fun h12 => ?_) (fun h12 => ?_)
  ·
   refine jx_load c1 hm rfl rfl rfl rfl ?_
   refine jx_geti c1 hm rfl sh_133 rfl k2 ?_
   refine jy_bp c1 hm rfl (by decide) ?_
   refine jc_lt c1 hm 64 rfl rfl (fun h13 => ?_) (fun h13 => ?_)
   ·
    refine jx_load c1 hm rfl rfl rfl rfl ?_
    refine jz_eq c1 hm 80 rfl rfl (fun h14 => ?_) (fun h14 => ?_)
    ·
     refine jx_load c1 hm rfl rfl rfl rfl ?_
     obtain ⟨z15, k16, lz15, uz15⟩ := hH0.ld (c := 1) (i := 2) (A := 0) (B := 940) (bs_19_1 _ _ (by omega) (by omega))
     obtain ⟨z17, k18, lz17, uz17⟩ := hH0.ld (c := 1) (i := 4) (A := 0) (B := 940) (bs_19_3 _ _ (by omega) (by omega))
     refine jv_v c3 hm rfl pj_X10_next rfl rfl ⟨_, _, _, rfl, sh_1⟩ rfl ((ct_X10_next_1p X (by omega) M0 hH0 ).le (by decide)) (fun M21 ⟨hH21, hR21, p19, p20⟩ => ?_)
     have hF21 := hF0.tr hR21 (by decide +kernel)
     refine jx_load c1 hm rfl rfl rfl rfl ?_
     refine jy_bp c1 hm rfl (by decide) ?_
     refine jc_ne c1 hm 100 rfl rfl (fun h22 => ?_) (fun h22 => ?_)
     ·
      exfalso; omega
     refine jx_load c1 hm rfl rfl rfl rfl ?_
     refine jy_ic c1 hm rfl (by decide) ?_
     refine jy_ic c1 hm rfl (by decide) ?_
     refine jy_ic c1 hm rfl (by decide) ?_
     refine jy_ic c1 hm rfl (by decide) ?_
     have k23 : M21.1 133 1 = z1 := (hR21 133 1 (by decide +kernel)).trans k2
     refine jv_i c3 hm rfl pj_X1_add rfl rfl ⟨_, _, _, rfl, sh_133⟩ rfl ((ct_X1_add_133y X (by omega) M21 hH21 4 ⟨by omega, by omega⟩ 0 ⟨by omega, by omega⟩ 0 ⟨by omega, by omega⟩ 0 ⟨by omega, by omega⟩).le (by decide)) (fun z24 M28 ⟨hH28, hR28, lz24, uz24, p25, p26, p27⟩ => ?_)
     have hF28 := hF21.tr hR28 (by decide +kernel)
     have k29 : M28.1 133 1 = z1 := (hR28 133 1 (by decide +kernel)).trans k23
     exact jx_retz c2 hm rfl rfl ⟨by omega, by omega⟩ ⟨_, rfl, hH28, hF28, by omega, by omega, (by omega), (fun t σ hσ => LT.eq (blnQ_11 (hσ.keyd (n := (M0.1 133 1)) (k := 11) (by omega) (by decide))) (LT.eq (if_neg (show ¬ 40 ≤ M0.1 133 1 by omega)) (LT.o (r := okQ (goQ t (σ, M0.1 133 1))) (CQ.cg (CQ.next hσ (kyQ.k2 (hσ.keyd (n := (M0.1 133 1)) (k := 11) (by omega) (by decide))) p19 (hR21 1 12 rfl) (fun j => hR21 6 j rfl) (fun k => p20 7 k rfl)) (fun j => (hR28 2 j rfl)) (fun i hi => (hR28 1 i rfl)) ((p26 1 8 rfl)) (fun j => (hR28 6 j rfl)) (fun k => (p26 7 k rfl))) rfl (by omega)))), (by omega), (((LFr.rf _ _).tr p20 (by decide +kernel)).tr p26 (by decide +kernel))⟩
    exfalso; omega
   refine jx_load c1 hm rfl rfl rfl rfl ?_
   refine jy_ic c1 hm rfl (by decide) ?_
   refine jx_load c1 hm rfl rfl rfl rfl ?_
   refine jv_i c3 hm rfl pj_X10_fails rfl rfl ⟨_, _, _, rfl, sh_1⟩ rfl ((ct_X10_fails_1p X (by omega) M0 hH0 4 ⟨by omega, by omega⟩ z9 ⟨by omega, by omega⟩).le (by decide)) (fun z30 M36 ⟨hH36, hR36, lz30, uz30, p31, p32, p33, p34, p35⟩ => ?_)
   have hF36 := hF0.tr hR36 (by decide +kernel)
   obtain ⟨z37, k38, lz37, uz37⟩ := hH36.ld (c := 1) (i := 12) (A := 0) (B := 4) (bs_19_8 _ _ (by omega) (by omega))
   obtain ⟨z39, k40, lz39, uz39⟩ := hH36.ld (c := 1) (i := 13) (A := 0) (B := 940) (bs_19_9 _ _ (by omega) (by omega))
   have k41 : M36.1 133 1 = z1 := (hR36 133 1 (by decide +kernel)).trans k2
   exact jx_retz c2 hm rfl rfl ⟨by omega, by omega⟩ ⟨_, rfl, hH36, hF36, by omega, by omega, (by omega), (fun t σ hσ => LT.eq (blnQ_11 (hσ.keyd (n := (M0.1 133 1)) (k := 11) (by omega) (by decide))) (LT.eq (if_pos (show 40 ≤ M0.1 133 1 by omega)) (LT.no (k := 4) (n := M0.1 133 1) rfl (by decide) hσ (by omega) (by omega) (by omega)))), (by omega), ((LFr.rf _ _).tr p35 (by decide +kernel))⟩
  exfalso; omega
 refine jx_load c1 hm rfl rfl rfl rfl ?_
 refine jy_bp c1 hm rfl (by decide) ?_
 refine jc_eq c1 hm 29 rfl rfl (fun h42 => ?_) (fun h42 => ?_)
 ·
  refine jy_ic c1 hm rfl (by decide) ?_
  refine jx_stor c1 hm (L' := [some (.inr (.inr (.inl 133))), some (.inr (.inr (.inl 1))), some (.inr (.inr (.inl 5))), some (.inl z9), some (.inl z5), some (.inl 0)]) rfl rfl rfl rfl rfl ?_
  refine jx_load c1 hm rfl rfl rfl rfl ?_
  refine jz_eq c1 hm 48 rfl rfl (fun h43 => ?_) (fun h43 => ?_)
  ·
   refine jx_load c1 hm rfl rfl rfl rfl ?_
   refine jx_geti c1 hm rfl sh_133 rfl k2 ?_
   refine jy_bp c1 hm rfl (by decide) ?_
   refine jc_lt c1 hm 64 rfl rfl (fun h44 => ?_) (fun h44 => ?_)
   ·
    refine jx_load c1 hm rfl rfl rfl rfl ?_
    refine jz_eq c1 hm 80 rfl rfl (fun h45 => ?_) (fun h45 => ?_)
    ·
     refine jx_load c1 hm rfl rfl rfl rfl ?_
     obtain ⟨z46, k47, lz46, uz46⟩ := hH0.ld (c := 1) (i := 2) (A := 0) (B := 940) (bs_19_1 _ _ (by omega) (by omega))
     obtain ⟨z48, k49, lz48, uz48⟩ := hH0.ld (c := 1) (i := 4) (A := 0) (B := 940) (bs_19_3 _ _ (by omega) (by omega))
     refine jv_v c3 hm rfl pj_X10_next rfl rfl ⟨_, _, _, rfl, sh_1⟩ rfl ((ct_X10_next_1p X (by omega) M0 hH0 ).le (by decide)) (fun M52 ⟨hH52, hR52, p50, p51⟩ => ?_)
     have hF52 := hF0.tr hR52 (by decide +kernel)
     refine jx_load c1 hm rfl rfl rfl rfl ?_
     refine jy_bp c1 hm rfl (by decide) ?_
     refine jc_ne c1 hm 100 rfl rfl (fun h53 => ?_) (fun h53 => ?_)
     ·
      refine jx_load c1 hm rfl rfl rfl rfl ?_
      refine jy_ic c1 hm rfl (by decide) ?_
      refine jy_bp c1 hm rfl (by decide) ?_
      refine jv_i c3 hm rfl pj_X10_takesNumber rfl rfl ⟨_, _, _, rfl, sh_1⟩ rfl ((ct_X10_takesNumber_1q X (by omega) M52 hH52 1 ⟨by omega, by omega⟩ 60 ⟨by omega, by omega⟩).le (by decide)) (fun z54 M60 ⟨hH60, hR60, lz54, uz54, p55, p56, p57, p58, p59⟩ => ?_)
      have hF60 := hF52.tr hR60 (by decide +kernel)
      obtain ⟨z61, k62, lz61, uz61⟩ := hH60.ld (c := 1) (i := 11) (A := 0) (B := 999) (bs_19_7 _ _ (by omega) (by omega))
      refine jz_eq c1 hm 128 rfl rfl (fun h63 => ?_) (fun h63 => ?_)
      ·
       refine jy_ic c1 hm rfl (by decide) ?_
       have k64 : M60.1 133 1 = z1 := (hR60 133 1 (by decide +kernel)).trans ((hR52 133 1 (by decide +kernel)).trans k2)
       exact jx_retz c2 hm rfl rfl ⟨by omega, by omega⟩ ⟨_, rfl, hH60, hF60, by omega, by omega, (by omega), (fun t σ hσ => LT.eq (blnQ_12 (hσ.keyd (n := (M0.1 133 1)) (k := 12) (by omega) (by decide))) (LT.eq (if_neg (show ¬ 40 ≤ M0.1 133 1 by omega)) ((p59 t _ (M0.1 133 1) (CQ.next hσ (kyQ.k2 (hσ.keyd (n := (M0.1 133 1)) (k := 12) (by omega) (by decide))) p50 (hR52 1 12 rfl) (fun j => hR52 6 j rfl) (fun k => p51 7 k rfl))).vc (by omega)))), (by omega), (((LFr.rf _ _).tr p51 (by decide +kernel)).tr p58 (by decide +kernel))⟩
      refine jx_load c1 hm rfl rfl rfl rfl ?_
      refine jy_ic c1 hm rfl (by decide) ?_
      refine jy_ic c1 hm rfl (by decide) ?_
      refine jy_ic c1 hm rfl (by decide) ?_
      refine jx_load c1 hm rfl rfl rfl rfl ?_
      refine jx_geti c1 hm rfl sh_1 rfl k62 ?_
      have k65 : M60.1 133 1 = z1 := (hR60 133 1 (by decide +kernel)).trans ((hR52 133 1 (by decide +kernel)).trans k2)
      refine jv_i c3 hm rfl pj_X1_add rfl rfl ⟨_, _, _, rfl, sh_133⟩ rfl ((ct_X1_add_133y X (by omega) M60 hH60 5 ⟨by omega, by omega⟩ 0 ⟨by omega, by omega⟩ 0 ⟨by omega, by omega⟩ z61 ⟨by omega, by omega⟩).le (by decide)) (fun z66 M70 ⟨hH70, hR70, lz66, uz66, p67, p68, p69⟩ => ?_)
      have hF70 := hF60.tr hR70 (by decide +kernel)
      have k71 : M70.1 133 1 = z1 := (hR70 133 1 (by decide +kernel)).trans k65
      refine jz_eq c1 hm 128 rfl rfl (fun h72 => ?_) (fun h72 => ?_)
      ·
       exfalso; omega
      refine jy_ic c1 hm rfl (by decide) ?_
      refine jx_goto c1 hm 129 rfl rfl ?_
      exact jx_retz c2 hm rfl rfl ⟨by omega, by omega⟩ ⟨_, rfl, hH70, hF70, by omega, by omega, (by omega), (fun t σ hσ => LT.eq (blnQ_12 (hσ.keyd (n := (M0.1 133 1)) (k := 12) (by omega) (by decide))) (LT.eq (if_neg (show ¬ 40 ≤ M0.1 133 1 by omega)) (by have y9 := (p59 t _ (M0.1 133 1) (CQ.next hσ (kyQ.k2 (hσ.keyd (n := (M0.1 133 1)) (k := 12) (by omega) (by decide))) p50 (hR52 1 12 rfl) (fun j => hR52 6 j rfl) (fun k => p51 7 k rfl))).ok (by omega); exact LT.o (CQ.cg y9.2 (fun j => (hR70 2 j rfl)) (fun i hi => (hR70 1 i rfl)) ((p68 1 8 rfl)) (fun j => (hR70 6 j rfl)) (fun k => (p68 7 k rfl))) y9.1 (by omega)))), (by omega), ((((LFr.rf _ _).tr p51 (by decide +kernel)).tr p58 (by decide +kernel)).tr p68 (by decide +kernel))⟩
     exfalso; omega
    exfalso; omega
   refine jx_load c1 hm rfl rfl rfl rfl ?_
   refine jy_ic c1 hm rfl (by decide) ?_
   refine jx_load c1 hm rfl rfl rfl rfl ?_
   refine jv_i c3 hm rfl pj_X10_fails rfl rfl ⟨_, _, _, rfl, sh_1⟩ rfl ((ct_X10_fails_1p X (by omega) M0 hH0 4 ⟨by omega, by omega⟩ z9 ⟨by omega, by omega⟩).le (by decide)) (fun z73 M79 ⟨hH79, hR79, lz73, uz73, p74, p75, p76, p77, p78⟩ => ?_)
   have hF79 := hF0.tr hR79 (by decide +kernel)
   obtain ⟨z80, k81, lz80, uz80⟩ := hH79.ld (c := 1) (i := 12) (A := 0) (B := 4) (bs_19_8 _ _ (by omega) (by omega))
   obtain ⟨z82, k83, lz82, uz82⟩ := hH79.ld (c := 1) (i := 13) (A := 0) (B := 940) (bs_19_9 _ _ (by omega) (by omega))
   have k84 : M79.1 133 1 = z1 := (hR79 133 1 (by decide +kernel)).trans k2
   exact jx_retz c2 hm rfl rfl ⟨by omega, by omega⟩ ⟨_, rfl, hH79, hF79, by omega, by omega, (by omega), (fun t σ hσ => LT.eq (blnQ_12 (hσ.keyd (n := (M0.1 133 1)) (k := 12) (by omega) (by decide))) (LT.eq (if_pos (show 40 ≤ M0.1 133 1 by omega)) (LT.no (k := 4) (n := M0.1 133 1) rfl (by decide) hσ (by omega) (by omega) (by omega)))), (by omega), ((LFr.rf _ _).tr p78 (by decide +kernel))⟩
  exfalso; omega
 refine jy_ic c1 hm rfl (by decide) ?_
 refine jx_goto c1 hm 30 rfl rfl ?_
 refine jx_stor c1 hm (L' := [some (.inr (.inr (.inl 133))), some (.inr (.inr (.inl 1))), some (.inr (.inr (.inl 5))), some (.inl z9), some (.inl z5), some (.inl 1)]) rfl rfl rfl rfl rfl ?_
 refine jx_load c1 hm rfl rfl rfl rfl ?_
 refine jz_eq c1 hm 48 rfl rfl (fun h85 => ?_) (fun h85 => ?_)
 ·
  exfalso; omega
 refine jx_load c1 hm rfl rfl rfl rfl ?_
 refine jx_load c1 hm rfl rfl rfl rfl ?_
 refine jy_ic c1 hm rfl (by decide) ?_
 refine jv_i c3 hm rfl pj_X10_takesName rfl rfl ⟨_, _, _, rfl, sh_1⟩ rfl ((ct_X10_takesName_1_5q X (by omega) M0 hH0 0 ⟨by omega, by omega⟩).le (by decide)) (fun z86 M90 ⟨hH90, hR90, lz86, uz86, p87, p88, p89⟩ => ?_)
 have hF90 := hF0.tr hR90 (by decide +kernel)
 obtain ⟨z91, k92, lz91, uz91⟩ := hH90.ld (c := 1) (i := 11) (A := 0) (B := 999) (bs_19_7 _ _ (by omega) (by omega))
 refine jz_ne c1 hm 48 rfl rfl (fun h93 => ?_) (fun h93 => ?_)
 ·
  refine jx_load c1 hm rfl rfl rfl rfl ?_
  have k94 : M90.1 133 1 = z1 := (hR90 133 1 (by decide +kernel)).trans k2
  refine jx_geti c1 hm rfl sh_133 rfl k94 ?_
  refine jy_bp c1 hm rfl (by decide) ?_
  refine jc_lt c1 hm 64 rfl rfl (fun h95 => ?_) (fun h95 => ?_)
  ·
   refine jx_load c1 hm rfl rfl rfl rfl ?_
   refine jz_eq c1 hm 80 rfl rfl (fun h96 => ?_) (fun h96 => ?_)
   ·
    exfalso; omega
   refine jx_load c1 hm rfl rfl rfl rfl ?_
   refine jx_load c1 hm rfl rfl rfl rfl ?_
   refine jx_load c1 hm rfl rfl rfl rfl ?_
   refine jx_load c1 hm rfl rfl rfl rfl ?_
   refine jx_geti c1 hm rfl sh_1 rfl k92 ?_
   refine jv_i c3 hm rfl pj_X1_readOfMan rfl rfl ⟨_, _, _, rfl, sh_133⟩ rfl ((ct_X1_readOfMan_133_1_5y X (by omega) M90 hH90 z91 ⟨by omega, by omega⟩).le (by decide)) (fun z97 M101 ⟨hH101, hR101, lz97, uz97, p98, p99, p100⟩ => ?_)
   have hF101 := hF90.tr hR101 (by decide +kernel)
   have k102 : M101.1 133 1 = z1 := (hR101 133 1 (by decide +kernel)).trans k94
   exact jx_retz c2 hm rfl rfl ⟨by omega, by omega⟩ ⟨_, rfl, hH101, hF101, by omega, by omega, (by omega), (fun t σ hσ => LT.eq (blnQ_o (hσ.nokey (by omega)) (hσ.nokey (by omega))) (LT.sq (p88 t σ (M0.1 133 1) hσ) (by omega) (fun σ1 n1 hσ1 => LT.eq (if_neg (show ¬ 40 ≤ M0.1 133 1 by omega)) (p98 t σ1 n1 hσ1)))), (by omega), (((LFr.rf _ _).tr p89 (by decide +kernel)).tr p100 (by decide +kernel))⟩
  refine jx_load c1 hm rfl rfl rfl rfl ?_
  refine jy_ic c1 hm rfl (by decide) ?_
  refine jx_load c1 hm rfl rfl rfl rfl ?_
  refine jv_i c3 hm rfl pj_X10_fails rfl rfl ⟨_, _, _, rfl, sh_1⟩ rfl ((ct_X10_fails_1p X (by omega) M90 hH90 4 ⟨by omega, by omega⟩ z9 ⟨by omega, by omega⟩).le (by decide)) (fun z103 M109 ⟨hH109, hR109, lz103, uz103, p104, p105, p106, p107, p108⟩ => ?_)
  have hF109 := hF90.tr hR109 (by decide +kernel)
  obtain ⟨z110, k111, lz110, uz110⟩ := hH109.ld (c := 1) (i := 12) (A := 0) (B := 4) (bs_19_8 _ _ (by omega) (by omega))
  obtain ⟨z112, k113, lz112, uz112⟩ := hH109.ld (c := 1) (i := 13) (A := 0) (B := 940) (bs_19_9 _ _ (by omega) (by omega))
  have k114 : M109.1 133 1 = z1 := (hR109 133 1 (by decide +kernel)).trans k94
  exact jx_retz c2 hm rfl rfl ⟨by omega, by omega⟩ ⟨_, rfl, hH109, hF109, by omega, by omega, (by omega), (fun t σ hσ => LT.eq (blnQ_o (hσ.nokey (by omega)) (hσ.nokey (by omega))) (LT.sq (p88 t σ (M0.1 133 1) hσ) (by omega) (fun σ1 n1 hσ1 => LT.eq (if_pos (show 40 ≤ M0.1 133 1 by omega)) (LT.no (k := 4) (n := M0.1 133 1) rfl (by decide) hσ (by omega) (by omega) (by omega))))), (by omega), (((LFr.rf _ _).tr p89 (by decide +kernel)).tr p108 (by decide +kernel))⟩
 refine jy_ic c1 hm rfl (by decide) ?_
 have k115 : M90.1 133 1 = z1 := (hR90 133 1 (by decide +kernel)).trans k2
 exact jx_retz c2 hm rfl rfl ⟨by omega, by omega⟩ ⟨_, rfl, hH90, hF90, by omega, by omega, (by omega), (fun t σ hσ => LT.eq (blnQ_o (hσ.nokey (by omega)) (hσ.nokey (by omega))) (LT.sz (p88 t σ (M0.1 133 1) hσ) (by omega) (by omega))), (by omega), ((LFr.rf _ _).tr p89 (by decide +kernel))⟩
def md_X1_readLines_133_1_5y : List (Nat × (Nat × Nat)) := [(1, (4, 4)), (1, (5, 5)), (1, (6, 6)), (1, (7, 7)), (1, (9, 9)), (1, (11, 11)), (1, (12, 12)), (1, (13, 13)), (133, (1, 1)), (134, (0, 156)), (134, (1, 157)), (134, (2, 158)), (134, (3, 159))]
theorem ct_X1_readLines_133_1_5y (X : Int) (hX : 0 ≤ X ∧ X ≤ 100000000) (M0 : JM) (hH0 : HI X M0)  : JOk shp PJ 6 210 [.inr (.inr (.inl 133)), .inr (.inr (.inl 1)), .inr (.inr (.inl 5))] M0 (jRi (fun v M' => HI X M' ∧ Fr md_X1_readLines_133_1_5y M0 M' ∧ 0 ≤ v ∧ v ≤ 1 ∧ (∀ (t : TXT) (σ : PSt), CQ M0 t σ → M'.1 1 12 = (allB t 1000 (σ, 0)).1))) := by
 refine ⟨jr_X1_readLines, pj_X1_readLines, fun F c1 c2 c3 => ?_⟩
 have hm := pj_X1_readLines
 change F 0 [some (.inr (.inr (.inl 133))), some (.inr (.inr (.inl 1))), some (.inr (.inr (.inl 5))), none] [] M0
 have hF0 : Fr md_X1_readLines_133_1_5y M0 M0 := Fr.rf _ _
 obtain ⟨z1, k2, lz1, uz1⟩ := hH0.ld (c := 1) (i := 12) (A := 0) (B := 4) (bs_19_8 _ _ (by omega) (by omega))
 obtain ⟨z3, k4, lz3, uz3⟩ := hH0.ld (c := 1) (i := 6) (A := 0) (B := 4) (bs_19_4 _ _ (by omega) (by omega))
 obtain ⟨z5, k6, lz5, uz5⟩ := hH0.ld (c := 133) (i := 1) (A := 0) (B := 40) (bs_27_1 _ _ (by omega) (by omega))
 refine jx_load c1 hm rfl rfl rfl rfl ?_
 refine jy_ic c1 hm rfl (by decide) ?_
 obtain ⟨M7, e7, hH7, hF7, k7, n7, q7⟩ := mup hH0 hF0 (c := 133) (i := 1) (v := 0) (A := 0) (B := 40) (bs_27_1 _ _ (by omega) (by omega)) ⟨by omega, by omega⟩ (jin_of 8 rfl ⟨by omega, by omega⟩)
 refine jm_puti c1 hm rfl sh_133 rfl e7 ?_
 refine jy_ic c1 hm rfl (by decide) ?_
 refine jx_stor c1 hm (L' := [some (.inr (.inr (.inl 133))), some (.inr (.inr (.inl 1))), some (.inr (.inr (.inl 5))), some (.inl 0)]) rfl rfl rfl rfl rfl ?_
 have W13 : ∀ (n14 : Nat) (b8 : Int) (hb8 : 0 ≤ b8 ∧ b8 ≤ 41) (M9 : JM) (hH9 : HI (X) M9) (hF9 : Fr md_X1_readLines_133_1_5y M0 M9) (b10 : Int) (hb10 : 0 ≤ b10 ∧ b10 ≤ 40) (k11 : M9.1 133 1 = b10) (hrb : ∀ (t : TXT) (σ : PSt), CQ M0 t σ → RBc t (σ, 0) M9 b8), (-b8 + 41) < (n14 : Int) → F 7 [some (.inr (.inr (.inl 133))), some (.inr (.inr (.inl 1))), some (.inr (.inr (.inl 5))), some (.inl b8)] [] M9 := by
  intro n14
  induction n14 with
  | zero => intros; omega
  | succ n14 ihW13 =>
   intro b8 hb8 M9 hH9 hF9 b10 hb10 k11 hrb hrW13
   refine jx_load c1 hm rfl rfl rfl rfl ?_
   refine jy_bp c1 hm rfl (by decide) ?_
   refine jc_gt c1 hm 61 rfl rfl (fun h15 => ?_) (fun h15 => ?_)
   ·
    refine jx_load c1 hm rfl rfl rfl rfl ?_
    obtain ⟨z16, k17, lz16, uz16⟩ := hH9.ld (c := 1) (i := 12) (A := 0) (B := 4) (bs_19_8 _ _ (by omega) (by omega))
    refine jx_geti c1 hm rfl sh_1 rfl k17 ?_
    refine jz_ne c1 hm 72 rfl rfl (fun h18 => ?_) (fun h18 => ?_)
    ·
     refine jy_ic c1 hm rfl (by decide) ?_
     exact jx_retz c2 hm rfl rfl ⟨by omega, by omega⟩ ⟨_, rfl, hH9, hF9, by omega, by omega, (fun t σ hσ => RBc.fin (hrb t σ hσ) (by omega) (by omega) (by omega))⟩
    refine jy_ic c1 hm rfl (by decide) ?_
    refine jx_goto c1 hm 73 rfl rfl ?_
    exact jx_retz c2 hm rfl rfl ⟨by omega, by omega⟩ ⟨_, rfl, hH9, hF9, by omega, by omega, (fun t σ hσ => RBc.fin (hrb t σ hσ) (by omega) (by omega) (by omega))⟩
   refine jx_load c1 hm rfl rfl rfl rfl ?_
   obtain ⟨z19, k20, lz19, uz19⟩ := hH9.ld (c := 1) (i := 12) (A := 0) (B := 4) (bs_19_8 _ _ (by omega) (by omega))
   refine jx_geti c1 hm rfl sh_1 rfl k20 ?_
   refine jz_ne c1 hm 61 rfl rfl (fun h21 => ?_) (fun h21 => ?_)
   ·
    refine jx_load c1 hm rfl rfl rfl rfl ?_
    refine jx_geti c1 hm rfl sh_1 rfl k20 ?_
    refine jz_ne c1 hm 72 rfl rfl (fun h22 => ?_) (fun h22 => ?_)
    ·
     refine jy_ic c1 hm rfl (by decide) ?_
     exact jx_retz c2 hm rfl rfl ⟨by omega, by omega⟩ ⟨_, rfl, hH9, hF9, by omega, by omega, (fun t σ hσ => RBc.fin (hrb t σ hσ) (by omega) (by omega) (by omega))⟩
    exfalso; omega
   refine jx_load c1 hm rfl rfl rfl rfl ?_
   obtain ⟨z23, k24, lz23, uz23⟩ := hH9.ld (c := 1) (i := 6) (A := 0) (B := 4) (bs_19_4 _ _ (by omega) (by omega))
   refine jx_geti c1 hm rfl sh_1 rfl k24 ?_
   refine jz_eq c1 hm 61 rfl rfl (fun h25 => ?_) (fun h25 => ?_)
   ·
    refine jx_load c1 hm rfl rfl rfl rfl ?_
    refine jx_geti c1 hm rfl sh_1 rfl k20 ?_
    refine jz_ne c1 hm 72 rfl rfl (fun h26 => ?_) (fun h26 => ?_)
    ·
     exfalso; omega
    refine jy_ic c1 hm rfl (by decide) ?_
    refine jx_goto c1 hm 73 rfl rfl ?_
    exact jx_retz c2 hm rfl rfl ⟨by omega, by omega⟩ ⟨_, rfl, hH9, hF9, by omega, by omega, (fun t σ hσ => RBc.fin (hrb t σ hσ) (by omega) (by omega) (by omega))⟩
   refine jx_load c1 hm rfl rfl rfl rfl ?_
   refine jx_load c1 hm rfl rfl rfl rfl ?_
   refine jx_load c1 hm rfl rfl rfl rfl ?_
   refine jv_i c3 hm rfl pj_X1_readLine rfl rfl ⟨_, _, _, rfl, sh_133⟩ rfl ((ct_X1_readLine_133_1_5y X (by omega) M9 hH9 ).le (by decide)) (fun z27 M32 ⟨hH32, hR32, lz27, uz27, p28, p29, p30, p31⟩ => ?_)
   have hF32 := hF9.tr hR32 (by decide +kernel)
   have k33 : M32.1 133 1 = b10 := (hR32 133 1 (by decide +kernel)).trans k11
   refine jz_eq c1 hm 55 rfl rfl (fun h34 => ?_) (fun h34 => ?_)
   ·
    refine jx_iinc c1 hm (v := (b8 + 1)) (L' := [some (.inr (.inr (.inl 133))), some (.inr (.inr (.inl 1))), some (.inr (.inr (.inl 5))), some (.inl (b8 + 1))]) rfl rfl (by omega) (by omega) rfl ?_
    refine jx_goto c1 hm 7 rfl rfl ?_
    exact ihW13 (b8 + 1) (by omega) M32 hH32 hF32 b10 (by omega) k33 (fun t σ hσ => RBc.no (hrb t σ hσ) (by omega) (by omega) ⟨by omega, by omega⟩ (fun σ1 hσ1 => LT.sz (p29 t σ1 hσ1) (by omega) rfl)) (by omega)
   refine jx_load c1 hm rfl rfl rfl rfl ?_
   refine jy_bp c1 hm rfl (by decide) ?_
   refine jv_i c3 hm rfl pj_X10_takesSign rfl rfl ⟨_, _, _, rfl, sh_1⟩ rfl ((ct_X10_takesSign_1q X (by omega) M32 hH32 59 ⟨by omega, by omega⟩).le (by decide)) (fun z35 M39 ⟨hH39, hR39, lz35, uz35, p36, p37, p38⟩ => ?_)
   have hF39 := hF32.tr hR39 (by decide +kernel)
   refine jz_eq c1 hm 55 rfl rfl (fun h40 => ?_) (fun h40 => ?_)
   ·
    refine jx_iinc c1 hm (v := (b8 + 1)) (L' := [some (.inr (.inr (.inl 133))), some (.inr (.inr (.inl 1))), some (.inr (.inr (.inl 5))), some (.inl (b8 + 1))]) rfl rfl (by omega) (by omega) rfl ?_
    refine jx_goto c1 hm 7 rfl rfl ?_
    have k43 : M39.1 133 1 = b10 := (hR39 133 1 (by decide +kernel)).trans k33
    exact ihW13 (b8 + 1) (by omega) M39 hH39 hF39 b10 (by omega) k43 (fun t σ hσ => RBc.no (hrb t σ hσ) (by omega) (by omega) ⟨by omega, by omega⟩ (fun σ1 hσ1 => LT.sq (p29 t σ1 hσ1) (by omega) (fun σ2 n2 hσ2 => (p38 t σ2 n2 hσ2).vc (by omega)))) (by omega)
   refine jx_load c1 hm rfl rfl rfl rfl ?_
   refine jx_dup c1 hm rfl rfl ?_
   have k41 : M39.1 133 1 = b10 := (hR39 133 1 (by decide +kernel)).trans k33
   refine jx_geti c1 hm rfl sh_133 rfl k41 ?_
   refine jy_ic c1 hm rfl (by decide) ?_
   refine jy_add c1 hm (b10 + 1) rfl (by omega) ?_
   obtain ⟨M42, e42, hH42, hF42, k42, n42, q42⟩ := mup hH39 hF39 (c := 133) (i := 1) (v := (b10 + 1)) (A := 0) (B := 40) (bs_27_1 _ _ (by omega) (by omega)) ⟨by omega, by omega⟩ (jin_of 8 rfl ⟨by omega, by omega⟩)
   refine jm_puti c1 hm rfl sh_133 rfl e42 ?_
   refine jx_iinc c1 hm (v := (b8 + 1)) (L' := [some (.inr (.inr (.inl 133))), some (.inr (.inr (.inl 1))), some (.inr (.inr (.inl 5))), some (.inl (b8 + 1))]) rfl rfl (by omega) (by omega) rfl ?_
   refine jx_goto c1 hm 7 rfl rfl ?_
   exact ihW13 (b8 + 1) (by omega) M42 hH42 hF42 (b10 + 1) (by omega) k42 (fun t σ hσ => RBc.go (hrb t σ hσ) (by omega) (by omega) ⟨by omega, by omega⟩ (fun σ1 hσ1 => LT.sq (p29 t σ1 hσ1) (by omega) (fun σ2 n2 hσ2 => (p38 t σ2 n2 hσ2))) (by omega) (fun σ hσ => (CQ.cg hσ (fun j => (n42 2 j (fun h => absurd h.1 (by decide)))) (fun i hi => (n42 1 i (fun h => absurd h.1 (by decide)))) ((q42 1 8)) (fun j => (n42 6 j (fun h => absurd h.1 (by decide)))) (fun k => (q42 7 k)))) (by omega) (by omega)) (by omega)
 exact W13 (41 + 1 : Int).toNat 0 (by omega) M7 hH7 hF7 0 (by omega) k7 (fun t σ hσ => RBc.start (CQ.cg hσ (fun j => (n7 2 j (fun h => absurd h.1 (by decide)))) (fun i hi => (n7 1 i (fun h => absurd h.1 (by decide)))) ((q7 1 8)) (fun j => (n7 6 j (fun h => absurd h.1 (by decide)))) (fun k => (q7 7 k))) (by omega)) (by omega)
def md_X11_book_0y : List (Nat × (Nat × Nat)) := [(0, (2, 2)), (0, (3, 3)), (1, (2, 2)), (1, (3, 3)), (1, (4, 4)), (1, (5, 5)), (1, (6, 6)), (1, (7, 7)), (1, (9, 9)), (1, (11, 11)), (1, (12, 12)), (1, (13, 13)), (12, (7, 7)), (13, (0, 5)), (14, (0, 5)), (15, (0, 5)), (16, (0, 5)), (17, (0, 35)), (18, (0, 35)), (19, (0, 35)), (23, (1, 1)), (24, (0, 5)), (47, (7, 7)), (48, (0, 5)), (49, (0, 5)), (50, (0, 5)), (51, (0, 5)), (52, (0, 35)), (53, (0, 35)), (54, (0, 35)), (55, (1, 1)), (55, (2, 2)), (57, (7, 7)), (58, (0, 5)), (59, (0, 5)), (60, (0, 5)), (61, (0, 5)), (62, (0, 35)), (63, (0, 35)), (64, (0, 35)), (65, (7, 7)), (66, (0, 5)), (67, (0, 5)), (68, (0, 5)), (69, (0, 5)), (70, (0, 35)), (71, (0, 35)), (72, (0, 35)), (73, (7, 7)), (74, (0, 5)), (75, (0, 5)), (76, (0, 5)), (77, (0, 5)), (78, (0, 35)), (79, (0, 35)), (80, (0, 35)), (81, (7, 7)), (82, (0, 5)), (83, (0, 5)), (84, (0, 5)), (85, (0, 5)), (86, (0, 35)), (87, (0, 35)), (88, (0, 35)), (89, (7, 7)), (90, (0, 5)), (91, (0, 5)), (92, (0, 5)), (93, (0, 5)), (94, (0, 35)), (95, (0, 35)), (96, (0, 35)), (97, (7, 7)), (98, (0, 5)), (99, (0, 5)), (100, (0, 5)), (101, (0, 5)), (102, (0, 35)), (103, (0, 35)), (104, (0, 35)), (105, (7, 7)), (106, (0, 5)), (107, (0, 5)), (108, (0, 5)), (109, (0, 5)), (110, (0, 35)), (111, (0, 35)), (112, (0, 35)), (113, (7, 7)), (114, (0, 5)), (115, (0, 5)), (116, (0, 5)), (117, (0, 5)), (118, (0, 35)), (119, (0, 35)), (120, (0, 35)), (133, (1, 1)), (133, (3, 3)), (134, (0, 156)), (134, (1, 157)), (134, (2, 158)), (134, (3, 159)), (135, (0, 3))]
theorem ct_X11_book_0y (X : Int) (hX : 0 ≤ X ∧ X ≤ 99999960) (M0 : JM) (hH0 : HI X M0) (a0 : Int) (ha0 : (-2147483648) ≤ a0 ∧ a0 ≤ 2147483647) : JOk shp PJ 12 25 [.inr (.inr (.inl 0)), .inl a0] M0 (jRi (fun v M' => HI (X + 40) M' ∧ Fr md_X11_book_0y M0 M' ∧ (-1000) ≤ v ∧ v ≤ 40 ∧ (a0 = 0 ∨ a0 = 1 → ∀ σ : PSt, HC M0 5 σ → PIn σ → M'.1 0 3 = bkS (uC M0) (M0.1 0 2) σ) ∧ (a0 < 0 ∨ 1 < a0 → M'.1 0 3 = M0.1 0 3) ∧ (a0 = 0 ∨ a0 = 1 → M'.1 0 2 = 0) ∧ (a0 < 0 ∨ 1 < a0 → M'.1 0 2 = M0.1 0 2))) := by
 refine ⟨jr_X11_book, pj_X11_book, fun F c1 c2 c3 => ?_⟩
 have hm := pj_X11_book
 change F 0 [some (.inr (.inr (.inl 0))), some (.inl a0), none] [] M0
 have hF0 : Fr md_X11_book_0y M0 M0 := Fr.rf _ _
 obtain ⟨z1, k2, lz1, uz1⟩ := hH0.ld (c := 0) (i := 2) (A := 0) (B := 940) (bs_18_1 _ _ (by omega) (by omega))
 obtain ⟨z3, k4, lz3, uz3⟩ := hH0.ld (c := 0) (i := 3) (A := (-2147483648)) (B := 2147483647) (bs_18_2 _ _ (by omega) (by omega))
 refine jx_load c1 hm rfl rfl rfl rfl ?_
 refine jz_eq c1 hm 13 rfl rfl (fun h5 => ?_) (fun h5 => ?_)
 ·
  refine jx_load c1 hm rfl rfl rfl rfl ?_
  refine jy_sp c1 hm rfl (by decide) ?_
  refine jv_v c3 hm rfl pj_X11_startTokens rfl rfl ⟨_, _, _, rfl, sh_0⟩ rfl (((ct_X11_startTokens_0p X (by omega) M0 hH0 400 ⟨by omega, by omega⟩).lkv (by decide +kernel) rfl).le (by decide)) (fun M8 ⟨⟨hH8, hR8, p6, p7⟩, hL8⟩ => ?_)
  have hF8 := hF0.tr hR8 (by decide +kernel)
  obtain ⟨z9, k10, lz9, uz9⟩ := hH8.ld (c := 1) (i := 12) (A := 0) (B := 4) (bs_19_8 _ _ (by omega) (by omega))
  obtain ⟨z11, k12, lz11, uz11⟩ := hH8.ld (c := 0) (i := 2) (A := 0) (B := 940) (bs_18_1 _ _ (by omega) (by omega))
  refine jx_load c1 hm rfl rfl rfl rfl ?_
  refine jx_getr c1 hm rfl sh_0 rfl ?_
  refine jx_load c1 hm rfl rfl rfl rfl ?_
  refine jx_getr c1 hm rfl sh_0 rfl ?_
  refine jx_load c1 hm rfl rfl rfl rfl ?_
  refine jx_getr c1 hm rfl sh_0 rfl ?_
  refine jv_i c3 hm rfl pj_X1_readLines rfl rfl ⟨_, _, _, rfl, sh_133⟩ rfl (((ct_X1_readLines_133_1_5y X (by omega) M8 hH8 ).lki (by decide +kernel) rfl).le (by decide)) (fun z13 M15 ⟨⟨hH15, hR15, lz13, uz13, p14⟩, hL15⟩ => ?_)
  have hF15 := hF8.tr hR15 (by decide +kernel)
  obtain ⟨z16, k17, lz16, uz16⟩ := hH15.ld (c := 1) (i := 12) (A := 0) (B := 4) (bs_19_8 _ _ (by omega) (by omega))
  refine jx_stor c1 hm (L' := [some (.inr (.inr (.inl 0))), some (.inl a0), some (.inl z13)]) rfl rfl rfl rfl rfl ?_
  refine jx_load c1 hm rfl rfl rfl rfl ?_
  refine jx_load c1 hm rfl rfl rfl rfl ?_
  refine jx_getr c1 hm rfl sh_0 rfl ?_
  refine jx_geti c1 hm rfl sh_1 rfl k17 ?_
  obtain ⟨M18, e18, hH18, hF18, k18, n18, q18⟩ := mup hH15 hF15 (c := 0) (i := 3) (v := z16) (A := (-2147483648)) (B := 2147483647) (bs_18_2 _ _ (by omega) (by omega)) ⟨by omega, by omega⟩ (jin_of 1 rfl ⟨by omega, by omega⟩)
  refine jm_puti c1 hm rfl sh_0 rfl e18 ?_
  refine jx_load c1 hm rfl rfl rfl rfl ?_
  refine jz_ne c1 hm 62 rfl rfl (fun h19 => ?_) (fun h19 => ?_)
  ·
   refine jx_load c1 hm rfl rfl rfl rfl ?_
   refine jy_ic c1 hm rfl (by decide) ?_
   refine jc_ne c1 hm 100 rfl rfl (fun h20 => ?_) (fun h20 => ?_)
   ·
    refine jx_load c1 hm rfl rfl rfl rfl ?_
    refine jx_getr c1 hm rfl sh_0 rfl ?_
    refine jx_load c1 hm rfl rfl rfl rfl ?_
    refine jx_getr c1 hm rfl sh_0 rfl ?_
    refine jx_getr c1 hm rfl sh_5 rfl ?_
    refine jv_v c3 hm rfl pj_X8_takeAll rfl rfl ⟨_, _, _, rfl, sh_47⟩ rfl (((ct_X8_takeAll_47_12 X (by omega) M18 hH18 ).lkv (by decide +kernel) rfl).le (by decide)) (fun M21 ⟨⟨hH21, hR21⟩, hL21⟩ => ?_)
    have hF21 := hF18.tr hR21 (by decide +kernel)
    refine jx_load c1 hm rfl rfl rfl rfl ?_
    refine jx_getr c1 hm rfl sh_0 rfl ?_
    refine jx_load c1 hm rfl rfl rfl rfl ?_
    refine jx_getr c1 hm rfl sh_0 rfl ?_
    refine jx_load c1 hm rfl rfl rfl rfl ?_
    refine jx_getr c1 hm rfl sh_0 rfl ?_
    refine jv_i c3 hm rfl pj_X1_live rfl rfl ⟨_, _, _, rfl, sh_133⟩ rfl (((ct_X1_live_133_4_47 X (by omega) M21 hH21 ).lki (by decide +kernel) rfl).le (by decide)) (fun z22 M23 ⟨⟨hH23, hR23, lz22, uz22⟩, hL23⟩ => ?_)
    have hF23 := hF21.tr hR23 (by decide +kernel)
    have k24 : M23.1 0 2 = z11 := (hR23 0 2 (by decide +kernel)).trans ((hR21 0 2 (by decide +kernel)).trans ((n18 0 2 (by decide)).trans ((hR15 0 2 (by decide +kernel)).trans k12)))
    have k25 : M23.1 0 3 = z16 := (hR23 0 3 (by decide +kernel)).trans ((hR21 0 3 (by decide +kernel)).trans k18)
    exact jx_reti c2 hm rfl rfl ⟨_, rfl, hH23, hF23, by omega, by omega, (fun _ σ hσ hp9 => by have y9 := p14 _ _ (CQ.zero4 p6.1 p6.2 ⟨by omega, by omega⟩ hσ hp9 (fun j => hR8 6 j rfl) (fun k => hL8 7 k (by decide +kernel))); show _ = (allB (uC M0, (M0.1 0 2, 400)) 1000 ((0, σ.2), 0)).1; omega), (by omega), (by omega), (by omega)⟩
   exfalso; omega
  refine jy_bp c1 hm rfl (by decide) ?_
  refine jx_load c1 hm rfl rfl rfl rfl ?_
  refine jx_getr c1 hm rfl sh_0 rfl ?_
  obtain ⟨z26, k27, lz26, uz26⟩ := hH18.ld (c := 1) (i := 13) (A := 0) (B := 940) (bs_19_9 _ _ (by omega) (by omega))
  refine jx_geti c1 hm rfl sh_1 rfl k27 ?_
  refine jy_sub c1 hm (-z26 - 2) rfl (by omega) ?_
  have k28 : M18.1 0 2 = z11 := (n18 0 2 (by decide)).trans ((hR15 0 2 (by decide +kernel)).trans k12)
  exact jx_reti c2 hm rfl rfl ⟨_, rfl, (hH18.mono (by omega) (by omega)), hF18, by omega, by omega, (fun _ σ hσ hp9 => by have y9 := p14 _ _ (CQ.zero4 p6.1 p6.2 ⟨by omega, by omega⟩ hσ hp9 (fun j => hR8 6 j rfl) (fun k => hL8 7 k (by decide +kernel))); show _ = (allB (uC M0, (M0.1 0 2, 400)) 1000 ((0, σ.2), 0)).1; omega), (by omega), (by omega), (by omega)⟩
 refine jx_load c1 hm rfl rfl rfl rfl ?_
 refine jy_ic c1 hm rfl (by decide) ?_
 refine jc_eq c1 hm 13 rfl rfl (fun h29 => ?_) (fun h29 => ?_)
 ·
  refine jx_load c1 hm rfl rfl rfl rfl ?_
  refine jy_sp c1 hm rfl (by decide) ?_
  refine jv_v c3 hm rfl pj_X11_startTokens rfl rfl ⟨_, _, _, rfl, sh_0⟩ rfl (((ct_X11_startTokens_0p X (by omega) M0 hH0 400 ⟨by omega, by omega⟩).lkv (by decide +kernel) rfl).le (by decide)) (fun M32 ⟨⟨hH32, hR32, p30, p31⟩, hL32⟩ => ?_)
  have hF32 := hF0.tr hR32 (by decide +kernel)
  obtain ⟨z33, k34, lz33, uz33⟩ := hH32.ld (c := 1) (i := 12) (A := 0) (B := 4) (bs_19_8 _ _ (by omega) (by omega))
  obtain ⟨z35, k36, lz35, uz35⟩ := hH32.ld (c := 0) (i := 2) (A := 0) (B := 940) (bs_18_1 _ _ (by omega) (by omega))
  refine jx_load c1 hm rfl rfl rfl rfl ?_
  refine jx_getr c1 hm rfl sh_0 rfl ?_
  refine jx_load c1 hm rfl rfl rfl rfl ?_
  refine jx_getr c1 hm rfl sh_0 rfl ?_
  refine jx_load c1 hm rfl rfl rfl rfl ?_
  refine jx_getr c1 hm rfl sh_0 rfl ?_
  refine jv_i c3 hm rfl pj_X1_readLines rfl rfl ⟨_, _, _, rfl, sh_133⟩ rfl (((ct_X1_readLines_133_1_5y X (by omega) M32 hH32 ).lki (by decide +kernel) rfl).le (by decide)) (fun z37 M39 ⟨⟨hH39, hR39, lz37, uz37, p38⟩, hL39⟩ => ?_)
  have hF39 := hF32.tr hR39 (by decide +kernel)
  obtain ⟨z40, k41, lz40, uz40⟩ := hH39.ld (c := 1) (i := 12) (A := 0) (B := 4) (bs_19_8 _ _ (by omega) (by omega))
  refine jx_stor c1 hm (L' := [some (.inr (.inr (.inl 0))), some (.inl a0), some (.inl z37)]) rfl rfl rfl rfl rfl ?_
  refine jx_load c1 hm rfl rfl rfl rfl ?_
  refine jx_load c1 hm rfl rfl rfl rfl ?_
  refine jx_getr c1 hm rfl sh_0 rfl ?_
  refine jx_geti c1 hm rfl sh_1 rfl k41 ?_
  obtain ⟨M42, e42, hH42, hF42, k42, n42, q42⟩ := mup hH39 hF39 (c := 0) (i := 3) (v := z40) (A := (-2147483648)) (B := 2147483647) (bs_18_2 _ _ (by omega) (by omega)) ⟨by omega, by omega⟩ (jin_of 1 rfl ⟨by omega, by omega⟩)
  refine jm_puti c1 hm rfl sh_0 rfl e42 ?_
  refine jx_load c1 hm rfl rfl rfl rfl ?_
  refine jz_ne c1 hm 62 rfl rfl (fun h43 => ?_) (fun h43 => ?_)
  ·
   refine jx_load c1 hm rfl rfl rfl rfl ?_
   refine jy_ic c1 hm rfl (by decide) ?_
   refine jc_ne c1 hm 100 rfl rfl (fun h44 => ?_) (fun h44 => ?_)
   ·
    exfalso; omega
   refine jx_load c1 hm rfl rfl rfl rfl ?_
   refine jx_getr c1 hm rfl sh_0 rfl ?_
   refine jx_load c1 hm rfl rfl rfl rfl ?_
   refine jx_getr c1 hm rfl sh_0 rfl ?_
   refine jx_getr c1 hm rfl sh_5 rfl ?_
   refine jv_v c3 hm rfl pj_X4_keep rfl rfl ⟨_, _, _, rfl, sh_55⟩ rfl (((ct_X4_keep_55_12 X (by omega) M42 hH42 ).lkv (by decide +kernel) rfl).le (by decide)) (fun M45 ⟨⟨hH45, hR45⟩, hL45⟩ => ?_)
   have hF45 := hF42.tr hR45 (by decide +kernel)
   refine jx_load c1 hm rfl rfl rfl rfl ?_
   refine jx_getr c1 hm rfl sh_0 rfl ?_
   refine jx_load c1 hm rfl rfl rfl rfl ?_
   refine jx_getr c1 hm rfl sh_0 rfl ?_
   refine jx_load c1 hm rfl rfl rfl rfl ?_
   refine jx_getr c1 hm rfl sh_0 rfl ?_
   refine jx_getr c1 hm rfl sh_5 rfl ?_
   refine jv_i c3 hm rfl pj_X1_live rfl rfl ⟨_, _, _, rfl, sh_133⟩ rfl (((ct_X1_live_133_4_12 X (by omega) M45 hH45 ).lki (by decide +kernel) rfl).le (by decide)) (fun z46 M47 ⟨⟨hH47, hR47, lz46, uz46⟩, hL47⟩ => ?_)
   have hF47 := hF45.tr hR47 (by decide +kernel)
   have k48 : M47.1 0 2 = z35 := (hR47 0 2 (by decide +kernel)).trans ((hR45 0 2 (by decide +kernel)).trans ((n42 0 2 (by decide)).trans ((hR39 0 2 (by decide +kernel)).trans k36)))
   have k49 : M47.1 0 3 = z40 := (hR47 0 3 (by decide +kernel)).trans ((hR45 0 3 (by decide +kernel)).trans k42)
   exact jx_reti c2 hm rfl rfl ⟨_, rfl, hH47, hF47, by omega, by omega, (fun _ σ hσ hp9 => by have y9 := p38 _ _ (CQ.zero4 p30.1 p30.2 ⟨by omega, by omega⟩ hσ hp9 (fun j => hR32 6 j rfl) (fun k => hL32 7 k (by decide +kernel))); show _ = (allB (uC M0, (M0.1 0 2, 400)) 1000 ((0, σ.2), 0)).1; omega), (by omega), (by omega), (by omega)⟩
  refine jy_bp c1 hm rfl (by decide) ?_
  refine jx_load c1 hm rfl rfl rfl rfl ?_
  refine jx_getr c1 hm rfl sh_0 rfl ?_
  obtain ⟨z50, k51, lz50, uz50⟩ := hH42.ld (c := 1) (i := 13) (A := 0) (B := 940) (bs_19_9 _ _ (by omega) (by omega))
  refine jx_geti c1 hm rfl sh_1 rfl k51 ?_
  refine jy_sub c1 hm (-z50 - 2) rfl (by omega) ?_
  have k52 : M42.1 0 2 = z35 := (n42 0 2 (by decide)).trans ((hR39 0 2 (by decide +kernel)).trans k36)
  exact jx_reti c2 hm rfl rfl ⟨_, rfl, (hH42.mono (by omega) (by omega)), hF42, by omega, by omega, (fun _ σ hσ hp9 => by have y9 := p38 _ _ (CQ.zero4 p30.1 p30.2 ⟨by omega, by omega⟩ hσ hp9 (fun j => hR32 6 j rfl) (fun k => hL32 7 k (by decide +kernel))); show _ = (allB (uC M0, (M0.1 0 2, 400)) 1000 ((0, σ.2), 0)).1; omega), (by omega), (by omega), (by omega)⟩
 refine jy_sp c1 hm rfl (by decide) ?_
 exact jx_reti c2 hm rfl rfl ⟨_, rfl, (hH0.mono (by omega) (by omega)), hF0, by omega, by omega, (fun y => absurd y (by omega)), (by omega), (by omega), (by omega)⟩
