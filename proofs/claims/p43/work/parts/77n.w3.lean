/-! Contracts that tell the five numbers of a Duchy (by wip/q/wlk.py). -/
def md_X12_readNumber_173w : List (Nat × (Nat × Nat)) := [(173, (5, 5)), (173, (6, 6)), (173, (7, 7)), (173, (8, 8)), (173, (9, 9)), (173, (10, 10)), (173, (11, 11)), (173, (13, 13))]
theorem ct_X12_readNumber_173w (X : Int) (hX : 0 ≤ X ∧ X ≤ 100000000) (M0 : JM) (hH0 : HI X M0) (a0 : Int) (ha0 : 0 ≤ a0 ∧ a0 ≤ 1) (a1 : Int) (ha1 : 0 ≤ a1 ∧ a1 ≤ 999) : JOk shp PJ 3 167 [.inr (.inr (.inl 173)), .inl a0, .inl a1] M0 (jRi (fun v M' => HI X M' ∧ Fr md_X12_readNumber_173w M0 M' ∧ 0 ≤ v ∧ v ≤ 1 ∧ (v = 1 → a0 ≤ M'.1 173 13 ∧ M'.1 173 13 ≤ a1) ∧ (∀ (t : TXT) (σ : PSt), RS M0 t σ → LRr t (numS t a0 a1 σ) v M') ∧ (LFr ml_X12_readNumber_173p M0 M') ∧ (∀ (t : TXT) (σ : PSt), RS M0 t σ → v = 1 → M'.1 173 13 = kV t σ))) := by
 refine ⟨jr_X12_readNumber, pj_X12_readNumber, fun F c1 c2 c3 => ?_⟩
 have hm := pj_X12_readNumber
 change F 0 [some (.inr (.inr (.inl 173))), some (.inl a0), some (.inl a1)] [] M0
 have hF0 : Fr md_X12_readNumber_173w M0 M0 := Fr.rf _ _
 obtain ⟨z1, k2, lz1, uz1⟩ := hH0.ld (c := 173) (i := 7) (A := 0) (B := 4) (bs_28_4 _ _ (by omega) (by omega))
 obtain ⟨z3, k4, lz3, uz3⟩ := hH0.ld (c := 173) (i := 8) (A := (-2147483648)) (B := 2147483647) (bs_28_5 _ _ (by omega) (by omega))
 refine jx_load c1 hm rfl rfl rfl rfl ?_
 refine jx_geti c1 hm rfl sh_173 rfl k2 ?_
 refine jy_ic c1 hm rfl (by decide) ?_
 refine jc_eq c1 hm 14 rfl rfl (fun h5 => ?_) (fun h5 => ?_)
 ·
  refine jx_load c1 hm rfl rfl rfl rfl ?_
  refine jx_geti c1 hm rfl sh_173 rfl k4 ?_
  refine jx_load c1 hm rfl rfl rfl rfl ?_
  refine jx_load c1 hm rfl rfl rfl rfl ?_
  refine jt_i c3 hm rfl rfl pj_X12_isIn rfl rfl rfl ((ct_X12_isInp X (by omega) M0 hH0 z3 ⟨by omega, by omega⟩ a0 ⟨by omega, by omega⟩ a1 ⟨by omega, by omega⟩).le (by decide)) (fun z6 _ ⟨rfl, lz6, uz6, p7, p8⟩ => ?_)
  refine jz_ne c1 hm 32 rfl rfl (fun h9 => ?_) (fun h9 => ?_)
  ·
   refine jx_load c1 hm rfl rfl rfl rfl ?_
   refine jx_load c1 hm rfl rfl rfl rfl ?_
   refine jx_geti c1 hm rfl sh_173 rfl k4 ?_
   obtain ⟨M10, e10, hH10, hF10, k10, n10, q10⟩ := mup hH0 hF0 (c := 173) (i := 13) (v := z3) (A := (-2147483648)) (B := 2147483647) (bs_28_7 _ _ (by omega) (by omega)) ⟨by omega, by omega⟩ (jin_of 7 rfl ⟨by omega, by omega⟩)
   refine jm_puti c1 hm rfl sh_173 rfl e10 ?_
   refine jx_load c1 hm rfl rfl rfl rfl ?_
   obtain ⟨z11, k12, lz11, uz11⟩ := hH10.ld (c := 173) (i := 5) (A := 0) (B := 940) (bs_28_3 _ _ (by omega) (by omega))
   refine jv_v c3 hm rfl pj_X12_go rfl rfl ⟨_, _, _, rfl, sh_173⟩ rfl ((ct_X12_go_173p X (by omega) M10 hH10 ).le (by decide)) (fun M15 ⟨hH15, hR15, p13, p14⟩ => ?_)
   have hF15 := hF10.tr hR15 (by decide +kernel)
   refine jy_ic c1 hm rfl (by decide) ?_
   have k16 : M15.1 173 13 = z3 := (hR15 173 13 (by decide +kernel)).trans k10
   exact jx_retz c2 hm rfl rfl ⟨by omega, by omega⟩ ⟨_, rfl, hH15, hF15, by omega, by omega, (by omega), (fun t σ hσ => rnum_go hσ (by omega) ⟨by omega, by omega⟩ (RS.st hσ n10 q10 rfl) rfl p13 hR15 p14 (by decide +kernel)), (((LFr.rf _ _).eq q10).tr p14 (by decide +kernel)), (fun t σ hσ _ => by have y9 := hσ.num (hσ.kind.symm.trans (by omega)); have y8 : M15.1 173 13 = M10.1 173 13 := hR15 173 13 rfl; omega)⟩
  refine jx_load c1 hm rfl rfl rfl rfl ?_
  refine jy_ic c1 hm rfl (by decide) ?_
  obtain ⟨z17, k18, lz17, uz17⟩ := hH0.ld (c := 173) (i := 6) (A := 0) (B := 940) (bs_28_3 _ _ (by omega) (by omega))
  refine jv_i c3 hm rfl pj_X12_bad rfl rfl ⟨_, _, _, rfl, sh_173⟩ rfl ((ct_X12_bad_173p X (by omega) M0 hH0 2 ⟨by omega, by omega⟩).le (by decide)) (fun z19 M23 ⟨hH23, hR23, lz19, uz19, p20, p21, p22⟩ => ?_)
  have hF23 := hF0.tr hR23 (by decide +kernel)
  obtain ⟨z24, k25, lz24, uz24⟩ := hH23.ld (c := 173) (i := 11) (A := 0) (B := 940) (bs_28_6 _ _ (by omega) (by omega))
  obtain ⟨z26, k27, lz26, uz26⟩ := hH23.ld (c := 173) (i := 13) (A := (-2147483648)) (B := 2147483647) (bs_28_7 _ _ (by omega) (by omega))
  exact jx_retz c2 hm rfl rfl ⟨by omega, by omega⟩ ⟨_, rfl, hH23, hF23, by omega, by omega, (by omega), (fun t σ hσ => rnum_no hσ (by omega) (by omega) (by omega)), ((LFr.rf _ _).tr p22 (by decide +kernel)), (fun t σ hσ y => absurd y (by omega))⟩
 refine jx_load c1 hm rfl rfl rfl rfl ?_
 refine jy_ic c1 hm rfl (by decide) ?_
 obtain ⟨z28, k29, lz28, uz28⟩ := hH0.ld (c := 173) (i := 6) (A := 0) (B := 940) (bs_28_3 _ _ (by omega) (by omega))
 refine jv_i c3 hm rfl pj_X12_bad rfl rfl ⟨_, _, _, rfl, sh_173⟩ rfl ((ct_X12_bad_173p X (by omega) M0 hH0 1 ⟨by omega, by omega⟩).le (by decide)) (fun z30 M34 ⟨hH34, hR34, lz30, uz30, p31, p32, p33⟩ => ?_)
 have hF34 := hF0.tr hR34 (by decide +kernel)
 obtain ⟨z35, k36, lz35, uz35⟩ := hH34.ld (c := 173) (i := 11) (A := 0) (B := 940) (bs_28_6 _ _ (by omega) (by omega))
 obtain ⟨z37, k38, lz37, uz37⟩ := hH34.ld (c := 173) (i := 13) (A := (-2147483648)) (B := 2147483647) (bs_28_7 _ _ (by omega) (by omega))
 exact jx_retz c2 hm rfl rfl ⟨by omega, by omega⟩ ⟨_, rfl, hH34, hF34, by omega, by omega, (by omega), (fun t σ hσ => rnum_no hσ (by omega) (by omega) (by omega)), ((LFr.rf _ _).tr p33 (by decide +kernel)), (fun t σ hσ y => absurd y (by omega))⟩
def md_X12_readOwes_173w : List (Nat × (Nat × Nat)) := [(173, (5, 5)), (173, (6, 6)), (173, (7, 7)), (173, (8, 8)), (173, (9, 9)), (173, (10, 10)), (173, (11, 11)), (173, (13, 13)), (176, (3, 100))]
theorem ct_X12_readOwes_173w (X : Int) (hX : 0 ≤ X ∧ X ≤ 100000000) (M0 : JM) (hH0 : HI X M0)  : JOk shp PJ 5 170 [.inr (.inr (.inl 173))] M0 (jRi (fun v M' => HI X M' ∧ Fr md_X12_readOwes_173w M0 M' ∧ 0 ≤ v ∧ v ≤ 1 ∧ (∀ (t : TXT) (σ : PSt), RS M0 t σ → 2 ≤ kK t σ → LRr t (oweS t σ) v M') ∧ (LFr ml_X12_readOwes_173p M0 M') ∧ (M'.1 176 3 = M0.1 176 3 ∧ M'.1 176 4 = M0.1 176 4))) := by
 refine ⟨jr_X12_readOwes, pj_X12_readOwes, fun F c1 c2 c3 => ?_⟩
 have hm := pj_X12_readOwes
 change F 0 [some (.inr (.inr (.inl 173))), none, none] [] M0
 have hF0 : Fr md_X12_readOwes_173w M0 M0 := Fr.rf _ _
 obtain ⟨z1, k2, lz1, uz1⟩ := hH0.ld (c := 176) (i := 3) (A := 0) (B := 9) (bs_12_1 _ _ (by omega) (by omega))
 obtain ⟨z3, k4, lz3, uz3⟩ := hH0.ld (c := 176) (i := 4) (A := 0) (B := 9) (bs_12_1 _ _ (by omega) (by omega))
 refine jx_load c1 hm rfl rfl rfl rfl ?_
 obtain ⟨z5, k6, lz5, uz5⟩ := hH0.ld (c := 173) (i := 5) (A := 0) (B := 940) (bs_28_3 _ _ (by omega) (by omega))
 refine jv_v c3 hm rfl pj_X12_go rfl rfl ⟨_, _, _, rfl, sh_173⟩ rfl ((ct_X12_go_173p X (by omega) M0 hH0 ).le (by decide)) (fun M9 ⟨hH9, hR9, p7, p8⟩ => ?_)
 have hF9 := hF0.tr hR9 (by decide +kernel)
 refine jx_load c1 hm rfl rfl rfl rfl ?_
 refine jy_ic c1 hm rfl (by decide) ?_
 refine jx_load c1 hm rfl rfl rfl rfl ?_
 refine jx_getr c1 hm rfl sh_173 rfl ?_
 refine jy_ic c1 hm rfl (by decide) ?_
 obtain ⟨z10, k11, lz10, uz10⟩ := hH9.ld (c := 176) (i := 0) (A := 0) (B := 6) (bs_12_0 _ _ (by omega) (by omega))
 refine jx_iald c1 hm rfl sh_176 ⟨by omega, by omega⟩ k11 ?_
 skip
 refine jv_i c3 hm rfl pj_X12_isOne rfl rfl ⟨_, _, _, rfl, sh_173⟩ rfl ((ct_X12_isOne_173p X (by omega) M9 hH9 0 ⟨by omega, by omega⟩ z10 ⟨by omega, by omega⟩).le (by decide)) (fun z12 M16 ⟨hH16, hR16, lz12, uz12, p13, p14, p15⟩ => ?_)
 have hF16 := hF9.tr hR16 (by decide +kernel)
 obtain ⟨z17, k18, lz17, uz17⟩ := hH16.ld (c := 173) (i := 13) (A := (-2147483648)) (B := 2147483647) (bs_28_7 _ _ (by omega) (by omega))
 refine jz_ne c1 hm 20 rfl rfl (fun h19 => ?_) (fun h19 => ?_)
 ·
  refine jx_load c1 hm rfl rfl rfl rfl ?_
  refine jx_geti c1 hm rfl sh_173 rfl k18 ?_
  refine jx_stor c1 hm (L' := [some (.inr (.inr (.inl 173))), some (.inl z17), none]) rfl rfl rfl rfl rfl ?_
  refine jx_load c1 hm rfl rfl rfl rfl ?_
  obtain ⟨z20, k21, lz20, uz20⟩ := hH16.ld (c := 173) (i := 5) (A := 0) (B := 940) (bs_28_3 _ _ (by omega) (by omega))
  refine jv_v c3 hm rfl pj_X12_go rfl rfl ⟨_, _, _, rfl, sh_173⟩ rfl ((ct_X12_go_173p X (by omega) M16 hH16 ).le (by decide)) (fun M24 ⟨hH24, hR24, p22, p23⟩ => ?_)
  have hF24 := hF16.tr hR24 (by decide +kernel)
  refine jx_load c1 hm rfl rfl rfl rfl ?_
  refine jy_ic c1 hm rfl (by decide) ?_
  refine jx_load c1 hm rfl rfl rfl rfl ?_
  refine jx_getr c1 hm rfl sh_173 rfl ?_
  refine jy_ic c1 hm rfl (by decide) ?_
  have k25 : M24.1 176 0 = z10 := (hR24 176 0 (by decide +kernel)).trans ((hR16 176 0 (by decide +kernel)).trans k11)
  refine jx_iald c1 hm rfl sh_176 ⟨by omega, by omega⟩ k25 ?_
  skip
  refine jv_i c3 hm rfl pj_X12_isOne rfl rfl ⟨_, _, _, rfl, sh_173⟩ rfl ((ct_X12_isOne_173p X (by omega) M24 hH24 0 ⟨by omega, by omega⟩ z10 ⟨by omega, by omega⟩).le (by decide)) (fun z26 M30 ⟨hH30, hR30, lz26, uz26, p27, p28, p29⟩ => ?_)
  have hF30 := hF24.tr hR30 (by decide +kernel)
  obtain ⟨z31, k32, lz31, uz31⟩ := hH30.ld (c := 173) (i := 13) (A := (-2147483648)) (B := 2147483647) (bs_28_7 _ _ (by omega) (by omega))
  refine jz_ne c1 hm 45 rfl rfl (fun h33 => ?_) (fun h33 => ?_)
  ·
   refine jy_bp c1 hm rfl (by decide) ?_
   refine jy_bp c1 hm rfl (by decide) ?_
   refine jx_load c1 hm rfl rfl rfl rfl ?_
   refine jy_mul c1 hm (6 * z17) rfl (by omega) ?_
   refine jy_add c1 hm (6 * z17 + 65) rfl (by omega) ?_
   refine jx_load c1 hm rfl rfl rfl rfl ?_
   refine jx_geti c1 hm rfl sh_173 rfl k32 ?_
   refine jy_add c1 hm (6 * z17 + z31 + 65) rfl (by omega) ?_
   skip
   refine jx_stor c1 hm (L' := [some (.inr (.inr (.inl 173))), some (.inl z17), some (.inl (6 * z17 + z31 + 65))]) rfl rfl rfl rfl rfl ?_
   refine jx_load c1 hm rfl rfl rfl rfl ?_
   refine jx_load c1 hm rfl rfl rfl rfl ?_
   refine jx_geti c1 hm rfl sh_173 rfl k32 ?_
   refine jc_eq c1 hm 75 rfl rfl (fun h34 => ?_) (fun h34 => ?_)
   ·
    refine jx_load c1 hm rfl rfl rfl rfl ?_
    refine jy_ic c1 hm rfl (by decide) ?_
    obtain ⟨z35, k36, lz35, uz35⟩ := hH30.ld (c := 173) (i := 6) (A := 0) (B := 940) (bs_28_3 _ _ (by omega) (by omega))
    refine jv_i c3 hm rfl pj_X12_bad rfl rfl ⟨_, _, _, rfl, sh_173⟩ rfl ((ct_X12_bad_173p X (by omega) M30 hH30 3 ⟨by omega, by omega⟩).le (by decide)) (fun z37 M41 ⟨hH41, hR41, lz37, uz37, p38, p39, p40⟩ => ?_)
    have hF41 := hF30.tr hR41 (by decide +kernel)
    obtain ⟨z42, k43, lz42, uz42⟩ := hH41.ld (c := 173) (i := 11) (A := 0) (B := 940) (bs_28_6 _ _ (by omega) (by omega))
    have k44 : M41.1 176 3 = z1 := (hR41 176 3 (by decide +kernel)).trans ((hR30 176 3 (by decide +kernel)).trans ((hR24 176 3 (by decide +kernel)).trans ((hR16 176 3 (by decide +kernel)).trans ((hR9 176 3 (by decide +kernel)).trans k2))))
    have k45 : M41.1 176 4 = z3 := (hR41 176 4 (by decide +kernel)).trans ((hR30 176 4 (by decide +kernel)).trans ((hR24 176 4 (by decide +kernel)).trans ((hR16 176 4 (by decide +kernel)).trans ((hR9 176 4 (by decide +kernel)).trans k4))))
    exact jx_retz c2 hm rfl rfl ⟨by omega, by omega⟩ ⟨_, rfl, hH41, hF41, by omega, by omega, (fun t σ hσ hk => LRr.eq (NMR.ok (p14 t _ _ 0 (by decide) (RS.next hσ hk p7 hR9 p8 (by decide +kernel)) (by decide) k11.symm) (by omega)).2.1 (LRr.eq (NMR.ok (p28 t _ _ 0 (by decide) (RS.next (NMR.ok (p14 t _ (fun _ y => okS y) 0 (by decide) (RS.next hσ hk p7 hR9 p8 (by decide +kernel)) (by decide) k11.symm) (by omega)).1 (NMR.ok (p14 t _ (fun _ y => okS y) 0 (by decide) (RS.next hσ hk p7 hR9 p8 (by decide +kernel)) (by decide) k11.symm) (by omega)).2.2.2.2 p22 hR24 p23 (by decide +kernel)) (by decide) k25.symm) (by omega)).2.1 (LRr.eq (if_pos (by have b1 := (NMR.ok (p14 t _ (fun _ y => okS y) 0 (by decide) (RS.next hσ hk p7 hR9 p8 (by decide +kernel)) (by decide) k11.symm) (by omega)).2.2; have b2 := (NMR.ok (p28 t _ (fun _ y => okS y) 0 (by decide) (RS.next (NMR.ok (p14 t _ (fun _ y => okS y) 0 (by decide) (RS.next hσ hk p7 hR9 p8 (by decide +kernel)) (by decide) k11.symm) (by omega)).1 (NMR.ok (p14 t _ (fun _ y => okS y) 0 (by decide) (RS.next hσ hk p7 hR9 p8 (by decide +kernel)) (by decide) k11.symm) (by omega)).2.2.2.2 p22 hR24 p23 (by decide +kernel)) (by decide) k25.symm) (by omega)).2.2; by_cases c9 : M16.1 173 13 = M30.1 173 13; exact Or.inl c9; have y9 := rfl_o (NMR.ok (p28 t _ (fun _ y => okS y) 0 (by decide) (RS.next (NMR.ok (p14 t _ (fun _ y => okS y) 0 (by decide) (RS.next hσ hk p7 hR9 p8 (by decide +kernel)) (by decide) k11.symm) (by omega)).1 (NMR.ok (p14 t _ (fun _ y => okS y) 0 (by decide) (RS.next hσ hk p7 hR9 p8 (by decide +kernel)) (by decide) k11.symm) (by omega)).2.2.2.2 p22 hR24 p23 (by decide +kernel)) (by decide) k25.symm) (by omega)).1 (x := 6 * M16.1 173 13 + M30.1 173 13) (y := (6 * z17 + z31 + 65)) (z := 36 + 6 * M16.1 173 13 + M30.1 173 13) ⟨by omega, by omega⟩ (by omega) (by omega); exact Or.inr (fun e => absurd (y9.2.mpr e) (by omega)))) (Or.inr ⟨tF_nn (NMR.ok (p28 t _ (fun _ y => okS y) 0 (by decide) (RS.next (NMR.ok (p14 t _ (fun _ y => okS y) 0 (by decide) (RS.next hσ hk p7 hR9 p8 (by decide +kernel)) (by decide) k11.symm) (by omega)).1 (NMR.ok (p14 t _ (fun _ y => okS y) 0 (by decide) (RS.next hσ hk p7 hR9 p8 (by decide +kernel)) (by decide) k11.symm) (by omega)).2.2.2.2 p22 hR24 p23 (by decide +kernel)) (by decide) k25.symm) (by omega)).1.2.2, by omega, (show _ = kF t _ from (p39).trans (NMR.ok (p28 t _ (fun _ y => okS y) 0 (by decide) (RS.next (NMR.ok (p14 t _ (fun _ y => okS y) 0 (by decide) (RS.next hσ hk p7 hR9 p8 (by decide +kernel)) (by decide) k11.symm) (by omega)).1 (NMR.ok (p14 t _ (fun _ y => okS y) 0 (by decide) (RS.next hσ hk p7 hR9 p8 (by decide +kernel)) (by decide) k11.symm) (by omega)).2.2.2.2 p22 hR24 p23 (by decide +kernel)) (by decide) k25.symm) (by omega)).1.start)⟩)))), ((((((LFr.rf _ _).tr p8 (by decide +kernel)).tr p15 (by decide +kernel)).tr p23 (by decide +kernel)).tr p29 (by decide +kernel)).tr p40 (by decide +kernel)), ⟨(((((hR41 176 3 rfl).trans (hR30 176 3 rfl)).trans (hR24 176 3 rfl)).trans (hR16 176 3 rfl)).trans (hR9 176 3 rfl)), (((((hR41 176 4 rfl).trans (hR30 176 4 rfl)).trans (hR24 176 4 rfl)).trans (hR16 176 4 rfl)).trans (hR9 176 4 rfl))⟩⟩
   refine jx_load c1 hm rfl rfl rfl rfl ?_
   refine jx_getr c1 hm rfl sh_173 rfl ?_
   refine jx_load c1 hm rfl rfl rfl rfl ?_
   obtain ⟨z46, k47, lz46, uz46⟩ := hH30.ld (c := 176) (i := ((6 * z17 + z31 + 65)).toNat) (A := (-2147483648)) (B := 2147483647) (bs_12_7 _ _ (by omega))
   refine jx_iald c1 hm rfl sh_176 ⟨by omega, by omega⟩ k47 ?_
   refine jz_le c1 hm 81 rfl rfl (fun h48 => ?_) (fun h48 => ?_)
   ·
    refine jx_load c1 hm rfl rfl rfl rfl ?_
    obtain ⟨z49, k50, lz49, uz49⟩ := hH30.ld (c := 173) (i := 5) (A := 0) (B := 940) (bs_28_3 _ _ (by omega) (by omega))
    refine jv_v c3 hm rfl pj_X12_go rfl rfl ⟨_, _, _, rfl, sh_173⟩ rfl ((ct_X12_go_173p X (by omega) M30 hH30 ).le (by decide)) (fun M53 ⟨hH53, hR53, p51, p52⟩ => ?_)
    have hF53 := hF30.tr hR53 (by decide +kernel)
    refine jx_load c1 hm rfl rfl rfl rfl ?_
    refine jx_load c1 hm rfl rfl rfl rfl ?_
    refine jx_load c1 hm rfl rfl rfl rfl ?_
    refine jy_ic c1 hm rfl (by decide) ?_
    refine jy_bp c1 hm rfl (by decide) ?_
    refine jv_i c3 hm rfl pj_X12_readNumber rfl rfl ⟨_, _, _, rfl, sh_173⟩ rfl ((ct_X12_readNumber_173w X (by omega) M53 hH53 1 ⟨by omega, by omega⟩ 99 ⟨by omega, by omega⟩).le (by decide)) (fun z54 M59 ⟨hH59, hR59, lz54, uz54, p55, p56, p57, p58⟩ => ?_)
    have hF59 := hF53.tr hR59 (by decide +kernel)
    obtain ⟨z60, k61, lz60, uz60⟩ := hH59.ld (c := 173) (i := 13) (A := (-2147483648)) (B := 2147483647) (bs_28_7 _ _ (by omega) (by omega))
    refine jv_i c3 hm rfl pj_X12_put rfl rfl ⟨_, _, _, rfl, sh_173⟩ rfl ((ct_X12_put_173p X (by omega) M59 hH59 (6 * z17 + z31 + 65) ⟨by omega, by omega⟩ z54 ⟨by omega, by omega⟩ (by rw [show bnd X 176 ((6 * z17 + z31 + 65) : Int).toNat = ((-2147483648), 2147483647) from (bs_12_7 _ _ (by omega))]; dsimp only; omega)).le (by decide)) (fun z62 M67 ⟨hH67, hR67, lz62, uz62, p63, p64, p65, p66⟩ => ?_)
    have hF67 := hF59.tr hR67 (by decide +kernel)
    obtain ⟨z68, k69, lz68, uz68⟩ := hH67.ld (c := 176) (i := 3) (A := 0) (B := 9) (bs_12_1 _ _ (by omega) (by omega))
    obtain ⟨z70, k71, lz70, uz70⟩ := hH67.ld (c := 176) (i := 4) (A := 0) (B := 9) (bs_12_1 _ _ (by omega) (by omega))
    exact jx_retz c2 hm rfl rfl ⟨by omega, by omega⟩ ⟨_, rfl, hH67, hF67, by omega, by omega, (fun t σ hσ hk => LRr.eq (NMR.ok (p14 t _ _ 0 (by decide) (RS.next hσ hk p7 hR9 p8 (by decide +kernel)) (by decide) k11.symm) (by omega)).2.1 (LRr.eq (NMR.ok (p28 t _ _ 0 (by decide) (RS.next (NMR.ok (p14 t _ (fun _ y => okS y) 0 (by decide) (RS.next hσ hk p7 hR9 p8 (by decide +kernel)) (by decide) k11.symm) (by omega)).1 (NMR.ok (p14 t _ (fun _ y => okS y) 0 (by decide) (RS.next hσ hk p7 hR9 p8 (by decide +kernel)) (by decide) k11.symm) (by omega)).2.2.2.2 p22 hR24 p23 (by decide +kernel)) (by decide) k25.symm) (by omega)).2.1 (LRr.eq (if_neg (by have b1 := (NMR.ok (p14 t _ (fun _ y => okS y) 0 (by decide) (RS.next hσ hk p7 hR9 p8 (by decide +kernel)) (by decide) k11.symm) (by omega)).2.2; have b2 := (NMR.ok (p28 t _ (fun _ y => okS y) 0 (by decide) (RS.next (NMR.ok (p14 t _ (fun _ y => okS y) 0 (by decide) (RS.next hσ hk p7 hR9 p8 (by decide +kernel)) (by decide) k11.symm) (by omega)).1 (NMR.ok (p14 t _ (fun _ y => okS y) 0 (by decide) (RS.next hσ hk p7 hR9 p8 (by decide +kernel)) (by decide) k11.symm) (by omega)).2.2.2.2 p22 hR24 p23 (by decide +kernel)) (by decide) k25.symm) (by omega)).2.2; have y9 := rfl_o (NMR.ok (p28 t _ (fun _ y => okS y) 0 (by decide) (RS.next (NMR.ok (p14 t _ (fun _ y => okS y) 0 (by decide) (RS.next hσ hk p7 hR9 p8 (by decide +kernel)) (by decide) k11.symm) (by omega)).1 (NMR.ok (p14 t _ (fun _ y => okS y) 0 (by decide) (RS.next hσ hk p7 hR9 p8 (by decide +kernel)) (by decide) k11.symm) (by omega)).2.2.2.2 p22 hR24 p23 (by decide +kernel)) (by decide) k25.symm) (by omega)).1 (x := 6 * M16.1 173 13 + M30.1 173 13) (y := (6 * z17 + z31 + 65)) (z := 36 + 6 * M16.1 173 13 + M30.1 173 13) ⟨by omega, by omega⟩ (by omega) (by omega); intro e; rcases e with e | e; omega; exact e (y9.2.mp (by omega)))) (rset_fin (p56 t _ (RS.next (NMR.ok (p28 t _ (fun _ y => okS y) 0 (by decide) (RS.next (NMR.ok (p14 t _ (fun _ y => okS y) 0 (by decide) (RS.next hσ hk p7 hR9 p8 (by decide +kernel)) (by decide) k11.symm) (by omega)).1 (NMR.ok (p14 t _ (fun _ y => okS y) 0 (by decide) (RS.next hσ hk p7 hR9 p8 (by decide +kernel)) (by decide) k11.symm) (by omega)).2.2.2.2 p22 hR24 p23 (by decide +kernel)) (by decide) k25.symm) (by omega)).1 (NMR.ok (p28 t _ (fun _ y => okS y) 0 (by decide) (RS.next (NMR.ok (p14 t _ (fun _ y => okS y) 0 (by decide) (RS.next hσ hk p7 hR9 p8 (by decide +kernel)) (by decide) k11.symm) (by omega)).1 (NMR.ok (p14 t _ (fun _ y => okS y) 0 (by decide) (RS.next hσ hk p7 hR9 p8 (by decide +kernel)) (by decide) k11.symm) (by omega)).2.2.2.2 p22 hR24 p23 (by decide +kernel)) (by decide) k25.symm) (by omega)).2.2.2.2 p51 hR53 p52 (by decide +kernel))) p63 p64 (fun c i => p66 c i rfl) (fun y => by have b1 := (NMR.ok (p14 t _ (fun _ y => okS y) 0 (by decide) (RS.next hσ hk p7 hR9 p8 (by decide +kernel)) (by decide) k11.symm) (by omega)).2.2; have b2 := (NMR.ok (p28 t _ (fun _ y => okS y) 0 (by decide) (RS.next (NMR.ok (p14 t _ (fun _ y => okS y) 0 (by decide) (RS.next hσ hk p7 hR9 p8 (by decide +kernel)) (by decide) k11.symm) (by omega)).1 (NMR.ok (p14 t _ (fun _ y => okS y) 0 (by decide) (RS.next hσ hk p7 hR9 p8 (by decide +kernel)) (by decide) k11.symm) (by omega)).2.2.2.2 p22 hR24 p23 (by decide +kernel)) (by decide) k25.symm) (by omega)).2.2; exact Or.inr ⟨by omega, by omega, by omega, by omega⟩))))), ((((((((LFr.rf _ _).tr p8 (by decide +kernel)).tr p15 (by decide +kernel)).tr p23 (by decide +kernel)).tr p29 (by decide +kernel)).tr p52 (by decide +kernel)).tr p57 (by decide +kernel)).tr p66 (by decide +kernel)), ⟨(((((((p64 176 3 (fun e => absurd e.2 (by omega))).trans (hR59 176 3 rfl)).trans (hR53 176 3 rfl)).trans (hR30 176 3 rfl)).trans (hR24 176 3 rfl)).trans (hR16 176 3 rfl)).trans (hR9 176 3 rfl)), (((((((p64 176 4 (fun e => absurd e.2 (by omega))).trans (hR59 176 4 rfl)).trans (hR53 176 4 rfl)).trans (hR30 176 4 rfl)).trans (hR24 176 4 rfl)).trans (hR16 176 4 rfl)).trans (hR9 176 4 rfl))⟩⟩
   refine jx_load c1 hm rfl rfl rfl rfl ?_
   refine jy_ic c1 hm rfl (by decide) ?_
   obtain ⟨z72, k73, lz72, uz72⟩ := hH30.ld (c := 173) (i := 6) (A := 0) (B := 940) (bs_28_3 _ _ (by omega) (by omega))
   refine jv_i c3 hm rfl pj_X12_bad rfl rfl ⟨_, _, _, rfl, sh_173⟩ rfl ((ct_X12_bad_173p X (by omega) M30 hH30 3 ⟨by omega, by omega⟩).le (by decide)) (fun z74 M78 ⟨hH78, hR78, lz74, uz74, p75, p76, p77⟩ => ?_)
   have hF78 := hF30.tr hR78 (by decide +kernel)
   obtain ⟨z79, k80, lz79, uz79⟩ := hH78.ld (c := 173) (i := 11) (A := 0) (B := 940) (bs_28_6 _ _ (by omega) (by omega))
   have k81 : M78.1 176 3 = z1 := (hR78 176 3 (by decide +kernel)).trans ((hR30 176 3 (by decide +kernel)).trans ((hR24 176 3 (by decide +kernel)).trans ((hR16 176 3 (by decide +kernel)).trans ((hR9 176 3 (by decide +kernel)).trans k2))))
   have k82 : M78.1 176 4 = z3 := (hR78 176 4 (by decide +kernel)).trans ((hR30 176 4 (by decide +kernel)).trans ((hR24 176 4 (by decide +kernel)).trans ((hR16 176 4 (by decide +kernel)).trans ((hR9 176 4 (by decide +kernel)).trans k4))))
   exact jx_retz c2 hm rfl rfl ⟨by omega, by omega⟩ ⟨_, rfl, hH78, hF78, by omega, by omega, (fun t σ hσ hk => LRr.eq (NMR.ok (p14 t _ _ 0 (by decide) (RS.next hσ hk p7 hR9 p8 (by decide +kernel)) (by decide) k11.symm) (by omega)).2.1 (LRr.eq (NMR.ok (p28 t _ _ 0 (by decide) (RS.next (NMR.ok (p14 t _ (fun _ y => okS y) 0 (by decide) (RS.next hσ hk p7 hR9 p8 (by decide +kernel)) (by decide) k11.symm) (by omega)).1 (NMR.ok (p14 t _ (fun _ y => okS y) 0 (by decide) (RS.next hσ hk p7 hR9 p8 (by decide +kernel)) (by decide) k11.symm) (by omega)).2.2.2.2 p22 hR24 p23 (by decide +kernel)) (by decide) k25.symm) (by omega)).2.1 (LRr.eq (if_pos (by have b1 := (NMR.ok (p14 t _ (fun _ y => okS y) 0 (by decide) (RS.next hσ hk p7 hR9 p8 (by decide +kernel)) (by decide) k11.symm) (by omega)).2.2; have b2 := (NMR.ok (p28 t _ (fun _ y => okS y) 0 (by decide) (RS.next (NMR.ok (p14 t _ (fun _ y => okS y) 0 (by decide) (RS.next hσ hk p7 hR9 p8 (by decide +kernel)) (by decide) k11.symm) (by omega)).1 (NMR.ok (p14 t _ (fun _ y => okS y) 0 (by decide) (RS.next hσ hk p7 hR9 p8 (by decide +kernel)) (by decide) k11.symm) (by omega)).2.2.2.2 p22 hR24 p23 (by decide +kernel)) (by decide) k25.symm) (by omega)).2.2; by_cases c9 : M16.1 173 13 = M30.1 173 13; exact Or.inl c9; have y9 := rfl_o (NMR.ok (p28 t _ (fun _ y => okS y) 0 (by decide) (RS.next (NMR.ok (p14 t _ (fun _ y => okS y) 0 (by decide) (RS.next hσ hk p7 hR9 p8 (by decide +kernel)) (by decide) k11.symm) (by omega)).1 (NMR.ok (p14 t _ (fun _ y => okS y) 0 (by decide) (RS.next hσ hk p7 hR9 p8 (by decide +kernel)) (by decide) k11.symm) (by omega)).2.2.2.2 p22 hR24 p23 (by decide +kernel)) (by decide) k25.symm) (by omega)).1 (x := 6 * M16.1 173 13 + M30.1 173 13) (y := (6 * z17 + z31 + 65)) (z := 36 + 6 * M16.1 173 13 + M30.1 173 13) ⟨by omega, by omega⟩ (by omega) (by omega); exact Or.inr (fun e => absurd (y9.2.mpr e) (by omega)))) (Or.inr ⟨tF_nn (NMR.ok (p28 t _ (fun _ y => okS y) 0 (by decide) (RS.next (NMR.ok (p14 t _ (fun _ y => okS y) 0 (by decide) (RS.next hσ hk p7 hR9 p8 (by decide +kernel)) (by decide) k11.symm) (by omega)).1 (NMR.ok (p14 t _ (fun _ y => okS y) 0 (by decide) (RS.next hσ hk p7 hR9 p8 (by decide +kernel)) (by decide) k11.symm) (by omega)).2.2.2.2 p22 hR24 p23 (by decide +kernel)) (by decide) k25.symm) (by omega)).1.2.2, by omega, (show _ = kF t _ from (p76).trans (NMR.ok (p28 t _ (fun _ y => okS y) 0 (by decide) (RS.next (NMR.ok (p14 t _ (fun _ y => okS y) 0 (by decide) (RS.next hσ hk p7 hR9 p8 (by decide +kernel)) (by decide) k11.symm) (by omega)).1 (NMR.ok (p14 t _ (fun _ y => okS y) 0 (by decide) (RS.next hσ hk p7 hR9 p8 (by decide +kernel)) (by decide) k11.symm) (by omega)).2.2.2.2 p22 hR24 p23 (by decide +kernel)) (by decide) k25.symm) (by omega)).1.start)⟩)))), ((((((LFr.rf _ _).tr p8 (by decide +kernel)).tr p15 (by decide +kernel)).tr p23 (by decide +kernel)).tr p29 (by decide +kernel)).tr p77 (by decide +kernel)), ⟨(((((hR78 176 3 rfl).trans (hR30 176 3 rfl)).trans (hR24 176 3 rfl)).trans (hR16 176 3 rfl)).trans (hR9 176 3 rfl)), (((((hR78 176 4 rfl).trans (hR30 176 4 rfl)).trans (hR24 176 4 rfl)).trans (hR16 176 4 rfl)).trans (hR9 176 4 rfl))⟩⟩
  refine jy_ic c1 hm rfl (by decide) ?_
  have k83 : M30.1 176 3 = z1 := (hR30 176 3 (by decide +kernel)).trans ((hR24 176 3 (by decide +kernel)).trans ((hR16 176 3 (by decide +kernel)).trans ((hR9 176 3 (by decide +kernel)).trans k2)))
  have k84 : M30.1 176 4 = z3 := (hR30 176 4 (by decide +kernel)).trans ((hR24 176 4 (by decide +kernel)).trans ((hR16 176 4 (by decide +kernel)).trans ((hR9 176 4 (by decide +kernel)).trans k4)))
  exact jx_retz c2 hm rfl rfl ⟨by omega, by omega⟩ ⟨_, rfl, hH30, hF30, by omega, by omega, (fun t σ hσ hk => LRr.eq (NMR.ok (p14 t _ _ 0 (by decide) (RS.next hσ hk p7 hR9 p8 (by decide +kernel)) (by decide) k11.symm) (by omega)).2.1 (NMR.bad (p28 t _ _ 0 (by decide) (RS.next (NMR.ok (p14 t _ (fun _ y => okS y) 0 (by decide) (RS.next hσ hk p7 hR9 p8 (by decide +kernel)) (by decide) k11.symm) (by omega)).1 (NMR.ok (p14 t _ (fun _ y => okS y) 0 (by decide) (RS.next hσ hk p7 hR9 p8 (by decide +kernel)) (by decide) k11.symm) (by omega)).2.2.2.2 p22 hR24 p23 (by decide +kernel)) (by decide) k25.symm) (by omega))), (((((LFr.rf _ _).tr p8 (by decide +kernel)).tr p15 (by decide +kernel)).tr p23 (by decide +kernel)).tr p29 (by decide +kernel)), ⟨((((hR30 176 3 rfl).trans (hR24 176 3 rfl)).trans (hR16 176 3 rfl)).trans (hR9 176 3 rfl)), ((((hR30 176 4 rfl).trans (hR24 176 4 rfl)).trans (hR16 176 4 rfl)).trans (hR9 176 4 rfl))⟩⟩
 refine jy_ic c1 hm rfl (by decide) ?_
 have k85 : M16.1 176 3 = z1 := (hR16 176 3 (by decide +kernel)).trans ((hR9 176 3 (by decide +kernel)).trans k2)
 have k86 : M16.1 176 4 = z3 := (hR16 176 4 (by decide +kernel)).trans ((hR9 176 4 (by decide +kernel)).trans k4)
 exact jx_retz c2 hm rfl rfl ⟨by omega, by omega⟩ ⟨_, rfl, hH16, hF16, by omega, by omega, (fun t σ hσ hk => NMR.bad (p14 t _ _ 0 (by decide) (RS.next hσ hk p7 hR9 p8 (by decide +kernel)) (by decide) k11.symm) (by omega)), (((LFr.rf _ _).tr p8 (by decide +kernel)).tr p15 (by decide +kernel)), ⟨((hR16 176 3 rfl).trans (hR9 176 3 rfl)), ((hR16 176 4 rfl).trans (hR9 176 4 rfl))⟩⟩
def md_X12_readGood_173w : List (Nat × (Nat × Nat)) := [(173, (5, 5)), (173, (6, 6)), (173, (7, 7)), (173, (8, 8)), (173, (9, 9)), (173, (10, 10)), (173, (11, 11)), (173, (13, 13)), (176, (2, 2)), (176, (3, 100))]
theorem ct_X12_readGood_173w (X : Int) (hX : 0 ≤ X ∧ X ≤ 100000000) (M0 : JM) (hH0 : HI X M0)  : JOk shp PJ 5 160 [.inr (.inr (.inl 173))] M0 (jRi (fun v M' => HI X M' ∧ Fr md_X12_readGood_173w M0 M' ∧ 0 ≤ v ∧ v ≤ 1 ∧ (∀ (t : TXT) (σ : PSt), RS M0 t σ → 2 ≤ kK t σ → LRr t (gooS t σ) v M') ∧ (LFr ml_X12_readGood_173p M0 M') ∧ (M'.1 176 3 = M0.1 176 3 ∧ M'.1 176 4 = M0.1 176 4))) := by
 refine ⟨jr_X12_readGood, pj_X12_readGood, fun F c1 c2 c3 => ?_⟩
 have hm := pj_X12_readGood
 change F 0 [some (.inr (.inr (.inl 173))), none] [] M0
 have hF0 : Fr md_X12_readGood_173w M0 M0 := Fr.rf _ _
 obtain ⟨z1, k2, lz1, uz1⟩ := hH0.ld (c := 176) (i := 3) (A := 0) (B := 9) (bs_12_1 _ _ (by omega) (by omega))
 obtain ⟨z3, k4, lz3, uz3⟩ := hH0.ld (c := 176) (i := 4) (A := 0) (B := 9) (bs_12_1 _ _ (by omega) (by omega))
 refine jx_load c1 hm rfl rfl rfl rfl ?_
 refine jy_ic c1 hm rfl (by decide) ?_
 refine jy_bp c1 hm rfl (by decide) ?_
 obtain ⟨z5, k6, lz5, uz5⟩ := hH0.ld (c := 176) (i := 2) (A := 0) (B := 6) (bs_12_0 _ _ (by omega) (by omega))
 obtain ⟨z7, k8, lz7, uz7⟩ := hH0.ld (c := 176) (i := 0) (A := 0) (B := 6) (bs_12_0 _ _ (by omega) (by omega))
 obtain ⟨z9, k10, lz9, uz9⟩ := hH0.ld (c := 176) (i := 1) (A := 0) (B := 6) (bs_12_0 _ _ (by omega) (by omega))
 refine jv_i c3 hm rfl pj_X12_readFirst rfl rfl ⟨_, _, _, rfl, sh_173⟩ rfl ((ct_X12_readFirst_173p X (by omega) M0 hH0 2 ⟨by omega, by omega⟩ 6 ⟨by omega, by omega⟩).le (by decide)) (fun z11 M17 ⟨hH17, hR17, lz11, uz11, p12, p13, p14, p15, p16⟩ => ?_)
 have hF17 := hF0.tr hR17 (by decide +kernel)
 refine jz_ne c1 hm 12 rfl rfl (fun h18 => ?_) (fun h18 => ?_)
 ·
  refine jx_load c1 hm rfl rfl rfl rfl ?_
  refine jx_getr c1 hm rfl sh_173 rfl ?_
  refine jy_ic c1 hm rfl (by decide) ?_
  have k19 : M17.1 176 2 = z5 := (hR17 176 2 (by decide +kernel)).trans k6
  refine jx_iald c1 hm rfl sh_176 ⟨by omega, by omega⟩ k19 ?_
  refine jx_stor c1 hm (L' := [some (.inr (.inr (.inl 173))), some (.inl z5)]) rfl rfl rfl rfl rfl ?_
  refine jx_load c1 hm rfl rfl rfl rfl ?_
  refine jy_bp c1 hm rfl (by decide) ?_
  refine jx_load c1 hm rfl rfl rfl rfl ?_
  refine jy_add c1 hm (z5 + 12) rfl (by omega) ?_
  skip
  refine jv_i c3 hm rfl pj_X12_readNew rfl rfl ⟨_, _, _, rfl, sh_173⟩ rfl ((ct_X12_readNew_173p X (by omega) M17 hH17 (z5 + 12) ⟨by omega, by omega⟩).le (by decide)) (fun z20 M24 ⟨hH24, hR24, lz20, uz20, p21, p22, p23⟩ => ?_)
  have hF24 := hF17.tr hR24 (by decide +kernel)
  refine jz_eq c1 hm 66 rfl rfl (fun h25 => ?_) (fun h25 => ?_)
  ·
   refine jy_ic c1 hm rfl (by decide) ?_
   have k26 : M24.1 176 3 = z1 := (hR24 176 3 (by decide +kernel)).trans ((hR17 176 3 (by decide +kernel)).trans k2)
   have k27 : M24.1 176 4 = z3 := (hR24 176 4 (by decide +kernel)).trans ((hR17 176 4 (by decide +kernel)).trans k4)
   exact jx_retz c2 hm rfl rfl ⟨by omega, by omega⟩ ⟨_, rfl, hH24, hF24, by omega, by omega, (fun t σ hσ hk => LRr.seqg (p15 t σ hσ hk) (by omega) (fun l1 h1 => LRr.seqz (p21 t _ 2 (by decide) h1 (by rw [(fst_lt hσ.2.2 l1).1]; exact (fst_lt hσ.2.2 l1).2) (by have y9 := h1.2.1.1 2 (by decide); omega)) (by omega))), (((LFr.rf _ _).tr p16 (by decide +kernel)).tr p23 (by decide +kernel)), ⟨((hR24 176 3 rfl).trans (hR17 176 3 rfl)), ((hR24 176 4 rfl).trans (hR17 176 4 rfl))⟩⟩
  refine jx_load c1 hm rfl rfl rfl rfl ?_
  refine jy_bp c1 hm rfl (by decide) ?_
  refine jx_load c1 hm rfl rfl rfl rfl ?_
  refine jy_add c1 hm (z5 + 53) rfl (by omega) ?_
  refine jx_load c1 hm rfl rfl rfl rfl ?_
  refine jy_ic c1 hm rfl (by decide) ?_
  refine jy_bp c1 hm rfl (by decide) ?_
  refine jv_i c3 hm rfl pj_X12_readNumber rfl rfl ⟨_, _, _, rfl, sh_173⟩ rfl ((ct_X12_readNumber_173w X (by omega) M24 hH24 1 ⟨by omega, by omega⟩ 99 ⟨by omega, by omega⟩).le (by decide)) (fun z28 M33 ⟨hH33, hR33, lz28, uz28, p29, p30, p31, p32⟩ => ?_)
  have hF33 := hF24.tr hR33 (by decide +kernel)
  obtain ⟨z34, k35, lz34, uz34⟩ := hH33.ld (c := 173) (i := 13) (A := (-2147483648)) (B := 2147483647) (bs_28_7 _ _ (by omega) (by omega))
  refine jv_i c3 hm rfl pj_X12_put rfl rfl ⟨_, _, _, rfl, sh_173⟩ rfl ((ct_X12_put_173p X (by omega) M33 hH33 (z5 + 53) ⟨by omega, by omega⟩ z28 ⟨by omega, by omega⟩ (by rw [show bnd X 176 ((z5 + 53) : Int).toNat = (0, 99) from (bs_12_5 _ _ (by omega) (by omega))]; dsimp only; omega)).le (by decide)) (fun z36 M41 ⟨hH41, hR41, lz36, uz36, p37, p38, p39, p40⟩ => ?_)
  have hF41 := hF33.tr hR41 (by decide +kernel)
  refine jz_eq c1 hm 66 rfl rfl (fun h42 => ?_) (fun h42 => ?_)
  ·
   refine jy_ic c1 hm rfl (by decide) ?_
   obtain ⟨z43, k44, lz43, uz43⟩ := hH41.ld (c := 176) (i := 3) (A := 0) (B := 9) (bs_12_1 _ _ (by omega) (by omega))
   obtain ⟨z45, k46, lz45, uz45⟩ := hH41.ld (c := 176) (i := 4) (A := 0) (B := 9) (bs_12_1 _ _ (by omega) (by omega))
   exact jx_retz c2 hm rfl rfl ⟨by omega, by omega⟩ ⟨_, rfl, hH41, hF41, by omega, by omega, (fun t σ hσ hk => LRr.seqg (p15 t σ hσ hk) (by omega) (fun l1 h1 => LRr.seqg (p21 t _ 2 (by decide) h1 (by rw [(fst_lt hσ.2.2 l1).1]; exact (fst_lt hσ.2.2 l1).2) (by have y9 := h1.2.1.1 2 (by decide); omega)) (by omega) (fun l2 h2 => LRr.seqz (LRr.put (p30 t _ h2) p38 (fun c i => p40 c i rfl) (by omega) p37) (by omega)))), (((((LFr.rf _ _).tr p16 (by decide +kernel)).tr p23 (by decide +kernel)).tr p31 (by decide +kernel)).tr p40 (by decide +kernel)), ⟨((((p38 176 3 (fun e => absurd e.2 (by omega))).trans (hR33 176 3 rfl)).trans (hR24 176 3 rfl)).trans (hR17 176 3 rfl)), ((((p38 176 4 (fun e => absurd e.2 (by omega))).trans (hR33 176 4 rfl)).trans (hR24 176 4 rfl)).trans (hR17 176 4 rfl))⟩⟩
  refine jx_load c1 hm rfl rfl rfl rfl ?_
  refine jy_bp c1 hm rfl (by decide) ?_
  refine jx_load c1 hm rfl rfl rfl rfl ?_
  refine jy_add c1 hm (z5 + 59) rfl (by omega) ?_
  refine jx_load c1 hm rfl rfl rfl rfl ?_
  refine jy_ic c1 hm rfl (by decide) ?_
  refine jy_bp c1 hm rfl (by decide) ?_
  refine jv_i c3 hm rfl pj_X12_readNumber rfl rfl ⟨_, _, _, rfl, sh_173⟩ rfl ((ct_X12_readNumber_173w X (by omega) M41 hH41 0 ⟨by omega, by omega⟩ 20 ⟨by omega, by omega⟩).le (by decide)) (fun z47 M52 ⟨hH52, hR52, lz47, uz47, p48, p49, p50, p51⟩ => ?_)
  have hF52 := hF41.tr hR52 (by decide +kernel)
  obtain ⟨z53, k54, lz53, uz53⟩ := hH52.ld (c := 173) (i := 13) (A := (-2147483648)) (B := 2147483647) (bs_28_7 _ _ (by omega) (by omega))
  refine jv_i c3 hm rfl pj_X12_put rfl rfl ⟨_, _, _, rfl, sh_173⟩ rfl ((ct_X12_put_173p X (by omega) M52 hH52 (z5 + 59) ⟨by omega, by omega⟩ z47 ⟨by omega, by omega⟩ (by rw [show bnd X 176 ((z5 + 59) : Int).toNat = (0, 20) from (bs_12_6 _ _ (by omega) (by omega))]; dsimp only; omega)).le (by decide)) (fun z55 M60 ⟨hH60, hR60, lz55, uz55, p56, p57, p58, p59⟩ => ?_)
  have hF60 := hF52.tr hR60 (by decide +kernel)
  refine jz_ne c1 hm 68 rfl rfl (fun h61 => ?_) (fun h61 => ?_)
  ·
   refine jx_load c1 hm rfl rfl rfl rfl ?_
   refine jx_getr c1 hm rfl sh_173 rfl ?_
   refine jy_ic c1 hm rfl (by decide) ?_
   refine jx_dup2 c1 hm rfl rfl rfl ?_
   have k62 : M60.1 176 2 = z5 := (hR60 176 2 (by decide +kernel)).trans ((hR52 176 2 (by decide +kernel)).trans ((hR41 176 2 (by decide +kernel)).trans ((hR33 176 2 (by decide +kernel)).trans ((hR24 176 2 (by decide +kernel)).trans k19))))
   refine jx_iald c1 hm rfl sh_176 ⟨by omega, by omega⟩ k62 ?_
   refine jy_ic c1 hm rfl (by decide) ?_
   refine jy_add c1 hm (z5 + 1) rfl (by omega) ?_
   obtain ⟨M63, e63, hH63, hF63, k63, n63, q63⟩ := mup hH60 hF60 (c := 176) (i := 2) (v := (z5 + 1)) (A := 0) (B := 6) (bs_12_0 _ _ (by omega) (by omega)) ⟨by omega, by omega⟩ (jin_of 8 rfl ⟨by omega, by omega⟩)
   refine jm_iast c1 hm rfl sh_176 ⟨by omega, by omega⟩ e63 ?_
   refine jy_ic c1 hm rfl (by decide) ?_
   obtain ⟨z64, k65, lz64, uz64⟩ := hH63.ld (c := 176) (i := 3) (A := 0) (B := 9) (bs_12_1 _ _ (by omega) (by omega))
   obtain ⟨z66, k67, lz66, uz66⟩ := hH63.ld (c := 176) (i := 4) (A := 0) (B := 9) (bs_12_1 _ _ (by omega) (by omega))
   exact jx_retz c2 hm rfl rfl ⟨by omega, by omega⟩ ⟨_, rfl, hH63, hF63, by omega, by omega, (fun t σ hσ hk => LRr.seqg (p15 t σ hσ hk) (by omega) (fun l1 h1 => LRr.seqg (p21 t _ 2 (by decide) h1 (by rw [(fst_lt hσ.2.2 l1).1]; exact (fst_lt hσ.2.2 l1).2) (by have y9 := h1.2.1.1 2 (by decide); omega)) (by omega) (fun l2 h2 => LRr.seqg (LRr.put (p30 t _ h2) p38 (fun c i => p40 c i rfl) (by omega) p37) (by omega) (fun l3 h3 => LRr.seqg (LRr.put (p49 t _ h3) p57 (fun c i => p59 c i rfl) (by omega) p56) (by omega) (fun l4 h4 => LRr.o (radd_fin (s := 2) (j := (z5 + 12)) (by decide) h1 (by rw [(fst_lt hσ.2.2 l1).1]; exact (fst_lt hσ.2.2 l1).2) (p22 t _ h1 (by omega)).1 (p22 t _ h1 (by omega)).2.1 l2 ((num_e3 h3.2.2 l4).trans (num_e3 h2.2.2 l3)) h4 (by have y9 := h1.2.1.1 2 (by decide); omega) ((congrArg Int64.toInt ((((p59 181 ((z5 + 12)).toNat rfl).trans (p50 181 ((z5 + 12)).toNat rfl)).trans (p40 181 ((z5 + 12)).toNat rfl)).trans (p31 181 ((z5 + 12)).toNat rfl))).trans (p22 t _ h1 (by omega)).2.2) (by omega) n63 q63) (show (-1 : Int) < 0 by decide)))))), ((((((((LFr.rf _ _).tr p16 (by decide +kernel)).tr p23 (by decide +kernel)).tr p31 (by decide +kernel)).tr p40 (by decide +kernel)).tr p50 (by decide +kernel)).tr p59 (by decide +kernel)).eq q63), ⟨(((((((n63 176 3 (fun e => absurd e.2 (by omega))).trans (p57 176 3 (fun e => absurd e.2 (by omega)))).trans (hR52 176 3 rfl)).trans (p38 176 3 (fun e => absurd e.2 (by omega)))).trans (hR33 176 3 rfl)).trans (hR24 176 3 rfl)).trans (hR17 176 3 rfl)), (((((((n63 176 4 (fun e => absurd e.2 (by omega))).trans (p57 176 4 (fun e => absurd e.2 (by omega)))).trans (hR52 176 4 rfl)).trans (p38 176 4 (fun e => absurd e.2 (by omega)))).trans (hR33 176 4 rfl)).trans (hR24 176 4 rfl)).trans (hR17 176 4 rfl))⟩⟩
  refine jy_ic c1 hm rfl (by decide) ?_
  obtain ⟨z68, k69, lz68, uz68⟩ := hH60.ld (c := 176) (i := 3) (A := 0) (B := 9) (bs_12_1 _ _ (by omega) (by omega))
  obtain ⟨z70, k71, lz70, uz70⟩ := hH60.ld (c := 176) (i := 4) (A := 0) (B := 9) (bs_12_1 _ _ (by omega) (by omega))
  exact jx_retz c2 hm rfl rfl ⟨by omega, by omega⟩ ⟨_, rfl, hH60, hF60, by omega, by omega, (fun t σ hσ hk => LRr.seqg (p15 t σ hσ hk) (by omega) (fun l1 h1 => LRr.seqg (p21 t _ 2 (by decide) h1 (by rw [(fst_lt hσ.2.2 l1).1]; exact (fst_lt hσ.2.2 l1).2) (by have y9 := h1.2.1.1 2 (by decide); omega)) (by omega) (fun l2 h2 => LRr.seqg (LRr.put (p30 t _ h2) p38 (fun c i => p40 c i rfl) (by omega) p37) (by omega) (fun l3 h3 => LRr.seqz (LRr.put (p49 t _ h3) p57 (fun c i => p59 c i rfl) (by omega) p56) (by omega))))), (((((((LFr.rf _ _).tr p16 (by decide +kernel)).tr p23 (by decide +kernel)).tr p31 (by decide +kernel)).tr p40 (by decide +kernel)).tr p50 (by decide +kernel)).tr p59 (by decide +kernel)), ⟨((((((p57 176 3 (fun e => absurd e.2 (by omega))).trans (hR52 176 3 rfl)).trans (p38 176 3 (fun e => absurd e.2 (by omega)))).trans (hR33 176 3 rfl)).trans (hR24 176 3 rfl)).trans (hR17 176 3 rfl)), ((((((p57 176 4 (fun e => absurd e.2 (by omega))).trans (hR52 176 4 rfl)).trans (p38 176 4 (fun e => absurd e.2 (by omega)))).trans (hR33 176 4 rfl)).trans (hR24 176 4 rfl)).trans (hR17 176 4 rfl))⟩⟩
 refine jy_ic c1 hm rfl (by decide) ?_
 have k72 : M17.1 176 3 = z1 := (hR17 176 3 (by decide +kernel)).trans k2
 have k73 : M17.1 176 4 = z3 := (hR17 176 4 (by decide +kernel)).trans k4
 exact jx_retz c2 hm rfl rfl ⟨by omega, by omega⟩ ⟨_, rfl, hH17, hF17, by omega, by omega, (fun t σ hσ hk => LRr.seqz (p15 t σ hσ hk) (by omega)), ((LFr.rf _ _).tr p16 (by decide +kernel)), ⟨(hR17 176 3 rfl), (hR17 176 4 rfl)⟩⟩
def md_X12_readMinds_173w : List (Nat × (Nat × Nat)) := [(173, (5, 5)), (173, (6, 6)), (173, (7, 7)), (173, (8, 8)), (173, (9, 9)), (173, (10, 10)), (173, (11, 11)), (173, (13, 13)), (176, (3, 100))]
theorem ct_X12_readMinds_173w (X : Int) (hX : 0 ≤ X ∧ X ≤ 100000000) (M0 : JM) (hH0 : HI X M0)  : JOk shp PJ 5 163 [.inr (.inr (.inl 173))] M0 (jRi (fun v M' => HI X M' ∧ Fr md_X12_readMinds_173w M0 M' ∧ 0 ≤ v ∧ v ≤ 1 ∧ (∀ (t : TXT) (σ : PSt), RS M0 t σ → 2 ≤ kK t σ → LRr t (minS t σ) v M') ∧ (LFr ml_X12_readMinds_173p M0 M') ∧ (M'.1 176 3 = M0.1 176 3 ∧ M'.1 176 4 = M0.1 176 4))) := by
 refine ⟨jr_X12_readMinds, pj_X12_readMinds, fun F c1 c2 c3 => ?_⟩
 have hm := pj_X12_readMinds
 change F 0 [some (.inr (.inr (.inl 173))), none] [] M0
 have hF0 : Fr md_X12_readMinds_173w M0 M0 := Fr.rf _ _
 obtain ⟨z1, k2, lz1, uz1⟩ := hH0.ld (c := 176) (i := 3) (A := 0) (B := 9) (bs_12_1 _ _ (by omega) (by omega))
 obtain ⟨z3, k4, lz3, uz3⟩ := hH0.ld (c := 176) (i := 4) (A := 0) (B := 9) (bs_12_1 _ _ (by omega) (by omega))
 refine jx_load c1 hm rfl rfl rfl rfl ?_
 obtain ⟨z5, k6, lz5, uz5⟩ := hH0.ld (c := 173) (i := 5) (A := 0) (B := 940) (bs_28_3 _ _ (by omega) (by omega))
 refine jv_v c3 hm rfl pj_X12_go rfl rfl ⟨_, _, _, rfl, sh_173⟩ rfl ((ct_X12_go_173p X (by omega) M0 hH0 ).le (by decide)) (fun M9 ⟨hH9, hR9, p7, p8⟩ => ?_)
 have hF9 := hF0.tr hR9 (by decide +kernel)
 refine jx_load c1 hm rfl rfl rfl rfl ?_
 refine jy_ic c1 hm rfl (by decide) ?_
 refine jx_load c1 hm rfl rfl rfl rfl ?_
 refine jx_getr c1 hm rfl sh_173 rfl ?_
 refine jy_ic c1 hm rfl (by decide) ?_
 obtain ⟨z10, k11, lz10, uz10⟩ := hH9.ld (c := 176) (i := 0) (A := 0) (B := 6) (bs_12_0 _ _ (by omega) (by omega))
 refine jx_iald c1 hm rfl sh_176 ⟨by omega, by omega⟩ k11 ?_
 skip
 refine jv_i c3 hm rfl pj_X12_isOne rfl rfl ⟨_, _, _, rfl, sh_173⟩ rfl ((ct_X12_isOne_173p X (by omega) M9 hH9 0 ⟨by omega, by omega⟩ z10 ⟨by omega, by omega⟩).le (by decide)) (fun z12 M16 ⟨hH16, hR16, lz12, uz12, p13, p14, p15⟩ => ?_)
 have hF16 := hF9.tr hR16 (by decide +kernel)
 obtain ⟨z17, k18, lz17, uz17⟩ := hH16.ld (c := 173) (i := 13) (A := (-2147483648)) (B := 2147483647) (bs_28_7 _ _ (by omega) (by omega))
 refine jz_ne c1 hm 20 rfl rfl (fun h19 => ?_) (fun h19 => ?_)
 ·
  refine jy_bp c1 hm rfl (by decide) ?_
  refine jy_bp c1 hm rfl (by decide) ?_
  refine jx_load c1 hm rfl rfl rfl rfl ?_
  refine jx_geti c1 hm rfl sh_173 rfl k18 ?_
  refine jy_mul c1 hm (6 * z17) rfl (by omega) ?_
  refine jy_add c1 hm (6 * z17 + 17) rfl (by omega) ?_
  refine jx_stor c1 hm (L' := [some (.inr (.inr (.inl 173))), some (.inl (6 * z17 + 17))]) rfl rfl rfl rfl rfl ?_
  refine jx_load c1 hm rfl rfl rfl rfl ?_
  obtain ⟨z20, k21, lz20, uz20⟩ := hH16.ld (c := 173) (i := 5) (A := 0) (B := 940) (bs_28_3 _ _ (by omega) (by omega))
  refine jv_v c3 hm rfl pj_X12_go rfl rfl ⟨_, _, _, rfl, sh_173⟩ rfl ((ct_X12_go_173p X (by omega) M16 hH16 ).le (by decide)) (fun M24 ⟨hH24, hR24, p22, p23⟩ => ?_)
  have hF24 := hF16.tr hR24 (by decide +kernel)
  refine jx_load c1 hm rfl rfl rfl rfl ?_
  refine jy_bp c1 hm rfl (by decide) ?_
  refine jx_load c1 hm rfl rfl rfl rfl ?_
  refine jx_getr c1 hm rfl sh_173 rfl ?_
  refine jy_ic c1 hm rfl (by decide) ?_
  obtain ⟨z25, k26, lz25, uz25⟩ := hH24.ld (c := 176) (i := 1) (A := 0) (B := 6) (bs_12_0 _ _ (by omega) (by omega))
  refine jx_iald c1 hm rfl sh_176 ⟨by omega, by omega⟩ k26 ?_
  skip
  refine jv_i c3 hm rfl pj_X12_isOne rfl rfl ⟨_, _, _, rfl, sh_173⟩ rfl ((ct_X12_isOne_173p X (by omega) M24 hH24 6 ⟨by omega, by omega⟩ z25 ⟨by omega, by omega⟩).le (by decide)) (fun z27 M31 ⟨hH31, hR31, lz27, uz27, p28, p29, p30⟩ => ?_)
  have hF31 := hF24.tr hR31 (by decide +kernel)
  obtain ⟨z32, k33, lz32, uz32⟩ := hH31.ld (c := 173) (i := 13) (A := (-2147483648)) (B := 2147483647) (bs_28_7 _ _ (by omega) (by omega))
  refine jz_ne c1 hm 52 rfl rfl (fun h34 => ?_) (fun h34 => ?_)
  ·
   refine jx_load c1 hm rfl rfl rfl rfl ?_
   refine jx_load c1 hm rfl rfl rfl rfl ?_
   refine jx_geti c1 hm rfl sh_173 rfl k33 ?_
   refine jy_add c1 hm (6 * z17 + z32 + 17) rfl (by omega) ?_
   skip
   refine jx_stor c1 hm (L' := [some (.inr (.inr (.inl 173))), some (.inl (6 * z17 + z32 + 17))]) rfl rfl rfl rfl rfl ?_
   refine jx_load c1 hm rfl rfl rfl rfl ?_
   refine jx_getr c1 hm rfl sh_173 rfl ?_
   refine jx_load c1 hm rfl rfl rfl rfl ?_
   obtain ⟨z35, k36, lz35, uz35⟩ := hH31.ld (c := 176) (i := ((6 * z17 + z32 + 17)).toNat) (A := (-1)) (B := 20) (bs_12_4 _ _ (by omega) (by omega))
   refine jx_iald c1 hm rfl sh_176 ⟨by omega, by omega⟩ k36 ?_
   refine jy_ic c1 hm rfl (by decide) ?_
   refine jc_eq c1 hm 75 rfl rfl (fun h37 => ?_) (fun h37 => ?_)
   ·
    refine jx_load c1 hm rfl rfl rfl rfl ?_
    obtain ⟨z38, k39, lz38, uz38⟩ := hH31.ld (c := 173) (i := 5) (A := 0) (B := 940) (bs_28_3 _ _ (by omega) (by omega))
    refine jv_v c3 hm rfl pj_X12_go rfl rfl ⟨_, _, _, rfl, sh_173⟩ rfl ((ct_X12_go_173p X (by omega) M31 hH31 ).le (by decide)) (fun M42 ⟨hH42, hR42, p40, p41⟩ => ?_)
    have hF42 := hF31.tr hR42 (by decide +kernel)
    refine jx_load c1 hm rfl rfl rfl rfl ?_
    refine jx_load c1 hm rfl rfl rfl rfl ?_
    refine jx_load c1 hm rfl rfl rfl rfl ?_
    refine jy_ic c1 hm rfl (by decide) ?_
    refine jy_bp c1 hm rfl (by decide) ?_
    refine jv_i c3 hm rfl pj_X12_readNumber rfl rfl ⟨_, _, _, rfl, sh_173⟩ rfl ((ct_X12_readNumber_173w X (by omega) M42 hH42 0 ⟨by omega, by omega⟩ 20 ⟨by omega, by omega⟩).le (by decide)) (fun z43 M48 ⟨hH48, hR48, lz43, uz43, p44, p45, p46, p47⟩ => ?_)
    have hF48 := hF42.tr hR48 (by decide +kernel)
    obtain ⟨z49, k50, lz49, uz49⟩ := hH48.ld (c := 173) (i := 13) (A := (-2147483648)) (B := 2147483647) (bs_28_7 _ _ (by omega) (by omega))
    refine jv_i c3 hm rfl pj_X12_put rfl rfl ⟨_, _, _, rfl, sh_173⟩ rfl ((ct_X12_put_173p X (by omega) M48 hH48 (6 * z17 + z32 + 17) ⟨by omega, by omega⟩ z43 ⟨by omega, by omega⟩ (by rw [show bnd X 176 ((6 * z17 + z32 + 17) : Int).toNat = ((-1), 20) from (bs_12_4 _ _ (by omega) (by omega))]; dsimp only; omega)).le (by decide)) (fun z51 M56 ⟨hH56, hR56, lz51, uz51, p52, p53, p54, p55⟩ => ?_)
    have hF56 := hF48.tr hR56 (by decide +kernel)
    obtain ⟨z57, k58, lz57, uz57⟩ := hH56.ld (c := 176) (i := 3) (A := 0) (B := 9) (bs_12_1 _ _ (by omega) (by omega))
    obtain ⟨z59, k60, lz59, uz59⟩ := hH56.ld (c := 176) (i := 4) (A := 0) (B := 9) (bs_12_1 _ _ (by omega) (by omega))
    exact jx_retz c2 hm rfl rfl ⟨by omega, by omega⟩ ⟨_, rfl, hH56, hF56, by omega, by omega, (fun t σ hσ hk => LRr.eq (NMR.ok (p14 t _ _ 0 (by decide) (RS.next hσ hk p7 hR9 p8 (by decide +kernel)) (by decide) k11.symm) (by omega)).2.1 (LRr.eq (NMR.ok (p29 t _ _ 1 (by decide) (RS.next (NMR.ok (p14 t _ (fun _ y => okS y) 0 (by decide) (RS.next hσ hk p7 hR9 p8 (by decide +kernel)) (by decide) k11.symm) (by omega)).1 (NMR.ok (p14 t _ (fun _ y => okS y) 0 (by decide) (RS.next hσ hk p7 hR9 p8 (by decide +kernel)) (by decide) k11.symm) (by omega)).2.2.2.2 p22 hR24 p23 (by decide +kernel)) (by decide) k26.symm) (by omega)).2.1 (LRr.eq (if_neg (by have b1 := (NMR.ok (p14 t _ (fun _ y => okS y) 0 (by decide) (RS.next hσ hk p7 hR9 p8 (by decide +kernel)) (by decide) k11.symm) (by omega)).2.2; have b2 := (NMR.ok (p29 t _ (fun _ y => okS y) 1 (by decide) (RS.next (NMR.ok (p14 t _ (fun _ y => okS y) 0 (by decide) (RS.next hσ hk p7 hR9 p8 (by decide +kernel)) (by decide) k11.symm) (by omega)).1 (NMR.ok (p14 t _ (fun _ y => okS y) 0 (by decide) (RS.next hσ hk p7 hR9 p8 (by decide +kernel)) (by decide) k11.symm) (by omega)).2.2.2.2 p22 hR24 p23 (by decide +kernel)) (by decide) k26.symm) (by omega)).2.2; have y9 := rfl_m (NMR.ok (p29 t _ (fun _ y => okS y) 1 (by decide) (RS.next (NMR.ok (p14 t _ (fun _ y => okS y) 0 (by decide) (RS.next hσ hk p7 hR9 p8 (by decide +kernel)) (by decide) k11.symm) (by omega)).1 (NMR.ok (p14 t _ (fun _ y => okS y) 0 (by decide) (RS.next hσ hk p7 hR9 p8 (by decide +kernel)) (by decide) k11.symm) (by omega)).2.2.2.2 p22 hR24 p23 (by decide +kernel)) (by decide) k26.symm) (by omega)).1 (x := 6 * M16.1 173 13 + M31.1 173 13) (y := (6 * z17 + z32 + 17)) ⟨by omega, by omega⟩ (by omega); exact fun e => e (y9.mp (by omega)))) (rset_fin (p45 t _ (RS.next (NMR.ok (p29 t _ (fun _ y => okS y) 1 (by decide) (RS.next (NMR.ok (p14 t _ (fun _ y => okS y) 0 (by decide) (RS.next hσ hk p7 hR9 p8 (by decide +kernel)) (by decide) k11.symm) (by omega)).1 (NMR.ok (p14 t _ (fun _ y => okS y) 0 (by decide) (RS.next hσ hk p7 hR9 p8 (by decide +kernel)) (by decide) k11.symm) (by omega)).2.2.2.2 p22 hR24 p23 (by decide +kernel)) (by decide) k26.symm) (by omega)).1 (NMR.ok (p29 t _ (fun _ y => okS y) 1 (by decide) (RS.next (NMR.ok (p14 t _ (fun _ y => okS y) 0 (by decide) (RS.next hσ hk p7 hR9 p8 (by decide +kernel)) (by decide) k11.symm) (by omega)).1 (NMR.ok (p14 t _ (fun _ y => okS y) 0 (by decide) (RS.next hσ hk p7 hR9 p8 (by decide +kernel)) (by decide) k11.symm) (by omega)).2.2.2.2 p22 hR24 p23 (by decide +kernel)) (by decide) k26.symm) (by omega)).2.2.2.2 p40 hR42 p41 (by decide +kernel))) p52 p53 (fun c i => p55 c i rfl) (fun y => by have b1 := (NMR.ok (p14 t _ (fun _ y => okS y) 0 (by decide) (RS.next hσ hk p7 hR9 p8 (by decide +kernel)) (by decide) k11.symm) (by omega)).2.2; have b2 := (NMR.ok (p29 t _ (fun _ y => okS y) 1 (by decide) (RS.next (NMR.ok (p14 t _ (fun _ y => okS y) 0 (by decide) (RS.next hσ hk p7 hR9 p8 (by decide +kernel)) (by decide) k11.symm) (by omega)).1 (NMR.ok (p14 t _ (fun _ y => okS y) 0 (by decide) (RS.next hσ hk p7 hR9 p8 (by decide +kernel)) (by decide) k11.symm) (by omega)).2.2.2.2 p22 hR24 p23 (by decide +kernel)) (by decide) k26.symm) (by omega)).2.2; exact Or.inl ⟨by omega, by omega, by omega, by omega⟩))))), ((((((((LFr.rf _ _).tr p8 (by decide +kernel)).tr p15 (by decide +kernel)).tr p23 (by decide +kernel)).tr p30 (by decide +kernel)).tr p41 (by decide +kernel)).tr p46 (by decide +kernel)).tr p55 (by decide +kernel)), ⟨(((((((p53 176 3 (fun e => absurd e.2 (by omega))).trans (hR48 176 3 rfl)).trans (hR42 176 3 rfl)).trans (hR31 176 3 rfl)).trans (hR24 176 3 rfl)).trans (hR16 176 3 rfl)).trans (hR9 176 3 rfl)), (((((((p53 176 4 (fun e => absurd e.2 (by omega))).trans (hR48 176 4 rfl)).trans (hR42 176 4 rfl)).trans (hR31 176 4 rfl)).trans (hR24 176 4 rfl)).trans (hR16 176 4 rfl)).trans (hR9 176 4 rfl))⟩⟩
   refine jx_load c1 hm rfl rfl rfl rfl ?_
   refine jy_ic c1 hm rfl (by decide) ?_
   obtain ⟨z61, k62, lz61, uz61⟩ := hH31.ld (c := 173) (i := 6) (A := 0) (B := 940) (bs_28_3 _ _ (by omega) (by omega))
   refine jv_i c3 hm rfl pj_X12_bad rfl rfl ⟨_, _, _, rfl, sh_173⟩ rfl ((ct_X12_bad_173p X (by omega) M31 hH31 3 ⟨by omega, by omega⟩).le (by decide)) (fun z63 M67 ⟨hH67, hR67, lz63, uz63, p64, p65, p66⟩ => ?_)
   have hF67 := hF31.tr hR67 (by decide +kernel)
   obtain ⟨z68, k69, lz68, uz68⟩ := hH67.ld (c := 173) (i := 11) (A := 0) (B := 940) (bs_28_6 _ _ (by omega) (by omega))
   have k70 : M67.1 176 3 = z1 := (hR67 176 3 (by decide +kernel)).trans ((hR31 176 3 (by decide +kernel)).trans ((hR24 176 3 (by decide +kernel)).trans ((hR16 176 3 (by decide +kernel)).trans ((hR9 176 3 (by decide +kernel)).trans k2))))
   have k71 : M67.1 176 4 = z3 := (hR67 176 4 (by decide +kernel)).trans ((hR31 176 4 (by decide +kernel)).trans ((hR24 176 4 (by decide +kernel)).trans ((hR16 176 4 (by decide +kernel)).trans ((hR9 176 4 (by decide +kernel)).trans k4))))
   exact jx_retz c2 hm rfl rfl ⟨by omega, by omega⟩ ⟨_, rfl, hH67, hF67, by omega, by omega, (fun t σ hσ hk => LRr.eq (NMR.ok (p14 t _ _ 0 (by decide) (RS.next hσ hk p7 hR9 p8 (by decide +kernel)) (by decide) k11.symm) (by omega)).2.1 (LRr.eq (NMR.ok (p29 t _ _ 1 (by decide) (RS.next (NMR.ok (p14 t _ (fun _ y => okS y) 0 (by decide) (RS.next hσ hk p7 hR9 p8 (by decide +kernel)) (by decide) k11.symm) (by omega)).1 (NMR.ok (p14 t _ (fun _ y => okS y) 0 (by decide) (RS.next hσ hk p7 hR9 p8 (by decide +kernel)) (by decide) k11.symm) (by omega)).2.2.2.2 p22 hR24 p23 (by decide +kernel)) (by decide) k26.symm) (by omega)).2.1 (LRr.eq (if_pos (by have b1 := (NMR.ok (p14 t _ (fun _ y => okS y) 0 (by decide) (RS.next hσ hk p7 hR9 p8 (by decide +kernel)) (by decide) k11.symm) (by omega)).2.2; have b2 := (NMR.ok (p29 t _ (fun _ y => okS y) 1 (by decide) (RS.next (NMR.ok (p14 t _ (fun _ y => okS y) 0 (by decide) (RS.next hσ hk p7 hR9 p8 (by decide +kernel)) (by decide) k11.symm) (by omega)).1 (NMR.ok (p14 t _ (fun _ y => okS y) 0 (by decide) (RS.next hσ hk p7 hR9 p8 (by decide +kernel)) (by decide) k11.symm) (by omega)).2.2.2.2 p22 hR24 p23 (by decide +kernel)) (by decide) k26.symm) (by omega)).2.2; have y9 := rfl_m (NMR.ok (p29 t _ (fun _ y => okS y) 1 (by decide) (RS.next (NMR.ok (p14 t _ (fun _ y => okS y) 0 (by decide) (RS.next hσ hk p7 hR9 p8 (by decide +kernel)) (by decide) k11.symm) (by omega)).1 (NMR.ok (p14 t _ (fun _ y => okS y) 0 (by decide) (RS.next hσ hk p7 hR9 p8 (by decide +kernel)) (by decide) k11.symm) (by omega)).2.2.2.2 p22 hR24 p23 (by decide +kernel)) (by decide) k26.symm) (by omega)).1 (x := 6 * M16.1 173 13 + M31.1 173 13) (y := (6 * z17 + z32 + 17)) ⟨by omega, by omega⟩ (by omega); exact fun e => absurd (y9.mpr e) (by omega))) (Or.inr ⟨tF_nn (NMR.ok (p29 t _ (fun _ y => okS y) 1 (by decide) (RS.next (NMR.ok (p14 t _ (fun _ y => okS y) 0 (by decide) (RS.next hσ hk p7 hR9 p8 (by decide +kernel)) (by decide) k11.symm) (by omega)).1 (NMR.ok (p14 t _ (fun _ y => okS y) 0 (by decide) (RS.next hσ hk p7 hR9 p8 (by decide +kernel)) (by decide) k11.symm) (by omega)).2.2.2.2 p22 hR24 p23 (by decide +kernel)) (by decide) k26.symm) (by omega)).1.2.2, by omega, (show _ = kF t _ from (p65).trans (NMR.ok (p29 t _ (fun _ y => okS y) 1 (by decide) (RS.next (NMR.ok (p14 t _ (fun _ y => okS y) 0 (by decide) (RS.next hσ hk p7 hR9 p8 (by decide +kernel)) (by decide) k11.symm) (by omega)).1 (NMR.ok (p14 t _ (fun _ y => okS y) 0 (by decide) (RS.next hσ hk p7 hR9 p8 (by decide +kernel)) (by decide) k11.symm) (by omega)).2.2.2.2 p22 hR24 p23 (by decide +kernel)) (by decide) k26.symm) (by omega)).1.start)⟩)))), ((((((LFr.rf _ _).tr p8 (by decide +kernel)).tr p15 (by decide +kernel)).tr p23 (by decide +kernel)).tr p30 (by decide +kernel)).tr p66 (by decide +kernel)), ⟨(((((hR67 176 3 rfl).trans (hR31 176 3 rfl)).trans (hR24 176 3 rfl)).trans (hR16 176 3 rfl)).trans (hR9 176 3 rfl)), (((((hR67 176 4 rfl).trans (hR31 176 4 rfl)).trans (hR24 176 4 rfl)).trans (hR16 176 4 rfl)).trans (hR9 176 4 rfl))⟩⟩
  refine jy_ic c1 hm rfl (by decide) ?_
  have k72 : M31.1 176 3 = z1 := (hR31 176 3 (by decide +kernel)).trans ((hR24 176 3 (by decide +kernel)).trans ((hR16 176 3 (by decide +kernel)).trans ((hR9 176 3 (by decide +kernel)).trans k2)))
  have k73 : M31.1 176 4 = z3 := (hR31 176 4 (by decide +kernel)).trans ((hR24 176 4 (by decide +kernel)).trans ((hR16 176 4 (by decide +kernel)).trans ((hR9 176 4 (by decide +kernel)).trans k4)))
  exact jx_retz c2 hm rfl rfl ⟨by omega, by omega⟩ ⟨_, rfl, hH31, hF31, by omega, by omega, (fun t σ hσ hk => LRr.eq (NMR.ok (p14 t _ _ 0 (by decide) (RS.next hσ hk p7 hR9 p8 (by decide +kernel)) (by decide) k11.symm) (by omega)).2.1 (NMR.bad (p29 t _ _ 1 (by decide) (RS.next (NMR.ok (p14 t _ (fun _ y => okS y) 0 (by decide) (RS.next hσ hk p7 hR9 p8 (by decide +kernel)) (by decide) k11.symm) (by omega)).1 (NMR.ok (p14 t _ (fun _ y => okS y) 0 (by decide) (RS.next hσ hk p7 hR9 p8 (by decide +kernel)) (by decide) k11.symm) (by omega)).2.2.2.2 p22 hR24 p23 (by decide +kernel)) (by decide) k26.symm) (by omega))), (((((LFr.rf _ _).tr p8 (by decide +kernel)).tr p15 (by decide +kernel)).tr p23 (by decide +kernel)).tr p30 (by decide +kernel)), ⟨((((hR31 176 3 rfl).trans (hR24 176 3 rfl)).trans (hR16 176 3 rfl)).trans (hR9 176 3 rfl)), ((((hR31 176 4 rfl).trans (hR24 176 4 rfl)).trans (hR16 176 4 rfl)).trans (hR9 176 4 rfl))⟩⟩
 refine jy_ic c1 hm rfl (by decide) ?_
 have k74 : M16.1 176 3 = z1 := (hR16 176 3 (by decide +kernel)).trans ((hR9 176 3 (by decide +kernel)).trans k2)
 have k75 : M16.1 176 4 = z3 := (hR16 176 4 (by decide +kernel)).trans ((hR9 176 4 (by decide +kernel)).trans k4)
 exact jx_retz c2 hm rfl rfl ⟨by omega, by omega⟩ ⟨_, rfl, hH16, hF16, by omega, by omega, (fun t σ hσ hk => NMR.bad (p14 t _ _ 0 (by decide) (RS.next hσ hk p7 hR9 p8 (by decide +kernel)) (by decide) k11.symm) (by omega)), (((LFr.rf _ _).tr p8 (by decide +kernel)).tr p15 (by decide +kernel)), ⟨((hR16 176 3 rfl).trans (hR9 176 3 rfl)), ((hR16 176 4 rfl).trans (hR9 176 4 rfl))⟩⟩
def md_X12_readForfeit_173w : List (Nat × (Nat × Nat)) := [(173, (5, 5)), (173, (6, 6)), (173, (7, 7)), (173, (8, 8)), (173, (9, 9)), (173, (10, 10)), (173, (11, 11)), (173, (13, 13)), (176, (1, 1)), (176, (3, 100))]
theorem ct_X12_readForfeit_173w (X : Int) (hX : 0 ≤ X ∧ X ≤ 100000000) (M0 : JM) (hH0 : HI X M0)  : JOk shp PJ 5 159 [.inr (.inr (.inl 173))] M0 (jRi (fun v M' => HI X M' ∧ Fr md_X12_readForfeit_173w M0 M' ∧ 0 ≤ v ∧ v ≤ 1 ∧ (∀ (t : TXT) (σ : PSt), RS M0 t σ → 2 ≤ kK t σ → LRr t (forS t σ) v M') ∧ (LFr ml_X12_readForfeit_173p M0 M') ∧ (M'.1 176 3 = M0.1 176 3 ∧ M'.1 176 4 = M0.1 176 4))) := by
 refine ⟨jr_X12_readForfeit, pj_X12_readForfeit, fun F c1 c2 c3 => ?_⟩
 have hm := pj_X12_readForfeit
 change F 0 [some (.inr (.inr (.inl 173))), none] [] M0
 have hF0 : Fr md_X12_readForfeit_173w M0 M0 := Fr.rf _ _
 obtain ⟨z1, k2, lz1, uz1⟩ := hH0.ld (c := 176) (i := 3) (A := 0) (B := 9) (bs_12_1 _ _ (by omega) (by omega))
 obtain ⟨z3, k4, lz3, uz3⟩ := hH0.ld (c := 176) (i := 4) (A := 0) (B := 9) (bs_12_1 _ _ (by omega) (by omega))
 refine jx_load c1 hm rfl rfl rfl rfl ?_
 refine jy_ic c1 hm rfl (by decide) ?_
 refine jy_bp c1 hm rfl (by decide) ?_
 obtain ⟨z5, k6, lz5, uz5⟩ := hH0.ld (c := 176) (i := 2) (A := 0) (B := 6) (bs_12_0 _ _ (by omega) (by omega))
 obtain ⟨z7, k8, lz7, uz7⟩ := hH0.ld (c := 176) (i := 0) (A := 0) (B := 6) (bs_12_0 _ _ (by omega) (by omega))
 obtain ⟨z9, k10, lz9, uz9⟩ := hH0.ld (c := 176) (i := 1) (A := 0) (B := 6) (bs_12_0 _ _ (by omega) (by omega))
 refine jv_i c3 hm rfl pj_X12_readFirst rfl rfl ⟨_, _, _, rfl, sh_173⟩ rfl ((ct_X12_readFirst_173p X (by omega) M0 hH0 1 ⟨by omega, by omega⟩ 6 ⟨by omega, by omega⟩).le (by decide)) (fun z11 M17 ⟨hH17, hR17, lz11, uz11, p12, p13, p14, p15, p16⟩ => ?_)
 have hF17 := hF0.tr hR17 (by decide +kernel)
 refine jz_ne c1 hm 12 rfl rfl (fun h18 => ?_) (fun h18 => ?_)
 ·
  refine jx_load c1 hm rfl rfl rfl rfl ?_
  refine jx_getr c1 hm rfl sh_173 rfl ?_
  refine jy_ic c1 hm rfl (by decide) ?_
  have k19 : M17.1 176 1 = z9 := (hR17 176 1 (by decide +kernel)).trans k10
  refine jx_iald c1 hm rfl sh_176 ⟨by omega, by omega⟩ k19 ?_
  refine jx_stor c1 hm (L' := [some (.inr (.inr (.inl 173))), some (.inl z9)]) rfl rfl rfl rfl rfl ?_
  refine jx_load c1 hm rfl rfl rfl rfl ?_
  refine jy_bp c1 hm rfl (by decide) ?_
  refine jx_load c1 hm rfl rfl rfl rfl ?_
  refine jy_add c1 hm (z9 + 6) rfl (by omega) ?_
  skip
  refine jv_i c3 hm rfl pj_X12_readNew rfl rfl ⟨_, _, _, rfl, sh_173⟩ rfl ((ct_X12_readNew_173p X (by omega) M17 hH17 (z9 + 6) ⟨by omega, by omega⟩).le (by decide)) (fun z20 M24 ⟨hH24, hR24, lz20, uz20, p21, p22, p23⟩ => ?_)
  have hF24 := hF17.tr hR24 (by decide +kernel)
  refine jz_eq c1 hm 48 rfl rfl (fun h25 => ?_) (fun h25 => ?_)
  ·
   refine jy_ic c1 hm rfl (by decide) ?_
   have k26 : M24.1 176 3 = z1 := (hR24 176 3 (by decide +kernel)).trans ((hR17 176 3 (by decide +kernel)).trans k2)
   have k27 : M24.1 176 4 = z3 := (hR24 176 4 (by decide +kernel)).trans ((hR17 176 4 (by decide +kernel)).trans k4)
   exact jx_retz c2 hm rfl rfl ⟨by omega, by omega⟩ ⟨_, rfl, hH24, hF24, by omega, by omega, (fun t σ hσ hk => LRr.seqg (p15 t σ hσ hk) (by omega) (fun l1 h1 => LRr.seqz (p21 t _ 1 (by decide) h1 (by rw [(fst_lt hσ.2.2 l1).1]; exact (fst_lt hσ.2.2 l1).2) (by have y9 := h1.2.1.1 1 (by decide); omega)) (by omega))), (((LFr.rf _ _).tr p16 (by decide +kernel)).tr p23 (by decide +kernel)), ⟨((hR24 176 3 rfl).trans (hR17 176 3 rfl)), ((hR24 176 4 rfl).trans (hR17 176 4 rfl))⟩⟩
  refine jx_load c1 hm rfl rfl rfl rfl ?_
  refine jy_bp c1 hm rfl (by decide) ?_
  refine jx_load c1 hm rfl rfl rfl rfl ?_
  refine jy_add c1 hm (z9 + 11) rfl (by omega) ?_
  refine jx_load c1 hm rfl rfl rfl rfl ?_
  refine jy_ic c1 hm rfl (by decide) ?_
  refine jy_bp c1 hm rfl (by decide) ?_
  refine jv_i c3 hm rfl pj_X12_readNumber rfl rfl ⟨_, _, _, rfl, sh_173⟩ rfl ((ct_X12_readNumber_173w X (by omega) M24 hH24 0 ⟨by omega, by omega⟩ 20 ⟨by omega, by omega⟩).le (by decide)) (fun z28 M33 ⟨hH33, hR33, lz28, uz28, p29, p30, p31, p32⟩ => ?_)
  have hF33 := hF24.tr hR33 (by decide +kernel)
  obtain ⟨z34, k35, lz34, uz34⟩ := hH33.ld (c := 173) (i := 13) (A := (-2147483648)) (B := 2147483647) (bs_28_7 _ _ (by omega) (by omega))
  refine jv_i c3 hm rfl pj_X12_put rfl rfl ⟨_, _, _, rfl, sh_173⟩ rfl ((ct_X12_put_173p X (by omega) M33 hH33 (z9 + 11) ⟨by omega, by omega⟩ z28 ⟨by omega, by omega⟩ (by rw [show bnd X 176 ((z9 + 11) : Int).toNat = (0, 20) from (bs_12_3 _ _ (by omega) (by omega))]; dsimp only; omega)).le (by decide)) (fun z36 M41 ⟨hH41, hR41, lz36, uz36, p37, p38, p39, p40⟩ => ?_)
  have hF41 := hF33.tr hR41 (by decide +kernel)
  refine jz_ne c1 hm 50 rfl rfl (fun h42 => ?_) (fun h42 => ?_)
  ·
   refine jx_load c1 hm rfl rfl rfl rfl ?_
   refine jx_getr c1 hm rfl sh_173 rfl ?_
   refine jy_ic c1 hm rfl (by decide) ?_
   refine jx_dup2 c1 hm rfl rfl rfl ?_
   have k43 : M41.1 176 1 = z9 := (hR41 176 1 (by decide +kernel)).trans ((hR33 176 1 (by decide +kernel)).trans ((hR24 176 1 (by decide +kernel)).trans k19))
   refine jx_iald c1 hm rfl sh_176 ⟨by omega, by omega⟩ k43 ?_
   refine jy_ic c1 hm rfl (by decide) ?_
   refine jy_add c1 hm (z9 + 1) rfl (by omega) ?_
   obtain ⟨M44, e44, hH44, hF44, k44, n44, q44⟩ := mup hH41 hF41 (c := 176) (i := 1) (v := (z9 + 1)) (A := 0) (B := 6) (bs_12_0 _ _ (by omega) (by omega)) ⟨by omega, by omega⟩ (jin_of 8 rfl ⟨by omega, by omega⟩)
   refine jm_iast c1 hm rfl sh_176 ⟨by omega, by omega⟩ e44 ?_
   refine jy_ic c1 hm rfl (by decide) ?_
   obtain ⟨z45, k46, lz45, uz45⟩ := hH44.ld (c := 176) (i := 3) (A := 0) (B := 9) (bs_12_1 _ _ (by omega) (by omega))
   obtain ⟨z47, k48, lz47, uz47⟩ := hH44.ld (c := 176) (i := 4) (A := 0) (B := 9) (bs_12_1 _ _ (by omega) (by omega))
   exact jx_retz c2 hm rfl rfl ⟨by omega, by omega⟩ ⟨_, rfl, hH44, hF44, by omega, by omega, (fun t σ hσ hk => LRr.seqg (p15 t σ hσ hk) (by omega) (fun l1 h1 => LRr.seqg (p21 t _ 1 (by decide) h1 (by rw [(fst_lt hσ.2.2 l1).1]; exact (fst_lt hσ.2.2 l1).2) (by have y9 := h1.2.1.1 1 (by decide); omega)) (by omega) (fun l2 h2 => LRr.seqg (LRr.put (p30 t _ h2) p38 (fun c i => p40 c i rfl) (by omega) p37) (by omega) (fun l3 h3 => LRr.o (radd_fin (s := 1) (j := (z9 + 6)) (by decide) h1 (by rw [(fst_lt hσ.2.2 l1).1]; exact (fst_lt hσ.2.2 l1).2) (p22 t _ h1 (by omega)).1 (p22 t _ h1 (by omega)).2.1 l2 (num_e3 h2.2.2 l3) h3 (by have y9 := h1.2.1.1 1 (by decide); omega) ((congrArg Int64.toInt ((p40 181 ((z9 + 6)).toNat rfl).trans (p31 181 ((z9 + 6)).toNat rfl))).trans (p22 t _ h1 (by omega)).2.2) (by omega) n44 q44) (show (-1 : Int) < 0 by decide))))), ((((((LFr.rf _ _).tr p16 (by decide +kernel)).tr p23 (by decide +kernel)).tr p31 (by decide +kernel)).tr p40 (by decide +kernel)).eq q44), ⟨(((((n44 176 3 (fun e => absurd e.2 (by omega))).trans (p38 176 3 (fun e => absurd e.2 (by omega)))).trans (hR33 176 3 rfl)).trans (hR24 176 3 rfl)).trans (hR17 176 3 rfl)), (((((n44 176 4 (fun e => absurd e.2 (by omega))).trans (p38 176 4 (fun e => absurd e.2 (by omega)))).trans (hR33 176 4 rfl)).trans (hR24 176 4 rfl)).trans (hR17 176 4 rfl))⟩⟩
  refine jy_ic c1 hm rfl (by decide) ?_
  obtain ⟨z49, k50, lz49, uz49⟩ := hH41.ld (c := 176) (i := 3) (A := 0) (B := 9) (bs_12_1 _ _ (by omega) (by omega))
  obtain ⟨z51, k52, lz51, uz51⟩ := hH41.ld (c := 176) (i := 4) (A := 0) (B := 9) (bs_12_1 _ _ (by omega) (by omega))
  exact jx_retz c2 hm rfl rfl ⟨by omega, by omega⟩ ⟨_, rfl, hH41, hF41, by omega, by omega, (fun t σ hσ hk => LRr.seqg (p15 t σ hσ hk) (by omega) (fun l1 h1 => LRr.seqg (p21 t _ 1 (by decide) h1 (by rw [(fst_lt hσ.2.2 l1).1]; exact (fst_lt hσ.2.2 l1).2) (by have y9 := h1.2.1.1 1 (by decide); omega)) (by omega) (fun l2 h2 => LRr.seqz (LRr.put (p30 t _ h2) p38 (fun c i => p40 c i rfl) (by omega) p37) (by omega)))), (((((LFr.rf _ _).tr p16 (by decide +kernel)).tr p23 (by decide +kernel)).tr p31 (by decide +kernel)).tr p40 (by decide +kernel)), ⟨((((p38 176 3 (fun e => absurd e.2 (by omega))).trans (hR33 176 3 rfl)).trans (hR24 176 3 rfl)).trans (hR17 176 3 rfl)), ((((p38 176 4 (fun e => absurd e.2 (by omega))).trans (hR33 176 4 rfl)).trans (hR24 176 4 rfl)).trans (hR17 176 4 rfl))⟩⟩
 refine jy_ic c1 hm rfl (by decide) ?_
 have k53 : M17.1 176 3 = z1 := (hR17 176 3 (by decide +kernel)).trans k2
 have k54 : M17.1 176 4 = z3 := (hR17 176 4 (by decide +kernel)).trans k4
 exact jx_retz c2 hm rfl rfl ⟨by omega, by omega⟩ ⟨_, rfl, hH17, hF17, by omega, by omega, (fun t σ hσ hk => LRr.seqz (p15 t σ hσ hk) (by omega)), ((LFr.rf _ _).tr p16 (by decide +kernel)), ⟨(hR17 176 3 rfl), (hR17 176 4 rfl)⟩⟩
def md_X12_readMan_173w : List (Nat × (Nat × Nat)) := [(173, (5, 5)), (173, (6, 6)), (173, (7, 7)), (173, (8, 8)), (173, (9, 9)), (173, (10, 10)), (173, (11, 11)), (173, (13, 13)), (176, (0, 0)), (176, (3, 100))]
theorem ct_X12_readMan_173w (X : Int) (hX : 0 ≤ X ∧ X ≤ 100000000) (M0 : JM) (hH0 : HI X M0)  : JOk shp PJ 5 162 [.inr (.inr (.inl 173))] M0 (jRi (fun v M' => HI X M' ∧ Fr md_X12_readMan_173w M0 M' ∧ 0 ≤ v ∧ v ≤ 1 ∧ (∀ (t : TXT) (σ : PSt), RS M0 t σ → 2 ≤ kK t σ → LRr t (manS t σ) v M') ∧ (LFr ml_X12_readMan_173p M0 M') ∧ (M'.1 176 3 = M0.1 176 3 ∧ M'.1 176 4 = M0.1 176 4))) := by
 refine ⟨jr_X12_readMan, pj_X12_readMan, fun F c1 c2 c3 => ?_⟩
 have hm := pj_X12_readMan
 change F 0 [some (.inr (.inr (.inl 173))), none] [] M0
 have hF0 : Fr md_X12_readMan_173w M0 M0 := Fr.rf _ _
 obtain ⟨z1, k2, lz1, uz1⟩ := hH0.ld (c := 176) (i := 3) (A := 0) (B := 9) (bs_12_1 _ _ (by omega) (by omega))
 obtain ⟨z3, k4, lz3, uz3⟩ := hH0.ld (c := 176) (i := 4) (A := 0) (B := 9) (bs_12_1 _ _ (by omega) (by omega))
 refine jx_load c1 hm rfl rfl rfl rfl ?_
 refine jy_ic c1 hm rfl (by decide) ?_
 refine jy_bp c1 hm rfl (by decide) ?_
 obtain ⟨z5, k6, lz5, uz5⟩ := hH0.ld (c := 176) (i := 2) (A := 0) (B := 6) (bs_12_0 _ _ (by omega) (by omega))
 obtain ⟨z7, k8, lz7, uz7⟩ := hH0.ld (c := 176) (i := 0) (A := 0) (B := 6) (bs_12_0 _ _ (by omega) (by omega))
 obtain ⟨z9, k10, lz9, uz9⟩ := hH0.ld (c := 176) (i := 1) (A := 0) (B := 6) (bs_12_0 _ _ (by omega) (by omega))
 refine jv_i c3 hm rfl pj_X12_readFirst rfl rfl ⟨_, _, _, rfl, sh_173⟩ rfl ((ct_X12_readFirst_173p X (by omega) M0 hH0 0 ⟨by omega, by omega⟩ 6 ⟨by omega, by omega⟩).le (by decide)) (fun z11 M17 ⟨hH17, hR17, lz11, uz11, p12, p13, p14, p15, p16⟩ => ?_)
 have hF17 := hF0.tr hR17 (by decide +kernel)
 refine jz_ne c1 hm 12 rfl rfl (fun h18 => ?_) (fun h18 => ?_)
 ·
  refine jx_load c1 hm rfl rfl rfl rfl ?_
  refine jx_getr c1 hm rfl sh_173 rfl ?_
  refine jy_ic c1 hm rfl (by decide) ?_
  have k19 : M17.1 176 0 = z7 := (hR17 176 0 (by decide +kernel)).trans k8
  refine jx_iald c1 hm rfl sh_176 ⟨by omega, by omega⟩ k19 ?_
  refine jx_stor c1 hm (L' := [some (.inr (.inr (.inl 173))), some (.inl z7)]) rfl rfl rfl rfl rfl ?_
  refine jx_load c1 hm rfl rfl rfl rfl ?_
  refine jx_load c1 hm rfl rfl rfl rfl ?_
  skip
  refine jv_i c3 hm rfl pj_X12_readNew rfl rfl ⟨_, _, _, rfl, sh_173⟩ rfl ((ct_X12_readNew_173p X (by omega) M17 hH17 z7 ⟨by omega, by omega⟩).le (by decide)) (fun z20 M24 ⟨hH24, hR24, lz20, uz20, p21, p22, p23⟩ => ?_)
  have hF24 := hF17.tr hR24 (by decide +kernel)
  refine jz_eq c1 hm 44 rfl rfl (fun h25 => ?_) (fun h25 => ?_)
  ·
   refine jy_ic c1 hm rfl (by decide) ?_
   have k26 : M24.1 176 3 = z1 := (hR24 176 3 (by decide +kernel)).trans ((hR17 176 3 (by decide +kernel)).trans k2)
   have k27 : M24.1 176 4 = z3 := (hR24 176 4 (by decide +kernel)).trans ((hR17 176 4 (by decide +kernel)).trans k4)
   exact jx_retz c2 hm rfl rfl ⟨by omega, by omega⟩ ⟨_, rfl, hH24, hF24, by omega, by omega, (fun t σ hσ hk => LRr.seqg (p15 t σ hσ hk) (by omega) (fun l1 h1 => LRr.seqz (p21 t _ 0 (by decide) h1 (by rw [(fst_lt hσ.2.2 l1).1]; exact (fst_lt hσ.2.2 l1).2) (by have y9 := h1.2.1.1 0 (by decide); omega)) (by omega))), (((LFr.rf _ _).tr p16 (by decide +kernel)).tr p23 (by decide +kernel)), ⟨((hR24 176 3 rfl).trans (hR17 176 3 rfl)), ((hR24 176 4 rfl).trans (hR17 176 4 rfl))⟩⟩
  refine jx_load c1 hm rfl rfl rfl rfl ?_
  refine jy_ic c1 hm rfl (by decide) ?_
  refine jx_load c1 hm rfl rfl rfl rfl ?_
  refine jy_add c1 hm (z7 + 5) rfl (by omega) ?_
  refine jx_load c1 hm rfl rfl rfl rfl ?_
  refine jy_ic c1 hm rfl (by decide) ?_
  refine jy_bp c1 hm rfl (by decide) ?_
  refine jv_i c3 hm rfl pj_X12_readNumber rfl rfl ⟨_, _, _, rfl, sh_173⟩ rfl ((ct_X12_readNumber_173w X (by omega) M24 hH24 0 ⟨by omega, by omega⟩ 99 ⟨by omega, by omega⟩).le (by decide)) (fun z28 M33 ⟨hH33, hR33, lz28, uz28, p29, p30, p31, p32⟩ => ?_)
  have hF33 := hF24.tr hR33 (by decide +kernel)
  obtain ⟨z34, k35, lz34, uz34⟩ := hH33.ld (c := 173) (i := 13) (A := (-2147483648)) (B := 2147483647) (bs_28_7 _ _ (by omega) (by omega))
  refine jv_i c3 hm rfl pj_X12_put rfl rfl ⟨_, _, _, rfl, sh_173⟩ rfl ((ct_X12_put_173p X (by omega) M33 hH33 (z7 + 5) ⟨by omega, by omega⟩ z28 ⟨by omega, by omega⟩ (by rw [show bnd X 176 ((z7 + 5) : Int).toNat = (0, 99) from (bs_12_2 _ _ (by omega) (by omega))]; dsimp only; omega)).le (by decide)) (fun z36 M41 ⟨hH41, hR41, lz36, uz36, p37, p38, p39, p40⟩ => ?_)
  have hF41 := hF33.tr hR41 (by decide +kernel)
  refine jz_ne c1 hm 46 rfl rfl (fun h42 => ?_) (fun h42 => ?_)
  ·
   refine jx_load c1 hm rfl rfl rfl rfl ?_
   refine jx_getr c1 hm rfl sh_173 rfl ?_
   refine jy_ic c1 hm rfl (by decide) ?_
   refine jx_dup2 c1 hm rfl rfl rfl ?_
   have k43 : M41.1 176 0 = z7 := (hR41 176 0 (by decide +kernel)).trans ((hR33 176 0 (by decide +kernel)).trans ((hR24 176 0 (by decide +kernel)).trans k19))
   refine jx_iald c1 hm rfl sh_176 ⟨by omega, by omega⟩ k43 ?_
   refine jy_ic c1 hm rfl (by decide) ?_
   refine jy_add c1 hm (z7 + 1) rfl (by omega) ?_
   obtain ⟨M44, e44, hH44, hF44, k44, n44, q44⟩ := mup hH41 hF41 (c := 176) (i := 0) (v := (z7 + 1)) (A := 0) (B := 6) (bs_12_0 _ _ (by omega) (by omega)) ⟨by omega, by omega⟩ (jin_of 8 rfl ⟨by omega, by omega⟩)
   refine jm_iast c1 hm rfl sh_176 ⟨by omega, by omega⟩ e44 ?_
   refine jy_ic c1 hm rfl (by decide) ?_
   obtain ⟨z45, k46, lz45, uz45⟩ := hH44.ld (c := 176) (i := 3) (A := 0) (B := 9) (bs_12_1 _ _ (by omega) (by omega))
   obtain ⟨z47, k48, lz47, uz47⟩ := hH44.ld (c := 176) (i := 4) (A := 0) (B := 9) (bs_12_1 _ _ (by omega) (by omega))
   exact jx_retz c2 hm rfl rfl ⟨by omega, by omega⟩ ⟨_, rfl, hH44, hF44, by omega, by omega, (fun t σ hσ hk => LRr.seqg (p15 t σ hσ hk) (by omega) (fun l1 h1 => LRr.seqg (p21 t _ 0 (by decide) h1 (by rw [(fst_lt hσ.2.2 l1).1]; exact (fst_lt hσ.2.2 l1).2) (by have y9 := h1.2.1.1 0 (by decide); omega)) (by omega) (fun l2 h2 => LRr.seqg (LRr.put (p30 t _ h2) p38 (fun c i => p40 c i rfl) (by omega) p37) (by omega) (fun l3 h3 => LRr.o (radd_fin (s := 0) (j := z7) (by decide) h1 (by rw [(fst_lt hσ.2.2 l1).1]; exact (fst_lt hσ.2.2 l1).2) (p22 t _ h1 (by omega)).1 (p22 t _ h1 (by omega)).2.1 l2 (num_e3 h2.2.2 l3) h3 (by have y9 := h1.2.1.1 0 (by decide); omega) ((congrArg Int64.toInt ((p40 181 (z7).toNat rfl).trans (p31 181 (z7).toNat rfl))).trans (p22 t _ h1 (by omega)).2.2) (by omega) n44 q44) (show (-1 : Int) < 0 by decide))))), ((((((LFr.rf _ _).tr p16 (by decide +kernel)).tr p23 (by decide +kernel)).tr p31 (by decide +kernel)).tr p40 (by decide +kernel)).eq q44), ⟨(((((n44 176 3 (fun e => absurd e.2 (by omega))).trans (p38 176 3 (fun e => absurd e.2 (by omega)))).trans (hR33 176 3 rfl)).trans (hR24 176 3 rfl)).trans (hR17 176 3 rfl)), (((((n44 176 4 (fun e => absurd e.2 (by omega))).trans (p38 176 4 (fun e => absurd e.2 (by omega)))).trans (hR33 176 4 rfl)).trans (hR24 176 4 rfl)).trans (hR17 176 4 rfl))⟩⟩
  refine jy_ic c1 hm rfl (by decide) ?_
  obtain ⟨z49, k50, lz49, uz49⟩ := hH41.ld (c := 176) (i := 3) (A := 0) (B := 9) (bs_12_1 _ _ (by omega) (by omega))
  obtain ⟨z51, k52, lz51, uz51⟩ := hH41.ld (c := 176) (i := 4) (A := 0) (B := 9) (bs_12_1 _ _ (by omega) (by omega))
  exact jx_retz c2 hm rfl rfl ⟨by omega, by omega⟩ ⟨_, rfl, hH41, hF41, by omega, by omega, (fun t σ hσ hk => LRr.seqg (p15 t σ hσ hk) (by omega) (fun l1 h1 => LRr.seqg (p21 t _ 0 (by decide) h1 (by rw [(fst_lt hσ.2.2 l1).1]; exact (fst_lt hσ.2.2 l1).2) (by have y9 := h1.2.1.1 0 (by decide); omega)) (by omega) (fun l2 h2 => LRr.seqz (LRr.put (p30 t _ h2) p38 (fun c i => p40 c i rfl) (by omega) p37) (by omega)))), (((((LFr.rf _ _).tr p16 (by decide +kernel)).tr p23 (by decide +kernel)).tr p31 (by decide +kernel)).tr p40 (by decide +kernel)), ⟨((((p38 176 3 (fun e => absurd e.2 (by omega))).trans (hR33 176 3 rfl)).trans (hR24 176 3 rfl)).trans (hR17 176 3 rfl)), ((((p38 176 4 (fun e => absurd e.2 (by omega))).trans (hR33 176 4 rfl)).trans (hR24 176 4 rfl)).trans (hR17 176 4 rfl))⟩⟩
 refine jy_ic c1 hm rfl (by decide) ?_
 have k53 : M17.1 176 3 = z1 := (hR17 176 3 (by decide +kernel)).trans k2
 have k54 : M17.1 176 4 = z3 := (hR17 176 4 (by decide +kernel)).trans k4
 exact jx_retz c2 hm rfl rfl ⟨by omega, by omega⟩ ⟨_, rfl, hH17, hF17, by omega, by omega, (fun t σ hσ hk => LRr.seqz (p15 t σ hσ hk) (by omega)), ((LFr.rf _ _).tr p16 (by decide +kernel)), ⟨(hR17 176 3 rfl), (hR17 176 4 rfl)⟩⟩
def md_X12_readLine_173w : List (Nat × (Nat × Nat)) := [(173, (5, 5)), (173, (6, 6)), (173, (7, 7)), (173, (8, 8)), (173, (9, 9)), (173, (10, 10)), (173, (11, 11)), (173, (13, 13)), (173, (24, 24)), (173, (25, 25)), (176, (0, 0)), (176, (1, 1)), (176, (2, 2)), (176, (3, 100))]
theorem ct_X12_readLine_173w (X : Int) (hX : 0 ≤ X ∧ X ≤ 100000000) (M0 : JM) (hH0 : HI X M0)  : JOk shp PJ 6 161 [.inr (.inr (.inl 173))] M0 (jRi (fun v M' => HI X M' ∧ Fr md_X12_readLine_173w M0 M' ∧ 0 ≤ v ∧ v ≤ 1 ∧ (∀ (t : TXT) (σ : PSt), RS M0 t σ → LRr t (lineS t σ) v M') ∧ (LFr ml_X12_readLine_173p M0 M') ∧ (∀ (t : TXT) (σ : PSt) (wm : Int × Int), RS M0 t σ → RWv M0 wm → v = 1 → RWv M' (lineW t σ wm)))) := by
 refine ⟨jr_X12_readLine, pj_X12_readLine, fun F c1 c2 c3 => ?_⟩
 have hm := pj_X12_readLine
 change F 0 [some (.inr (.inr (.inl 173)))] [] M0
 have hF0 : Fr md_X12_readLine_173w M0 M0 := Fr.rf _ _
 obtain ⟨z1, k2, lz1, uz1⟩ := hH0.ld (c := 173) (i := 24) (A := 0) (B := 1) (bs_28_9 _ _ (by omega) (by omega))
 obtain ⟨z3, k4, lz3, uz3⟩ := hH0.ld (c := 173) (i := 25) (A := 0) (B := 1) (bs_28_9 _ _ (by omega) (by omega))
 refine jx_load c1 hm rfl rfl rfl rfl ?_
 refine jy_ic c1 hm rfl (by decide) ?_
 refine jv_i c3 hm rfl pj_X12_isWord rfl rfl ⟨_, _, _, rfl, sh_173⟩ rfl ((ct_X12_isWord_173p X (by omega) M0 hH0 0 ⟨by omega, by omega⟩).le (by decide)) (fun z5 _ ⟨rfl, lz5, uz5, p6, p7⟩ => ?_)
 refine jz_eq c1 hm 13 rfl rfl (fun h8 => ?_) (fun h8 => ?_)
 ·
  refine jx_load c1 hm rfl rfl rfl rfl ?_
  refine jy_ic c1 hm rfl (by decide) ?_
  refine jv_i c3 hm rfl pj_X12_isWord rfl rfl ⟨_, _, _, rfl, sh_173⟩ rfl ((ct_X12_isWord_173p X (by omega) M0 hH0 1 ⟨by omega, by omega⟩).le (by decide)) (fun z9 _ ⟨rfl, lz9, uz9, p10, p11⟩ => ?_)
  refine jz_eq c1 hm 26 rfl rfl (fun h12 => ?_) (fun h12 => ?_)
  ·
   refine jx_load c1 hm rfl rfl rfl rfl ?_
   refine jy_ic c1 hm rfl (by decide) ?_
   refine jv_i c3 hm rfl pj_X12_isWord rfl rfl ⟨_, _, _, rfl, sh_173⟩ rfl ((ct_X12_isWord_173p X (by omega) M0 hH0 2 ⟨by omega, by omega⟩).le (by decide)) (fun z13 _ ⟨rfl, lz13, uz13, p14, p15⟩ => ?_)
   refine jz_eq c1 hm 39 rfl rfl (fun h16 => ?_) (fun h16 => ?_)
   ·
    refine jx_load c1 hm rfl rfl rfl rfl ?_
    refine jy_ic c1 hm rfl (by decide) ?_
    refine jv_i c3 hm rfl pj_X12_isWord rfl rfl ⟨_, _, _, rfl, sh_173⟩ rfl ((ct_X12_isWord_173p X (by omega) M0 hH0 3 ⟨by omega, by omega⟩).le (by decide)) (fun z17 _ ⟨rfl, lz17, uz17, p18, p19⟩ => ?_)
    refine jz_eq c1 hm 52 rfl rfl (fun h20 => ?_) (fun h20 => ?_)
    ·
     refine jx_load c1 hm rfl rfl rfl rfl ?_
     refine jy_ic c1 hm rfl (by decide) ?_
     refine jv_i c3 hm rfl pj_X12_isWord rfl rfl ⟨_, _, _, rfl, sh_173⟩ rfl ((ct_X12_isWord_173p X (by omega) M0 hH0 4 ⟨by omega, by omega⟩).le (by decide)) (fun z21 _ ⟨rfl, lz21, uz21, p22, p23⟩ => ?_)
     refine jz_eq c1 hm 65 rfl rfl (fun h24 => ?_) (fun h24 => ?_)
     ·
      refine jx_load c1 hm rfl rfl rfl rfl ?_
      refine jy_ic c1 hm rfl (by decide) ?_
      refine jv_i c3 hm rfl pj_X12_isWord rfl rfl ⟨_, _, _, rfl, sh_173⟩ rfl ((ct_X12_isWord_173p X (by omega) M0 hH0 5 ⟨by omega, by omega⟩).le (by decide)) (fun z25 _ ⟨rfl, lz25, uz25, p26, p27⟩ => ?_)
      refine jz_eq c1 hm 108 rfl rfl (fun h28 => ?_) (fun h28 => ?_)
      ·
       refine jx_load c1 hm rfl rfl rfl rfl ?_
       refine jy_bp c1 hm rfl (by decide) ?_
       refine jv_i c3 hm rfl pj_X12_isWord rfl rfl ⟨_, _, _, rfl, sh_173⟩ rfl ((ct_X12_isWord_173p X (by omega) M0 hH0 6 ⟨by omega, by omega⟩).le (by decide)) (fun z29 _ ⟨rfl, lz29, uz29, p30, p31⟩ => ?_)
       refine jz_ne c1 hm 123 rfl rfl (fun h32 => ?_) (fun h32 => ?_)
       ·
        refine jx_load c1 hm rfl rfl rfl rfl ?_
        refine jx_getz c1 hm rfl sh_173 rfl k4 ?_
        refine jz_eq c1 hm 136 rfl rfl (fun h33 => ?_) (fun h33 => ?_)
        ·
         refine jx_load c1 hm rfl rfl rfl rfl ?_
         refine jy_ic c1 hm rfl (by decide) ?_
         obtain ⟨M34, e34, hH34, hF34, k34, n34, q34⟩ := mup hH0 hF0 (c := 173) (i := 25) (v := 1) (A := 0) (B := 1) (bs_28_9 _ _ (by omega) (by omega)) ⟨by omega, by omega⟩ (jin_of 9 rfl ⟨by omega, by omega⟩)
         refine jm_putz c1 hm rfl sh_173 rfl ⟨by omega, by omega⟩ e34 ?_
         refine jx_load c1 hm rfl rfl rfl rfl ?_
         obtain ⟨z35, k36, lz35, uz35⟩ := hH34.ld (c := 173) (i := 5) (A := 0) (B := 940) (bs_28_3 _ _ (by omega) (by omega))
         refine jv_v c3 hm rfl pj_X12_go rfl rfl ⟨_, _, _, rfl, sh_173⟩ rfl ((ct_X12_go_173p X (by omega) M34 hH34 ).le (by decide)) (fun M39 ⟨hH39, hR39, p37, p38⟩ => ?_)
         have hF39 := hF34.tr hR39 (by decide +kernel)
         refine jx_load c1 hm rfl rfl rfl rfl ?_
         refine jy_ic c1 hm rfl (by decide) ?_
         refine jx_load c1 hm rfl rfl rfl rfl ?_
         refine jy_ic c1 hm rfl (by decide) ?_
         refine jy_bp c1 hm rfl (by decide) ?_
         refine jv_i c3 hm rfl pj_X12_readNumber rfl rfl ⟨_, _, _, rfl, sh_173⟩ rfl ((ct_X12_readNumber_173w X (by omega) M39 hH39 0 ⟨by omega, by omega⟩ 9 ⟨by omega, by omega⟩).le (by decide)) (fun z40 M45 ⟨hH45, hR45, lz40, uz40, p41, p42, p43, p44⟩ => ?_)
         have hF45 := hF39.tr hR45 (by decide +kernel)
         obtain ⟨z46, k47, lz46, uz46⟩ := hH45.ld (c := 173) (i := 13) (A := (-2147483648)) (B := 2147483647) (bs_28_7 _ _ (by omega) (by omega))
         refine jv_i c3 hm rfl pj_X12_put rfl rfl ⟨_, _, _, rfl, sh_173⟩ rfl ((ct_X12_put_173p X (by omega) M45 hH45 4 ⟨by omega, by omega⟩ z40 ⟨by omega, by omega⟩ (by rw [show bnd X 176 (4 : Int).toNat = (0, 9) from (bs_12_1 _ _ (by omega) (by omega))]; dsimp only; omega)).le (by decide)) (fun z48 M53 ⟨hH53, hR53, lz48, uz48, p49, p50, p51, p52⟩ => ?_)
         have hF53 := hF45.tr hR53 (by decide +kernel)
         exact jx_retz c2 hm rfl rfl ⟨by omega, by omega⟩ ⟨_, rfl, hH53, hF53, by omega, by omega, (fun t σ hσ => LRr.eq (rl_6 hσ (p7.resolve_left (by omega)) (p11.resolve_left (by omega)) (p15.resolve_left (by omega)) (p19.resolve_left (by omega)) (p23.resolve_left (by omega)) (p27.resolve_left (by omega)) (p30 (by omega))) (LRr.eq (rwm_eq (i := 25) (by decide) hσ (by omega)) (LRr.put (wm_cv (p42 t _ (RS.next (RS.flag (c := 173) (i := 25) (j := 73) hσ n34 q34 (Or.inr (Or.inr (Or.inr ⟨rfl, rfl, rfl, by omega⟩)))) (by have y9 := (WD.y hσ (p30 (by omega)) (by decide)).1; exact (show 2 ≤ kK t σ by omega)) p37 hR39 p38 (by decide +kernel)))) p50 (fun c i => p52 c i rfl) (by decide) p49))), (((((LFr.rf _ _).eq q34).tr p38 (by decide +kernel)).tr p43 (by decide +kernel)).tr p52 (by decide +kernel)), (fun t σ wm hσ hw y => RWv.w6 hw hσ (p30 (by omega)) ((((p50 176 3 (fun e => absurd e.2 (by omega))).trans (hR45 176 3 rfl)).trans (hR39 176 3 rfl)).trans (n34 176 3 (fun h => absurd h.1 (by decide)))) ((p51.resolve_left (by omega)).trans ((p44 t (goS t (setS 73 σ).2) (RS.next (RS.flag (c := 173) (i := 25) (j := 73) hσ n34 q34 (Or.inr (Or.inr (Or.inr ⟨rfl, rfl, rfl, by omega⟩)))) (by have y9 := (WD.y hσ (p30 (by omega)) (by decide)).1; exact (show 2 ≤ kK t σ by omega)) p37 hR39 p38 (by decide +kernel)) (by omega)).trans kV_fl)))⟩
        refine jx_load c1 hm rfl rfl rfl rfl ?_
        refine jy_ic c1 hm rfl (by decide) ?_
        obtain ⟨z54, k55, lz54, uz54⟩ := hH0.ld (c := 173) (i := 6) (A := 0) (B := 940) (bs_28_3 _ _ (by omega) (by omega))
        refine jv_i c3 hm rfl pj_X12_bad rfl rfl ⟨_, _, _, rfl, sh_173⟩ rfl ((ct_X12_bad_173p X (by omega) M0 hH0 3 ⟨by omega, by omega⟩).le (by decide)) (fun z56 M60 ⟨hH60, hR60, lz56, uz56, p57, p58, p59⟩ => ?_)
        have hF60 := hF0.tr hR60 (by decide +kernel)
        obtain ⟨z61, k62, lz61, uz61⟩ := hH60.ld (c := 173) (i := 11) (A := 0) (B := 940) (bs_28_6 _ _ (by omega) (by omega))
        exact jx_retz c2 hm rfl rfl ⟨by omega, by omega⟩ ⟨_, rfl, hH60, hF60, by omega, by omega, (fun t σ hσ => LRr.eq (rl_6 hσ (p7.resolve_left (by omega)) (p11.resolve_left (by omega)) (p15.resolve_left (by omega)) (p19.resolve_left (by omega)) (p23.resolve_left (by omega)) (p27.resolve_left (by omega)) (p30 (by omega))) (rwm_no (i := 25) (by decide) hσ (by omega) (by omega) p58)), ((LFr.rf _ _).tr p59 (by decide +kernel)), (fun t σ wm hσ hw y => absurd y (by omega))⟩
       refine jx_load c1 hm rfl rfl rfl rfl ?_
       refine jy_ic c1 hm rfl (by decide) ?_
       obtain ⟨z63, k64, lz63, uz63⟩ := hH0.ld (c := 173) (i := 6) (A := 0) (B := 940) (bs_28_3 _ _ (by omega) (by omega))
       refine jv_i c3 hm rfl pj_X12_bad rfl rfl ⟨_, _, _, rfl, sh_173⟩ rfl ((ct_X12_bad_173p X (by omega) M0 hH0 1 ⟨by omega, by omega⟩).le (by decide)) (fun z65 M69 ⟨hH69, hR69, lz65, uz65, p66, p67, p68⟩ => ?_)
       have hF69 := hF0.tr hR69 (by decide +kernel)
       obtain ⟨z70, k71, lz70, uz70⟩ := hH69.ld (c := 173) (i := 11) (A := 0) (B := 940) (bs_28_6 _ _ (by omega) (by omega))
       exact jx_retz c2 hm rfl rfl ⟨by omega, by omega⟩ ⟨_, rfl, hH69, hF69, by omega, by omega, (fun t σ hσ => LRr.no (rl_no hσ (p7.resolve_left (by omega)) (p11.resolve_left (by omega)) (p15.resolve_left (by omega)) (p19.resolve_left (by omega)) (p23.resolve_left (by omega)) (p27.resolve_left (by omega)) (p31.resolve_left (by omega))) hσ (by omega) p67), ((LFr.rf _ _).tr p68 (by decide +kernel)), (fun t σ wm hσ hw y => absurd y (by omega))⟩
      refine jx_load c1 hm rfl rfl rfl rfl ?_
      refine jx_getz c1 hm rfl sh_173 rfl k2 ?_
      refine jz_eq c1 hm 86 rfl rfl (fun h72 => ?_) (fun h72 => ?_)
      ·
       refine jx_load c1 hm rfl rfl rfl rfl ?_
       refine jy_ic c1 hm rfl (by decide) ?_
       obtain ⟨M73, e73, hH73, hF73, k73, n73, q73⟩ := mup hH0 hF0 (c := 173) (i := 24) (v := 1) (A := 0) (B := 1) (bs_28_9 _ _ (by omega) (by omega)) ⟨by omega, by omega⟩ (jin_of 8 rfl ⟨by omega, by omega⟩)
       refine jm_putz c1 hm rfl sh_173 rfl ⟨by omega, by omega⟩ e73 ?_
       refine jx_load c1 hm rfl rfl rfl rfl ?_
       obtain ⟨z74, k75, lz74, uz74⟩ := hH73.ld (c := 173) (i := 5) (A := 0) (B := 940) (bs_28_3 _ _ (by omega) (by omega))
       refine jv_v c3 hm rfl pj_X12_go rfl rfl ⟨_, _, _, rfl, sh_173⟩ rfl ((ct_X12_go_173p X (by omega) M73 hH73 ).le (by decide)) (fun M78 ⟨hH78, hR78, p76, p77⟩ => ?_)
       have hF78 := hF73.tr hR78 (by decide +kernel)
       refine jx_load c1 hm rfl rfl rfl rfl ?_
       refine jy_ic c1 hm rfl (by decide) ?_
       refine jx_load c1 hm rfl rfl rfl rfl ?_
       refine jy_ic c1 hm rfl (by decide) ?_
       refine jy_bp c1 hm rfl (by decide) ?_
       refine jv_i c3 hm rfl pj_X12_readNumber rfl rfl ⟨_, _, _, rfl, sh_173⟩ rfl ((ct_X12_readNumber_173w X (by omega) M78 hH78 0 ⟨by omega, by omega⟩ 9 ⟨by omega, by omega⟩).le (by decide)) (fun z79 M84 ⟨hH84, hR84, lz79, uz79, p80, p81, p82, p83⟩ => ?_)
       have hF84 := hF78.tr hR84 (by decide +kernel)
       obtain ⟨z85, k86, lz85, uz85⟩ := hH84.ld (c := 173) (i := 13) (A := (-2147483648)) (B := 2147483647) (bs_28_7 _ _ (by omega) (by omega))
       refine jv_i c3 hm rfl pj_X12_put rfl rfl ⟨_, _, _, rfl, sh_173⟩ rfl ((ct_X12_put_173p X (by omega) M84 hH84 3 ⟨by omega, by omega⟩ z79 ⟨by omega, by omega⟩ (by rw [show bnd X 176 (3 : Int).toNat = (0, 9) from (bs_12_1 _ _ (by omega) (by omega))]; dsimp only; omega)).le (by decide)) (fun z87 M92 ⟨hH92, hR92, lz87, uz87, p88, p89, p90, p91⟩ => ?_)
       have hF92 := hF84.tr hR92 (by decide +kernel)
       exact jx_retz c2 hm rfl rfl ⟨by omega, by omega⟩ ⟨_, rfl, hH92, hF92, by omega, by omega, (fun t σ hσ => LRr.eq (rl_5 hσ (p7.resolve_left (by omega)) (p11.resolve_left (by omega)) (p15.resolve_left (by omega)) (p19.resolve_left (by omega)) (p23.resolve_left (by omega)) (p26 (by omega))) (LRr.eq (rwm_eq (i := 24) (by decide) hσ (by omega)) (LRr.put (wm_cv (p81 t _ (RS.next (RS.flag (c := 173) (i := 24) (j := 72) hσ n73 q73 (Or.inr (Or.inr (Or.inl ⟨rfl, rfl, rfl, by omega⟩)))) (by have y9 := (WD.y hσ (p26 (by omega)) (by decide)).1; exact (show 2 ≤ kK t σ by omega)) p76 hR78 p77 (by decide +kernel)))) p89 (fun c i => p91 c i rfl) (by decide) p88))), (((((LFr.rf _ _).eq q73).tr p77 (by decide +kernel)).tr p82 (by decide +kernel)).tr p91 (by decide +kernel)), (fun t σ wm hσ hw y => RWv.w5 hw hσ (p26 (by omega)) ((p90.resolve_left (by omega)).trans ((p83 t (goS t (setS 72 σ).2) (RS.next (RS.flag (c := 173) (i := 24) (j := 72) hσ n73 q73 (Or.inr (Or.inr (Or.inl ⟨rfl, rfl, rfl, by omega⟩)))) (by have y9 := (WD.y hσ (p26 (by omega)) (by decide)).1; exact (show 2 ≤ kK t σ by omega)) p76 hR78 p77 (by decide +kernel)) (by omega)).trans kV_fl)) ((((p89 176 4 (fun e => absurd e.2 (by omega))).trans (hR84 176 4 rfl)).trans (hR78 176 4 rfl)).trans (n73 176 4 (fun h => absurd h.1 (by decide)))))⟩
      refine jx_load c1 hm rfl rfl rfl rfl ?_
      refine jy_ic c1 hm rfl (by decide) ?_
      obtain ⟨z93, k94, lz93, uz93⟩ := hH0.ld (c := 173) (i := 6) (A := 0) (B := 940) (bs_28_3 _ _ (by omega) (by omega))
      refine jv_i c3 hm rfl pj_X12_bad rfl rfl ⟨_, _, _, rfl, sh_173⟩ rfl ((ct_X12_bad_173p X (by omega) M0 hH0 3 ⟨by omega, by omega⟩).le (by decide)) (fun z95 M99 ⟨hH99, hR99, lz95, uz95, p96, p97, p98⟩ => ?_)
      have hF99 := hF0.tr hR99 (by decide +kernel)
      obtain ⟨z100, k101, lz100, uz100⟩ := hH99.ld (c := 173) (i := 11) (A := 0) (B := 940) (bs_28_6 _ _ (by omega) (by omega))
      exact jx_retz c2 hm rfl rfl ⟨by omega, by omega⟩ ⟨_, rfl, hH99, hF99, by omega, by omega, (fun t σ hσ => LRr.eq (rl_5 hσ (p7.resolve_left (by omega)) (p11.resolve_left (by omega)) (p15.resolve_left (by omega)) (p19.resolve_left (by omega)) (p23.resolve_left (by omega)) (p26 (by omega))) (rwm_no (i := 24) (by decide) hσ (by omega) (by omega) p97)), ((LFr.rf _ _).tr p98 (by decide +kernel)), (fun t σ wm hσ hw y => absurd y (by omega))⟩
     refine jx_load c1 hm rfl rfl rfl rfl ?_
     obtain ⟨z102, k103, lz102, uz102⟩ := hH0.ld (c := 176) (i := 3) (A := 0) (B := 9) (bs_12_1 _ _ (by omega) (by omega))
     obtain ⟨z104, k105, lz104, uz104⟩ := hH0.ld (c := 176) (i := 4) (A := 0) (B := 9) (bs_12_1 _ _ (by omega) (by omega))
     refine jv_i c3 hm rfl pj_X12_readOwes rfl rfl ⟨_, _, _, rfl, sh_173⟩ rfl ((ct_X12_readOwes_173w X (by omega) M0 hH0 ).le (by decide)) (fun z106 M110 ⟨hH110, hR110, lz106, uz106, p107, p108, p109⟩ => ?_)
     have hF110 := hF0.tr hR110 (by decide +kernel)
     obtain ⟨z111, k112, lz111, uz111⟩ := hH110.ld (c := 176) (i := 3) (A := 0) (B := 9) (bs_12_1 _ _ (by omega) (by omega))
     obtain ⟨z113, k114, lz113, uz113⟩ := hH110.ld (c := 176) (i := 4) (A := 0) (B := 9) (bs_12_1 _ _ (by omega) (by omega))
     exact jx_retz c2 hm rfl rfl ⟨by omega, by omega⟩ ⟨_, rfl, hH110, hF110, by omega, by omega, (fun t σ hσ => LRr.eq (rl_4 hσ (p7.resolve_left (by omega)) (p11.resolve_left (by omega)) (p15.resolve_left (by omega)) (p19.resolve_left (by omega)) (p22 (by omega))) (p107 t σ hσ (by have y9 := (WD.y hσ (p22 (by omega)) (by decide)).1; omega))), ((LFr.rf _ _).tr p108 (by decide +kernel)), (fun t σ wm hσ hw y => RWv.kk (k := 4) hw hσ (p22 (by omega)) (by decide) p109.1 p109.2)⟩
    refine jx_load c1 hm rfl rfl rfl rfl ?_
    obtain ⟨z115, k116, lz115, uz115⟩ := hH0.ld (c := 176) (i := 3) (A := 0) (B := 9) (bs_12_1 _ _ (by omega) (by omega))
    obtain ⟨z117, k118, lz117, uz117⟩ := hH0.ld (c := 176) (i := 4) (A := 0) (B := 9) (bs_12_1 _ _ (by omega) (by omega))
    refine jv_i c3 hm rfl pj_X12_readGood rfl rfl ⟨_, _, _, rfl, sh_173⟩ rfl ((ct_X12_readGood_173w X (by omega) M0 hH0 ).le (by decide)) (fun z119 M123 ⟨hH123, hR123, lz119, uz119, p120, p121, p122⟩ => ?_)
    have hF123 := hF0.tr hR123 (by decide +kernel)
    obtain ⟨z124, k125, lz124, uz124⟩ := hH123.ld (c := 176) (i := 3) (A := 0) (B := 9) (bs_12_1 _ _ (by omega) (by omega))
    obtain ⟨z126, k127, lz126, uz126⟩ := hH123.ld (c := 176) (i := 4) (A := 0) (B := 9) (bs_12_1 _ _ (by omega) (by omega))
    exact jx_retz c2 hm rfl rfl ⟨by omega, by omega⟩ ⟨_, rfl, hH123, hF123, by omega, by omega, (fun t σ hσ => LRr.eq (rl_3 hσ (p7.resolve_left (by omega)) (p11.resolve_left (by omega)) (p15.resolve_left (by omega)) (p18 (by omega))) (p120 t σ hσ (by have y9 := (WD.y hσ (p18 (by omega)) (by decide)).1; omega))), ((LFr.rf _ _).tr p121 (by decide +kernel)), (fun t σ wm hσ hw y => RWv.kk (k := 3) hw hσ (p18 (by omega)) (by decide) p122.1 p122.2)⟩
   refine jx_load c1 hm rfl rfl rfl rfl ?_
   obtain ⟨z128, k129, lz128, uz128⟩ := hH0.ld (c := 176) (i := 3) (A := 0) (B := 9) (bs_12_1 _ _ (by omega) (by omega))
   obtain ⟨z130, k131, lz130, uz130⟩ := hH0.ld (c := 176) (i := 4) (A := 0) (B := 9) (bs_12_1 _ _ (by omega) (by omega))
   refine jv_i c3 hm rfl pj_X12_readMinds rfl rfl ⟨_, _, _, rfl, sh_173⟩ rfl ((ct_X12_readMinds_173w X (by omega) M0 hH0 ).le (by decide)) (fun z132 M136 ⟨hH136, hR136, lz132, uz132, p133, p134, p135⟩ => ?_)
   have hF136 := hF0.tr hR136 (by decide +kernel)
   obtain ⟨z137, k138, lz137, uz137⟩ := hH136.ld (c := 176) (i := 3) (A := 0) (B := 9) (bs_12_1 _ _ (by omega) (by omega))
   obtain ⟨z139, k140, lz139, uz139⟩ := hH136.ld (c := 176) (i := 4) (A := 0) (B := 9) (bs_12_1 _ _ (by omega) (by omega))
   exact jx_retz c2 hm rfl rfl ⟨by omega, by omega⟩ ⟨_, rfl, hH136, hF136, by omega, by omega, (fun t σ hσ => LRr.eq (rl_2 hσ (p7.resolve_left (by omega)) (p11.resolve_left (by omega)) (p14 (by omega))) (p133 t σ hσ (by have y9 := (WD.y hσ (p14 (by omega)) (by decide)).1; omega))), ((LFr.rf _ _).tr p134 (by decide +kernel)), (fun t σ wm hσ hw y => RWv.kk (k := 2) hw hσ (p14 (by omega)) (by decide) p135.1 p135.2)⟩
  refine jx_load c1 hm rfl rfl rfl rfl ?_
  obtain ⟨z141, k142, lz141, uz141⟩ := hH0.ld (c := 176) (i := 3) (A := 0) (B := 9) (bs_12_1 _ _ (by omega) (by omega))
  obtain ⟨z143, k144, lz143, uz143⟩ := hH0.ld (c := 176) (i := 4) (A := 0) (B := 9) (bs_12_1 _ _ (by omega) (by omega))
  refine jv_i c3 hm rfl pj_X12_readForfeit rfl rfl ⟨_, _, _, rfl, sh_173⟩ rfl ((ct_X12_readForfeit_173w X (by omega) M0 hH0 ).le (by decide)) (fun z145 M149 ⟨hH149, hR149, lz145, uz145, p146, p147, p148⟩ => ?_)
  have hF149 := hF0.tr hR149 (by decide +kernel)
  obtain ⟨z150, k151, lz150, uz150⟩ := hH149.ld (c := 176) (i := 3) (A := 0) (B := 9) (bs_12_1 _ _ (by omega) (by omega))
  obtain ⟨z152, k153, lz152, uz152⟩ := hH149.ld (c := 176) (i := 4) (A := 0) (B := 9) (bs_12_1 _ _ (by omega) (by omega))
  exact jx_retz c2 hm rfl rfl ⟨by omega, by omega⟩ ⟨_, rfl, hH149, hF149, by omega, by omega, (fun t σ hσ => LRr.eq (rl_1 hσ (p7.resolve_left (by omega)) (p10 (by omega))) (p146 t σ hσ (by have y9 := (WD.y hσ (p10 (by omega)) (by decide)).1; omega))), ((LFr.rf _ _).tr p147 (by decide +kernel)), (fun t σ wm hσ hw y => RWv.kk (k := 1) hw hσ (p10 (by omega)) (by decide) p148.1 p148.2)⟩
 refine jx_load c1 hm rfl rfl rfl rfl ?_
 obtain ⟨z154, k155, lz154, uz154⟩ := hH0.ld (c := 176) (i := 3) (A := 0) (B := 9) (bs_12_1 _ _ (by omega) (by omega))
 obtain ⟨z156, k157, lz156, uz156⟩ := hH0.ld (c := 176) (i := 4) (A := 0) (B := 9) (bs_12_1 _ _ (by omega) (by omega))
 refine jv_i c3 hm rfl pj_X12_readMan rfl rfl ⟨_, _, _, rfl, sh_173⟩ rfl ((ct_X12_readMan_173w X (by omega) M0 hH0 ).le (by decide)) (fun z158 M162 ⟨hH162, hR162, lz158, uz158, p159, p160, p161⟩ => ?_)
 have hF162 := hF0.tr hR162 (by decide +kernel)
 obtain ⟨z163, k164, lz163, uz163⟩ := hH162.ld (c := 176) (i := 3) (A := 0) (B := 9) (bs_12_1 _ _ (by omega) (by omega))
 obtain ⟨z165, k166, lz165, uz165⟩ := hH162.ld (c := 176) (i := 4) (A := 0) (B := 9) (bs_12_1 _ _ (by omega) (by omega))
 exact jx_retz c2 hm rfl rfl ⟨by omega, by omega⟩ ⟨_, rfl, hH162, hF162, by omega, by omega, (fun t σ hσ => LRr.eq (rl_0 hσ  (p6 (by omega))) (p159 t σ hσ (by have y9 := (WD.y hσ (p6 (by omega)) (by decide)).1; omega))), ((LFr.rf _ _).tr p160 (by decide +kernel)), (fun t σ wm hσ hw y => RWv.kk (k := 0) hw hσ (p6 (by omega)) (by decide) p161.1 p161.2)⟩
def md_X12_duchy_173w : List (Nat × (Nat × Nat)) := [(173, (0, 0)), (173, (2, 2)), (173, (3, 3)), (173, (4, 4)), (173, (5, 5)), (173, (6, 6)), (173, (7, 7)), (173, (8, 8)), (173, (9, 9)), (173, (10, 10)), (173, (11, 11)), (173, (13, 13)), (173, (23, 23)), (173, (24, 24)), (173, (25, 25)), (175, (0, 100)), (175, (101, 475)), (176, (0, 100))]
theorem ct_X12_duchy_173w (X : Int) (hX : 0 ≤ X ∧ X ≤ 100000000) (M0 : JM) (hH0 : HI X M0) (hp0 : SOK M0) : JOk shp PJ 7 99 [.inr (.inr (.inl 173))] M0 (jRi (fun v M' => HI X M' ∧ Fr md_X12_duchy_173w M0 M' ∧ (-941) ≤ v ∧ v ≤ 470 ∧ (SOK M') ∧ (v < 0 ∨ M'.1 175 234 = 0) ∧ (v = duS (uR M0) (M0.1 173 2)) ∧ (M'.1 173 2 = 0) ∧ (0 ≤ v → nq M' 175 0 = fiS (uR M0) (M0.1 173 2)) ∧ (v < 0 → nq M' 175 0 = nq M0 175 0))) := by
 refine ⟨jr_X12_duchy, pj_X12_duchy, fun F c1 c2 c3 => ?_⟩
 have hm := pj_X12_duchy
 change F 0 [some (.inr (.inr (.inl 173))), none, none] [] M0
 have hF0 : Fr md_X12_duchy_173w M0 M0 := Fr.rf _ _
 obtain ⟨z1, k2, lz1, uz1⟩ := hH0.ld (c := 173) (i := 2) (A := 0) (B := 940) (bs_28_1 _ _ (by omega) (by omega))
 refine jx_load c1 hm rfl rfl rfl rfl ?_
 refine jy_sp c1 hm rfl (by decide) ?_
 refine jv_v c3 hm rfl pj_X12_begin rfl rfl ⟨_, _, _, rfl, sh_173⟩ rfl ((ct_X12_begin_173p X (by omega) M0 hH0 900 ⟨by omega, by omega⟩).le (by decide)) (fun M6 ⟨hH6, hR6, p3, p4, p5⟩ => ?_)
 have hF6 := hF0.tr hR6 (by decide +kernel)
 obtain ⟨z7, k8, lz7, uz7⟩ := hH6.ld (c := 173) (i := 2) (A := 0) (B := 940) (bs_28_1 _ _ (by omega) (by omega))
 refine jy_ic c1 hm rfl (by decide) ?_
 refine jx_stor c1 hm (L' := [some (.inr (.inr (.inl 173))), some (.inl 0), none]) rfl rfl rfl rfl rfl ?_
 have W15 : ∀ (n16 : Nat) (b9 : Int) (hb9 : 0 ≤ b9 ∧ b9 ≤ 101) (M10 : JM) (hH10 : HI (X) M10) (hF10 : Fr md_X12_duchy_173w M0 M10) (k11 : M10.1 173 2 = z7) (hE : ∀ j : Nat, M10.1 175 j = M0.1 175 j) (hfz : FLP 176 0 b9 M10) (hrt : RTk M10 (uR M0, (M0.1 173 2, 900)) 0), (-b9 + 101) < (n16 : Int) → F 9 [some (.inr (.inr (.inl 173))), some (.inl b9), none] [] M10 := by
  intro n16
  induction n16 with
  | zero => intros; omega
  | succ n16 ihW15 =>
   intro b9 hb9 M10 hH10 hF10 k11 hE hfz hrt hrW15
   refine jx_load c1 hm rfl rfl rfl rfl ?_
   skip
   refine jy_bp c1 hm rfl (by decide) ?_
   refine jc_ge c1 hm 28 rfl rfl (fun h17 => ?_) (fun h17 => ?_)
   ·
    refine jy_ic c1 hm rfl (by decide) ?_
    refine jx_stor c1 hm (L' := [some (.inr (.inr (.inl 173))), some (.inl 0), none]) rfl rfl rfl rfl rfl ?_
    have W24 : ∀ (n25 : Nat) (b18 : Int) (hb18 : 0 ≤ b18 ∧ b18 ≤ 36) (M19 : JM) (hH19 : HI (X) M19) (hF19 : Fr md_X12_duchy_173w M0 M19) (k20 : M19.1 173 2 = z7) (hE : ∀ j : Nat, M19.1 175 j = M0.1 175 j) (hrz : RZ M19 b18) (hrt : RTk M19 (uR M0, (M0.1 173 2, 900)) 0), (-b18 + 36) < (n25 : Int) → F 30 [some (.inr (.inr (.inl 173))), some (.inl b18), none] [] M19 := by
     intro n25
     induction n25 with
     | zero => intros; omega
     | succ n25 ihW24 =>
      intro b18 hb18 M19 hH19 hF19 k20 hE hrz hrt hrW24
      refine jx_load c1 hm rfl rfl rfl rfl ?_
      skip
      refine jy_bp c1 hm rfl (by decide) ?_
      refine jc_ge c1 hm 52 rfl rfl (fun h26 => ?_) (fun h26 => ?_)
      ·
       refine jx_load c1 hm rfl rfl rfl rfl ?_
       refine jx_getr c1 hm rfl sh_173 rfl ?_
       refine jy_ic c1 hm rfl (by decide) ?_
       refine jy_ic c1 hm rfl (by decide) ?_
       obtain ⟨M27, e27, hH27, hF27, k27, n27, q27⟩ := mup hH19 hF19 (c := 176) (i := 3) (v := 1) (A := 0) (B := 9) (bs_12_1 _ _ (by omega) (by omega)) ⟨by omega, by omega⟩ (jin_of 17 rfl ⟨by omega, by omega⟩)
       refine jm_iast c1 hm rfl sh_176 ⟨by omega, by omega⟩ e27 ?_
       refine jx_load c1 hm rfl rfl rfl rfl ?_
       refine jx_getr c1 hm rfl sh_173 rfl ?_
       refine jy_ic c1 hm rfl (by decide) ?_
       refine jy_ic c1 hm rfl (by decide) ?_
       obtain ⟨M28, e28, hH28, hF28, k28, n28, q28⟩ := mup hH27 hF27 (c := 176) (i := 4) (v := 1) (A := 0) (B := 9) (bs_12_1 _ _ (by omega) (by omega)) ⟨by omega, by omega⟩ (jin_of 17 rfl ⟨by omega, by omega⟩)
       refine jm_iast c1 hm rfl sh_176 ⟨by omega, by omega⟩ e28 ?_
       refine jx_load c1 hm rfl rfl rfl rfl ?_
       refine jy_ic c1 hm rfl (by decide) ?_
       obtain ⟨M29, e29, hH29, hF29, k29, n29, q29⟩ := mup hH28 hF28 (c := 173) (i := 24) (v := 0) (A := 0) (B := 1) (bs_28_9 _ _ (by omega) (by omega)) ⟨by omega, by omega⟩ (jin_of 13 rfl ⟨by omega, by omega⟩)
       refine jm_putz c1 hm rfl sh_173 rfl ⟨by omega, by omega⟩ e29 ?_
       refine jx_load c1 hm rfl rfl rfl rfl ?_
       refine jy_ic c1 hm rfl (by decide) ?_
       obtain ⟨M30, e30, hH30, hF30, k30, n30, q30⟩ := mup hH29 hF29 (c := 173) (i := 25) (v := 0) (A := 0) (B := 1) (bs_28_9 _ _ (by omega) (by omega)) ⟨by omega, by omega⟩ (jin_of 14 rfl ⟨by omega, by omega⟩)
       refine jm_putz c1 hm rfl sh_173 rfl ⟨by omega, by omega⟩ e30 ?_
       refine jy_ic c1 hm rfl (by decide) ?_
       refine jx_stor c1 hm (L' := [some (.inr (.inr (.inl 173))), some (.inl 0), none]) rfl rfl rfl rfl rfl ?_
       have W39 : ∀ (n40 : Nat) (b31 : Int) (hb31 : 0 ≤ b31 ∧ b31 ≤ 471) (M32 : JM) (hH32 : HI (X) M32) (hF32 : Fr md_X12_duchy_173w M0 M32) (k34 : M32.1 173 2 = z7) (h35 : 0 ≤ b31 ∧ b31 ≤ 470) (hE : ∀ j : Nat, M32.1 175 j = M0.1 175 j) (hrl : RLr (uR M0, (M0.1 173 2, 900)) M32 b31) (hrw : RLrW (uR M0, (M0.1 173 2, 900)) M32 b31), 471 - b31 < (n40 : Int) → F 78 [some (.inr (.inr (.inl 173))), some (.inl b31), none] [] M32 := by
        intro n40
        induction n40 with
        | zero => intros; omega
        | succ n40 ihW39 =>
         intro b31 hb31 M32 hH32 hF32 k34 h35 hE hrl hrw hrW39
         refine jx_load c1 hm rfl rfl rfl rfl ?_
         skip
         obtain ⟨z41, k42, lz41, uz41⟩ := hH32.ld (c := 173) (i := 7) (A := 0) (B := 4) (bs_28_4 _ _ (by omega) (by omega))
         refine jx_geti c1 hm rfl sh_173 rfl k42 ?_
         refine jz_eq c1 hm 112 rfl rfl (fun h43 => ?_) (fun h43 => ?_)
         ·
          refine jy_ic c1 hm rfl (by decide) ?_
          have hdu := RLr.fin hrl (by omega)
          have hfw := RLrW.fin hrw (by omega)
          refine jx_stor c1 hm (L' := [some (.inr (.inr (.inl 173))), some (.inl b31), some (.inl 0)]) rfl rfl rfl rfl rfl ?_
          have W49 : ∀ (n50 : Nat) (b44 : Int) (hb44 : 0 ≤ b44 ∧ b44 ≤ 36) (M45 : JM) (hH45 : HI (X) M45) (hF45 : Fr md_X12_duchy_173w M0 M45) (k46 : M45.1 173 2 = z7) (k47 : M45.1 173 7 = z41) (hfw : nq M45 176 0 = (allW (uR M0, (M0.1 173 2, 900)) 1000 st0 (1, 1))), (-b44 + 36) < (n50 : Int) → F 114 [some (.inr (.inr (.inl 173))), some (.inl b31), some (.inl b44)] [] M45 := by
           intro n50
           induction n50 with
           | zero => intros; omega
           | succ n50 ihW49 =>
            intro b44 hb44 M45 hH45 hF45 k46 k47 hfw hrW49
            refine jx_load c1 hm rfl rfl rfl rfl ?_
            refine jy_bp c1 hm rfl (by decide) ?_
            refine jc_ge c1 hm 160 rfl rfl (fun h51 => ?_) (fun h51 => ?_)
            ·
             refine jy_ic c1 hm rfl (by decide) ?_
             refine jx_stor c1 hm (L' := [some (.inr (.inr (.inl 173))), some (.inl b31), some (.inl 0)]) rfl rfl rfl rfl rfl ?_
             have W58 : ∀ (n59 : Nat) (b52 : Int) (hb52 : 0 ≤ b52 ∧ b52 ≤ 101) (M53 : JM) (hH53 : HI (X) M53) (hF53 : Fr md_X12_duchy_173w M0 M53) (k54 : M53.1 173 2 = z7) (k55 : M53.1 173 7 = z41) (hfw : nq M53 176 0 = (allW (uR M0, (M0.1 173 2, 900)) 1000 st0 (1, 1))) (hcn : ∀ j : Nat, (j : Int) < b52 → M53.1 175 j = M53.1 176 j), (-b52 + 101) < (n59 : Int) → F 162 [some (.inr (.inr (.inl 173))), some (.inl b31), some (.inl b52)] [] M53 := by
              intro n59
              induction n59 with
              | zero => intros; omega
              | succ n59 ihW58 =>
               intro b52 hb52 M53 hH53 hF53 k54 k55 hfw hcn hrW58
               refine jx_load c1 hm rfl rfl rfl rfl ?_
               refine jy_bp c1 hm rfl (by decide) ?_
               refine jc_ge c1 hm 186 rfl rfl (fun h60 => ?_) (fun h60 => ?_)
               ·
                refine jy_ic c1 hm rfl (by decide) ?_
                refine jx_stor c1 hm (L' := [some (.inr (.inr (.inl 173))), some (.inl b31), some (.inl 0)]) rfl rfl rfl rfl rfl ?_
                have W66 : ∀ (n67 : Nat) (b61 : Int) (hb61 : 0 ≤ b61 ∧ b61 ≤ 18) (M62 : JM) (hH62 : HI (X) M62) (hF62 : Fr md_X12_duchy_173w M0 M62) (k63 : M62.1 173 2 = z7) (k64 : M62.1 173 7 = z41) (hnn : nq M62 175 0 = (allW (uR M0, (M0.1 173 2, 900)) 1000 st0 (1, 1))), (-b61 + 18) < (n67 : Int) → F 188 [some (.inr (.inr (.inl 173))), some (.inl b31), some (.inl b61)] [] M62 := by
                 intro n67
                 induction n67 with
                 | zero => intros; omega
                 | succ n67 ihW66 =>
                  intro b61 hb61 M62 hH62 hF62 k63 k64 hnn hrW66
                  refine jx_load c1 hm rfl rfl rfl rfl ?_
                  refine jy_bp c1 hm rfl (by decide) ?_
                  refine jc_ge c1 hm 212 rfl rfl (fun h68 => ?_) (fun h68 => ?_)
                  ·
                   refine jx_load c1 hm rfl rfl rfl rfl ?_
                   refine jv_v c3 hm rfl pj_X12_startSo rfl rfl ⟨_, _, _, rfl, sh_173⟩ rfl ((ct_X12_startSo_173 X (by omega) M62 hH62 ).le (by decide)) (fun M70 ⟨hH70, hR70, p69⟩ => ?_)
                   have hF70 := hF62.tr hR70 (by decide +kernel)
                   obtain ⟨z71, k72, lz71, uz71⟩ := hH70.ld (c := 175) (i := 234) (A := (-2147483648)) (B := 2147483647) (bs_11_11 _ _ (by omega) (by omega))
                   refine jx_load c1 hm rfl rfl rfl rfl ?_
                   refine jy_ic c1 hm rfl (by decide) ?_
                   obtain ⟨M73, e73, hH73, hF73, k73, n73, q73⟩ := mup hH70 hF70 (c := 173) (i := 23) (v := 0) (A := 0) (B := 8) (bs_28_8 _ _ (by omega) (by omega)) ⟨by omega, by omega⟩ (jin_of 12 rfl ⟨by omega, by omega⟩)
                   refine jm_puti c1 hm rfl sh_173 rfl e73 ?_
                   refine jx_load c1 hm rfl rfl rfl rfl ?_
                   have k74 : M73.1 173 2 = z7 := (n73 173 2 (by decide)).trans ((hR70 173 2 (by decide +kernel)).trans k63)
                   have k75 : M73.1 175 234 = z71 := (n73 175 234 (fun h => absurd h.1 (by decide))).trans k72
                   exact jx_reti c2 hm rfl rfl ⟨_, rfl, hH73, hF73, by omega, by omega, (Or.inl (by omega)), (by omega), (by show _ = allS (uR M0, (M0.1 173 2, 900)) 1000 0 st0; omega), (by omega), (fun _ => (nq_cp (c := 175) (c' := 175) (o := 0) (o' := 0) (fun j hj => by rw [Nat.zero_add]; exact ((n73 175 j (fun h => absurd h.1 (by decide))).trans (hR70 175 j (jin_lo (b := 5) (by decide +kernel) hj))))).trans hnn), (fun y => absurd y (by omega))⟩
                  refine jx_load c1 hm rfl rfl rfl rfl ?_
                  refine jx_getr c1 hm rfl sh_173 rfl ?_
                  refine jx_load c1 hm rfl rfl rfl rfl ?_
                  refine jx_load c1 hm rfl rfl rfl rfl ?_
                  refine jx_getr c1 hm rfl sh_173 rfl ?_
                  refine jx_load c1 hm rfl rfl rfl rfl ?_
                  obtain ⟨w76, kw76⟩ : ∃ w, M62.2 181 (b61).toNat = w := ⟨_, rfl⟩
                  have bw76 : LB w76.toInt := kw76 ▸ hH62.2.1 181 _ rfl
                  refine jx_lald c1 hm rfl sh_181 ⟨by omega, by omega⟩ kw76 ?_
                  obtain ⟨M77, e77, hH77, hF77, n77, k77, _⟩ := mul hH62 hF62 (c := 180) (i := (b61).toNat) (v := w76) (fun _ => bw76)
                  refine jm_last c1 hm rfl sh_180 ⟨by omega, by omega⟩ e77 ?_
                  refine jx_iinc c1 hm (v := (b61 + 1)) (L' := [some (.inr (.inr (.inl 173))), some (.inl b31), some (.inl (b61 + 1))]) rfl rfl (by omega) (by omega) rfl ?_
                  refine jx_goto c1 hm 188 rfl rfl ?_
                  have k78 : M77.1 173 2 = z7 := (n77 173 2).trans k63
                  have k79 : M77.1 173 7 = z41 := (n77 173 7).trans k64
                  exact ihW66 (b61 + 1) (by omega) M77 hH77 hF77 k78 k79 ((nq_cp (c := 175) (c' := 175) (o := 0) (o' := 0) (fun j hj => by rw [Nat.zero_add]; exact (n77 175 j))).trans hnn) (by omega)
                exact W66 (18 + 1 : Int).toNat 0 (by omega) M53 hH53 hF53 k54 k55 ((nq_cp (c := 175) (c' := 176) (o := 0) (o' := 0) (fun j hj => by rw [Nat.zero_add]; exact hcn j (by omega))).trans hfw) (by omega)
               refine jx_load c1 hm rfl rfl rfl rfl ?_
               refine jx_getr c1 hm rfl sh_173 rfl ?_
               refine jx_load c1 hm rfl rfl rfl rfl ?_
               refine jx_load c1 hm rfl rfl rfl rfl ?_
               refine jx_getr c1 hm rfl sh_173 rfl ?_
               refine jx_load c1 hm rfl rfl rfl rfl ?_
               obtain ⟨z80, k81, lz80, uz80⟩ := hH53.any (by omega) (by omega) 176 (b52).toNat
               refine jx_iald c1 hm rfl sh_176 ⟨by omega, by omega⟩ k81 ?_
               skip
               obtain ⟨M82, e82, hH82, hF82, k82, n82, q82⟩ := mupc hH53 hF53 hH53 (c := 175) (i := (b52).toNat) (c1 := 176) (i1 := (b52).toNat) (v := z80) k81 (crd (by omega)) (jin_of 15 rfl ⟨by omega, by omega⟩)
               refine jm_iast c1 hm rfl sh_175 ⟨by omega, by omega⟩ e82 ?_
               refine jx_iinc c1 hm (v := (b52 + 1)) (L' := [some (.inr (.inr (.inl 173))), some (.inl b31), some (.inl (b52 + 1))]) rfl rfl (by omega) (by omega) rfl ?_
               refine jx_goto c1 hm 162 rfl rfl ?_
               have k83 : M82.1 173 2 = z7 := (n82 173 2 (fun h => absurd h.1 (by decide))).trans k54
               have k84 : M82.1 173 7 = z41 := (n82 173 7 (fun h => absurd h.1 (by decide))).trans k55
               exact ihW58 (b52 + 1) (by omega) M82 hH82 hF82 k83 k84 ((nq_cp (c := 176) (c' := 176) (o := 0) (o' := 0) (fun j hj => by rw [Nat.zero_add]; exact (n82 176 j (fun h => absurd h.1 (by decide))))).trans hfw) (fun j hj => if c9 : (j : Int) < b52 then (n82 175 j (by omega)).trans ((hcn j c9).trans (n82 176 j (fun h => absurd h.1 (by decide))).symm) else (by have e9 : j = (b52).toNat := (by omega); subst e9; exact k82.trans ((n82 176 _ (fun h => absurd h.1 (by decide))).trans k81).symm)) (by omega)
             exact W58 (101 + 1 : Int).toNat 0 (by omega) M45 hH45 hF45 k46 k47 hfw (fun j hj => by omega) (by omega)
            refine jx_load c1 hm rfl rfl rfl rfl ?_
            refine jx_getr c1 hm rfl sh_173 rfl ?_
            refine jy_bp c1 hm rfl (by decide) ?_
            refine jx_load c1 hm rfl rfl rfl rfl ?_
            refine jy_add c1 hm (b44 + 17) rfl (by omega) ?_
            obtain ⟨z85, k86, lz85, uz85⟩ := hH45.ld (c := 176) (i := ((b44 + 17)).toNat) (A := (-1)) (B := 20) (bs_12_4 _ _ (by omega) (by omega))
            refine jx_iald c1 hm rfl sh_176 ⟨by omega, by omega⟩ k86 ?_
            refine jy_ic c1 hm rfl (by decide) ?_
            refine jc_ne c1 hm 154 rfl rfl (fun h87 => ?_) (fun h87 => ?_)
            ·
             refine jx_iinc c1 hm (v := (b44 + 1)) (L' := [some (.inr (.inr (.inl 173))), some (.inl b31), some (.inl (b44 + 1))]) rfl rfl (by omega) (by omega) rfl ?_
             refine jx_goto c1 hm 114 rfl rfl ?_
             exact ihW49 (b44 + 1) (by omega) M45 hH45 hF45 k46 k47 hfw (by omega)
            refine jx_load c1 hm rfl rfl rfl rfl ?_
            refine jx_getr c1 hm rfl sh_173 rfl ?_
            refine jy_bp c1 hm rfl (by decide) ?_
            refine jx_load c1 hm rfl rfl rfl rfl ?_
            refine jy_add c1 hm (b44 + 17) rfl (by omega) ?_
            refine jx_load c1 hm rfl rfl rfl rfl ?_
            refine jx_getr c1 hm rfl sh_173 rfl ?_
            refine jy_bp c1 hm rfl (by decide) ?_
            refine jx_load c1 hm rfl rfl rfl rfl ?_
            refine jy_bp c1 hm rfl (by decide) ?_
            refine jy_rem c1 hm rfl ⟨by omega, by omega, by omega, by omega⟩ (fun z88 ez88 lz88 uz88 => ?_)
            refine jy_add c1 hm (z88 + 11) rfl (by omega) ?_
            obtain ⟨z89, k90, lz89, uz89⟩ := hH45.ld (c := 176) (i := ((z88 + 11)).toNat) (A := 0) (B := 20) (bs_12_3 _ _ (by omega) (by omega))
            refine jx_iald c1 hm rfl sh_176 ⟨by omega, by omega⟩ k90 ?_
            obtain ⟨M91, e91, hH91, hF91, k91, n91, q91⟩ := mup hH45 hF45 (c := 176) (i := ((b44 + 17)).toNat) (v := z89) (A := (-1)) (B := 20) (bs_12_4 _ _ (by omega) (by omega)) ⟨by omega, by omega⟩ (jin_of 17 rfl ⟨by omega, by omega⟩)
            refine jm_iast c1 hm rfl sh_176 ⟨by omega, by omega⟩ e91 ?_
            refine jx_iinc c1 hm (v := (b44 + 1)) (L' := [some (.inr (.inr (.inl 173))), some (.inl b31), some (.inl (b44 + 1))]) rfl rfl (by omega) (by omega) rfl ?_
            refine jx_goto c1 hm 114 rfl rfl ?_
            have k92 : M91.1 173 2 = z7 := (n91 173 2 (fun h => absurd h.1 (by decide))).trans k46
            have k93 : M91.1 173 7 = z41 := (n91 173 7 (fun h => absurd h.1 (by decide))).trans k47
            exact ihW49 (b44 + 1) (by omega) M91 hH91 hF91 k92 k93 ((nq_cp (c := 176) (c' := 176) (o := 0) (o' := 0) (fun j hj => by rw [Nat.zero_add]; exact (n91 176 j (by omega)))).trans hfw) (by omega)
          exact W49 (36 + 1 : Int).toNat 0 (by omega) M32 hH32 hF32 k34 k42 hfw (by omega)
         refine jx_load c1 hm rfl rfl rfl rfl ?_
         refine jv_i c3 hm rfl pj_X12_readLine rfl rfl ⟨_, _, _, rfl, sh_173⟩ rfl ((ct_X12_readLine_173w X (by omega) M32 hH32 ).le (by decide)) (fun z94 M98 ⟨hH98, hR98, lz94, uz94, p95, p96, p97⟩ => ?_)
         have hF98 := hF32.tr hR98 (by decide +kernel)
         refine jz_eq c1 hm 99 rfl rfl (fun h99 => ?_) (fun h99 => ?_)
         ·
          refine jy_ic c1 hm rfl (by decide) ?_
          refine jx_load c1 hm rfl rfl rfl rfl ?_
          obtain ⟨z100, k101, lz100, uz100⟩ := hH98.ld (c := 173) (i := 11) (A := 0) (B := 940) (bs_28_6 _ _ (by omega) (by omega))
          refine jx_geti c1 hm rfl sh_173 rfl k101 ?_
          refine jy_sub c1 hm (-z100 - 1) rfl (by omega) ?_
          have k102 : M98.1 173 2 = z7 := (hR98 173 2 (by decide +kernel)).trans k34
          obtain ⟨z103, k104, lz103, uz103⟩ := hH98.ld (c := 175) (i := 234) (A := (-2147483648)) (B := 2147483647) (bs_11_11 _ _ (by omega) (by omega))
          exact jx_reti c2 hm rfl rfl ⟨_, rfl, hH98, hF98, by omega, by omega, (SOK.cg hp0 (fun j _ _ => (fun j => ((hR98 175 j rfl).trans (hE j))) j)), (by omega), (by have y9 := RLr.no (M' := M98) hrl (by omega) (fun σ hσ => LRr.seqz (p95 _ σ hσ) (by omega)); show _ = allS (uR M0, (M0.1 173 2, 900)) 1000 0 st0; omega), (by omega), (fun y => absurd y (by omega)), (fun _ => nq_cp (c := 175) (c' := 175) (o := 0) (o' := 0) (fun j hj => by rw [Nat.zero_add]; exact (fun j => ((hR98 175 j rfl).trans (hE j))) j))⟩
         refine jx_load c1 hm rfl rfl rfl rfl ?_
         refine jv_i c3 hm rfl pj_X12_readEnd rfl rfl ⟨_, _, _, rfl, sh_173⟩ rfl ((ct_X12_readEnd_173p X (by omega) M98 hH98 ).le (by decide)) (fun z105 M108 ⟨hH108, hR108, lz105, uz105, p106, p107⟩ => ?_)
         have hF108 := hF98.tr hR108 (by decide +kernel)
         refine jz_ne c1 hm 106 rfl rfl (fun h109 => ?_) (fun h109 => ?_)
         ·
          refine jx_iinc c1 hm (v := (b31 + 1)) (L' := [some (.inr (.inr (.inl 173))), some (.inl (b31 + 1)), none]) rfl rfl (by omega) (by omega) rfl ?_
          have hrl9 := RLr.go hrl (by omega) (fun σ hσ => LRr.seqg (p95 _ σ hσ) (by omega) (fun l1 h1 => LRr.u (p106 _ _ h1) (by omega)))
          have hbd9 := RLr.bd hrl9
          have hrw9 := RLrW.go hrw (by omega) (fun σ hσ => LRr.seqg (p95 _ σ hσ) (by omega) (fun l1 h1 => LRr.u (p106 _ _ h1) (by omega))) (fun σ wm hσ hw => RWv.cg (p97 _ σ wm hσ hw (by omega)) (hR108 176 3 rfl) (hR108 176 4 rfl))
          refine jx_goto c1 hm 78 rfl rfl ?_
          have k115 : M108.1 173 2 = z7 := (hR108 173 2 (by decide +kernel)).trans ((hR98 173 2 (by decide +kernel)).trans k34)
          exact ihW39 (b31 + 1) (by omega) M108 hH108 hF108 k115 (by omega) (fun j => (((hR108 175 j rfl).trans (hR98 175 j rfl)).trans (hE j))) hrl9 hrw9 (by omega)
         refine jy_ic c1 hm rfl (by decide) ?_
         refine jx_load c1 hm rfl rfl rfl rfl ?_
         obtain ⟨z110, k111, lz110, uz110⟩ := hH108.ld (c := 173) (i := 11) (A := 0) (B := 940) (bs_28_6 _ _ (by omega) (by omega))
         refine jx_geti c1 hm rfl sh_173 rfl k111 ?_
         refine jy_sub c1 hm (-z110 - 1) rfl (by omega) ?_
         have k112 : M108.1 173 2 = z7 := (hR108 173 2 (by decide +kernel)).trans ((hR98 173 2 (by decide +kernel)).trans k34)
         obtain ⟨z113, k114, lz113, uz113⟩ := hH108.ld (c := 175) (i := 234) (A := (-2147483648)) (B := 2147483647) (bs_11_11 _ _ (by omega) (by omega))
         exact jx_reti c2 hm rfl rfl ⟨_, rfl, hH108, hF108, by omega, by omega, (SOK.cg hp0 (fun j _ _ => (fun j => (((hR108 175 j rfl).trans (hR98 175 j rfl)).trans (hE j))) j)), (by omega), (by have y9 := RLr.no (M' := M108) hrl (by omega) (fun σ hσ => LRr.seqg (p95 _ σ hσ) (by omega) (fun l1 h1 => LRr.z (p106 _ _ h1) (by omega))); show _ = allS (uR M0, (M0.1 173 2, 900)) 1000 0 st0; omega), (by omega), (fun y => absurd y (by omega)), (fun _ => nq_cp (c := 175) (c' := 175) (o := 0) (o' := 0) (fun j hj => by rw [Nat.zero_add]; exact (fun j => (((hR108 175 j rfl).trans (hR98 175 j rfl)).trans (hE j))) j))⟩
       have k33 : M30.1 173 2 = z7 := (n30 173 2 (by decide)).trans ((n29 173 2 (by decide)).trans ((n28 173 2 (fun h => absurd h.1 (by decide))).trans ((n27 173 2 (fun h => absurd h.1 (by decide))).trans k20)))
       exact W39 (471 - 0 + 1 : Int).toNat 0 (by omega) M30 hH30 hF30 k33 (by omega) (fun j => (((((n30 175 j (fun h => absurd h.1 (by decide))).trans (n29 175 j (fun h => absurd h.1 (by decide)))).trans (n28 175 j (fun h => absurd h.1 (by decide)))).trans (n27 175 j (fun h => absurd h.1 (by decide)))).trans (hE j))) (RLr.start (RTk.cg hrt (fun j => ((((n30 174 j (fun h => absurd h.1 (by decide))).trans (n29 174 j (fun h => absurd h.1 (by decide)))).trans (n28 174 j (fun h => absurd h.1 (by decide)))).trans (n27 174 j (fun h => absurd h.1 (by decide))))) (fun j hj => ((((n30 173 j (by omega)).trans (n29 173 j (by omega))).trans (n28 173 j (fun h => absurd h.1 (by decide)))).trans (n27 173 j (fun h => absurd h.1 (by decide))))) (((((q30 173 12).trans (q29 173 12)).trans (q28 173 12)).trans (q27 173 12)))) (RZ.cg hrz (by omega) (fun j hj => ((((n30 176 j (fun h => absurd h.1 (by decide))).trans (n29 176 j (fun h => absurd h.1 (by decide)))).trans (n28 176 j (by omega))).trans (n27 176 j (by omega))))) ((n30 173 24 (by decide)).trans k29) k30 ⟨by show 0 ≤ M0.1 173 2; omega, by show M0.1 173 2 ≤ 940; omega⟩ (by show (0 : Int) ≤ 900; decide)) (RLrW.start (RTk.cg hrt (fun j => ((((n30 174 j (fun h => absurd h.1 (by decide))).trans (n29 174 j (fun h => absurd h.1 (by decide)))).trans (n28 174 j (fun h => absurd h.1 (by decide)))).trans (n27 174 j (fun h => absurd h.1 (by decide))))) (fun j hj => ((((n30 173 j (by omega)).trans (n29 173 j (by omega))).trans (n28 173 j (fun h => absurd h.1 (by decide)))).trans (n27 173 j (fun h => absurd h.1 (by decide))))) (((((q30 173 12).trans (q29 173 12)).trans (q28 173 12)).trans (q27 173 12)))) (RZ.cg hrz (by omega) (fun j hj => ((((n30 176 j (fun h => absurd h.1 (by decide))).trans (n29 176 j (fun h => absurd h.1 (by decide)))).trans (n28 176 j (by omega))).trans (n27 176 j (by omega))))) ((n30 173 24 (by decide)).trans k29) k30 ⟨by show 0 ≤ M0.1 173 2; omega, by show M0.1 173 2 ≤ 940; omega⟩ (by show (0 : Int) ≤ 900; decide) ((((n30 176 3 (fun h => absurd h.1 (by decide))).trans (n29 176 3 (fun h => absurd h.1 (by decide)))).trans (n28 176 3 (by decide))).trans k27) (((n30 176 4 (fun h => absurd h.1 (by decide))).trans (n29 176 4 (fun h => absurd h.1 (by decide)))).trans k28)) (by omega)
      refine jx_load c1 hm rfl rfl rfl rfl ?_
      refine jx_getr c1 hm rfl sh_173 rfl ?_
      refine jy_bp c1 hm rfl (by decide) ?_
      refine jx_load c1 hm rfl rfl rfl rfl ?_
      refine jy_add c1 hm (b18 + 17) rfl (by omega) ?_
      refine jy_ic c1 hm rfl (by decide) ?_
      obtain ⟨M116, e116, hH116, hF116, k116, n116, q116⟩ := mup hH19 hF19 (c := 176) (i := ((b18 + 17)).toNat) (v := (-1)) (A := (-1)) (B := 20) (bs_12_4 _ _ (by omega) (by omega)) ⟨by omega, by omega⟩ (jin_of 17 rfl ⟨by omega, by omega⟩)
      refine jm_iast c1 hm rfl sh_176 ⟨by omega, by omega⟩ e116 ?_
      refine jx_iinc c1 hm (v := (b18 + 1)) (L' := [some (.inr (.inr (.inl 173))), some (.inl (b18 + 1)), none]) rfl rfl (by omega) (by omega) rfl ?_
      refine jx_goto c1 hm 30 rfl rfl ?_
      have k117 : M116.1 173 2 = z7 := (n116 173 2 (fun h => absurd h.1 (by decide))).trans k20
      exact ihW24 (b18 + 1) (by omega) M116 hH116 hF116 k117 (fun j => ((n116 175 j (fun h => absurd h.1 (by decide))).trans (hE j))) (RZ.st hrz ⟨by omega, by omega⟩ (by omega) k116 n116) (RTk.cg hrt (fun j => (n116 174 j (fun h => absurd h.1 (by decide)))) (fun j hj => (n116 173 j (fun h => absurd h.1 (by decide)))) ((q116 173 12))) (by omega)
    exact W24 (36 + 1 : Int).toNat 0 (by omega) M10 hH10 hF10 k11 (fun j => (hE j)) (RZ.start (FLP.le hfz (by omega))) hrt (by omega)
   refine jx_load c1 hm rfl rfl rfl rfl ?_
   refine jx_getr c1 hm rfl sh_173 rfl ?_
   refine jx_load c1 hm rfl rfl rfl rfl ?_
   refine jy_ic c1 hm rfl (by decide) ?_
   obtain ⟨M118, e118, hH118, hF118, k118, n118, q118⟩ := mup hH10 hF10 (c := 176) (i := (b9).toNat) (v := 0) (A := (bnd (X) 176 (b9).toNat).1) (B := (bnd (X) 176 (b9).toNat).2) rfl (czr _) (jin_of 17 rfl ⟨by omega, by omega⟩)
   refine jm_iast c1 hm rfl sh_176 ⟨by omega, by omega⟩ e118 ?_
   refine jx_iinc c1 hm (v := (b9 + 1)) (L' := [some (.inr (.inr (.inl 173))), some (.inl (b9 + 1)), none]) rfl rfl (by omega) (by omega) rfl ?_
   refine jx_goto c1 hm 9 rfl rfl ?_
   have k119 : M118.1 173 2 = z7 := (n118 173 2 (fun h => absurd h.1 (by decide))).trans k11
   exact ihW15 (b9 + 1) (by omega) M118 hH118 hF118 k119 (fun j => ((n118 175 j (fun h => absurd h.1 (by decide))).trans (hE j))) (FLP.st hfz (by omega) k118 n118) (RTk.cg hrt (fun j => (n118 174 j (fun h => absurd h.1 (by decide)))) (fun j hj => (n118 173 j (fun h => absurd h.1 (by decide)))) ((q118 173 12))) (by omega)
 exact W15 (101 + 1 : Int).toNat 0 (by omega) M6 hH6 hF6 k8 (fun j => (hR6 175 j rfl)) FLP.start p3 (by omega)
