/-! Contracts of a SENTENCE, of names (by wip/q/wlk.py). -/
def md_X12_bad_173q : List (Nat × (Nat × Nat)) := [(173, (10, 10)), (173, (11, 11))]
theorem ct_X12_bad_173q (X : Int) (hX : 0 ≤ X ∧ X ≤ 100000000) (M0 : JM) (hH0 : HI X M0) (a0 : Int) (ha0 : 1 ≤ a0 ∧ a0 ≤ 4) : JOk shp PJ 1 81 [.inr (.inr (.inl 173)), .inl a0] M0 (jRi (fun v M' => HI X M' ∧ Fr md_X12_bad_173q M0 M' ∧ 0 ≤ v ∧ v ≤ 1 ∧ (v = 0) ∧ (M'.1 173 11 = M0.1 173 6) ∧ (M0.1 173 7 = 1 ∨ M'.1 173 10 = a0) ∧ (M0.1 173 7 ≠ 1 ∨ M'.1 173 10 = 1) ∧ (LFr ml_0 M0 M'))) := by
 refine ⟨jr_X12_bad, pj_X12_bad, fun F c1 c2 c3 => ?_⟩
 have hm := pj_X12_bad
 change F 0 [some (.inr (.inr (.inl 173))), some (.inl a0)] [] M0
 have hF0 : Fr md_X12_bad_173q M0 M0 := Fr.rf _ _
 obtain ⟨z1, k2, lz1, uz1⟩ := hH0.ld (c := 173) (i := 6) (A := 0) (B := 940) (bs_28_3 _ _ (by omega) (by omega))
 obtain ⟨z3, k4, lz3, uz3⟩ := hH0.ld (c := 173) (i := 7) (A := 0) (B := 4) (bs_28_4 _ _ (by omega) (by omega))
 refine jx_load c1 hm rfl rfl rfl rfl ?_
 refine jx_load c1 hm rfl rfl rfl rfl ?_
 refine jx_geti c1 hm rfl sh_173 rfl k4 ?_
 refine jy_ic c1 hm rfl (by decide) ?_
 refine jc_ne c1 hm 13 rfl rfl (fun h5 => ?_) (fun h5 => ?_)
 ·
  refine jx_load c1 hm rfl rfl rfl rfl ?_
  obtain ⟨M6, e6, hH6, hF6, k6, n6, q6⟩ := mup hH0 hF0 (c := 173) (i := 10) (v := a0) (A := (-2147483648)) (B := 2147483647) (bs_28_5 _ _ (by omega) (by omega)) ⟨by omega, by omega⟩ (jin_of 0 rfl ⟨by omega, by omega⟩)
  refine jm_puti c1 hm rfl sh_173 rfl e6 ?_
  refine jx_load c1 hm rfl rfl rfl rfl ?_
  refine jx_load c1 hm rfl rfl rfl rfl ?_
  have k7 : M6.1 173 6 = z1 := (n6 173 6 (by decide)).trans k2
  refine jx_geti c1 hm rfl sh_173 rfl k7 ?_
  obtain ⟨M8, e8, hH8, hF8, k8, n8, q8⟩ := mup hH6 hF6 (c := 173) (i := 11) (v := z1) (A := 0) (B := 940) (bs_28_6 _ _ (by omega) (by omega)) ⟨by omega, by omega⟩ (jin_of 1 rfl ⟨by omega, by omega⟩)
  refine jm_puti c1 hm rfl sh_173 rfl e8 ?_
  refine jy_ic c1 hm rfl (by decide) ?_
  have k9 : M8.1 173 6 = z1 := (n8 173 6 (by decide)).trans k7
  have k10 : M8.1 173 7 = z3 := (n8 173 7 (by decide)).trans ((n6 173 7 (by decide)).trans k4)
  have k11 : M8.1 173 10 = a0 := (n8 173 10 (by decide)).trans k6
  exact jx_retz c2 hm rfl rfl ⟨by omega, by omega⟩ ⟨_, rfl, hH8, hF8, by omega, by omega, (by omega), (by omega), (by omega), (by omega), (((LFr.rf _ _).eq q6).eq q8)⟩
 refine jy_ic c1 hm rfl (by decide) ?_
 refine jx_goto c1 hm 14 rfl rfl ?_
 obtain ⟨M12, e12, hH12, hF12, k12, n12, q12⟩ := mup hH0 hF0 (c := 173) (i := 10) (v := 1) (A := (-2147483648)) (B := 2147483647) (bs_28_5 _ _ (by omega) (by omega)) ⟨by omega, by omega⟩ (jin_of 0 rfl ⟨by omega, by omega⟩)
 refine jm_puti c1 hm rfl sh_173 rfl e12 ?_
 refine jx_load c1 hm rfl rfl rfl rfl ?_
 refine jx_load c1 hm rfl rfl rfl rfl ?_
 have k13 : M12.1 173 6 = z1 := (n12 173 6 (by decide)).trans k2
 refine jx_geti c1 hm rfl sh_173 rfl k13 ?_
 obtain ⟨M14, e14, hH14, hF14, k14, n14, q14⟩ := mup hH12 hF12 (c := 173) (i := 11) (v := z1) (A := 0) (B := 940) (bs_28_6 _ _ (by omega) (by omega)) ⟨by omega, by omega⟩ (jin_of 1 rfl ⟨by omega, by omega⟩)
 refine jm_puti c1 hm rfl sh_173 rfl e14 ?_
 refine jy_ic c1 hm rfl (by decide) ?_
 have k15 : M14.1 173 6 = z1 := (n14 173 6 (by decide)).trans k13
 have k16 : M14.1 173 7 = z3 := (n14 173 7 (by decide)).trans ((n12 173 7 (by decide)).trans k4)
 have k17 : M14.1 173 10 = 1 := (n14 173 10 (by decide)).trans k12
 exact jx_retz c2 hm rfl rfl ⟨by omega, by omega⟩ ⟨_, rfl, hH14, hF14, by omega, by omega, (by omega), (by omega), (by omega), (by omega), (((LFr.rf _ _).eq q12).eq q14)⟩
def md_X12_readNumber_173q : List (Nat × (Nat × Nat)) := [(173, (5, 5)), (173, (6, 6)), (173, (7, 7)), (173, (8, 8)), (173, (9, 9)), (173, (10, 10)), (173, (11, 11)), (173, (13, 13))]
theorem ct_X12_readNumber_173q (X : Int) (hX : 0 ≤ X ∧ X ≤ 100000000) (M0 : JM) (hH0 : HI X M0) (a0 : Int) (ha0 : 0 ≤ a0 ∧ a0 ≤ 1) (a1 : Int) (ha1 : 0 ≤ a1 ∧ a1 ≤ 999) : JOk shp PJ 3 167 [.inr (.inr (.inl 173)), .inl a0, .inl a1] M0 (jRi (fun v M' => HI X M' ∧ Fr md_X12_readNumber_173q M0 M' ∧ 0 ≤ v ∧ v ≤ 1 ∧ (v = 1 → a0 ≤ M'.1 173 13 ∧ M'.1 173 13 ≤ a1) ∧ (∀ (t : TXT) (σ : PSt) (n : Int), CR M0 t σ → LTr t (numQ t a0 a1 (σ, n)) v M') ∧ (LFr ml_X12_go_173p M0 M'))) := by
 refine ⟨jr_X12_readNumber, pj_X12_readNumber, fun F c1 c2 c3 => ?_⟩
 have hm := pj_X12_readNumber
 change F 0 [some (.inr (.inr (.inl 173))), some (.inl a0), some (.inl a1)] [] M0
 have hF0 : Fr md_X12_readNumber_173q M0 M0 := Fr.rf _ _
 obtain ⟨z1, k2, lz1, uz1⟩ := hH0.ld (c := 173) (i := 7) (A := 0) (B := 4) (bs_28_4 _ _ (by omega) (by omega))
 obtain ⟨z3, k4, lz3, uz3⟩ := hH0.ld (c := 173) (i := 8) (A := (-2147483648)) (B := 2147483647) (bs_28_5 _ _ (by omega) (by omega))
 obtain ⟨z5, k6, lz5, uz5⟩ := hH0.ld (c := 173) (i := 6) (A := 0) (B := 940) (bs_28_3 _ _ (by omega) (by omega))
 refine jx_load c1 hm rfl rfl rfl rfl ?_
 refine jx_geti c1 hm rfl sh_173 rfl k2 ?_
 refine jy_ic c1 hm rfl (by decide) ?_
 refine jc_eq c1 hm 14 rfl rfl (fun h7 => ?_) (fun h7 => ?_)
 ·
  refine jx_load c1 hm rfl rfl rfl rfl ?_
  refine jx_geti c1 hm rfl sh_173 rfl k4 ?_
  refine jx_load c1 hm rfl rfl rfl rfl ?_
  refine jx_load c1 hm rfl rfl rfl rfl ?_
  refine jt_i c3 hm rfl rfl pj_X12_isIn rfl rfl rfl ((ct_X12_isInp X (by omega) M0 hH0 z3 ⟨by omega, by omega⟩ a0 ⟨by omega, by omega⟩ a1 ⟨by omega, by omega⟩).le (by decide)) (fun z8 _ ⟨rfl, lz8, uz8, p9, p10⟩ => ?_)
  refine jz_ne c1 hm 32 rfl rfl (fun h11 => ?_) (fun h11 => ?_)
  ·
   refine jx_load c1 hm rfl rfl rfl rfl ?_
   refine jx_load c1 hm rfl rfl rfl rfl ?_
   refine jx_geti c1 hm rfl sh_173 rfl k4 ?_
   obtain ⟨M12, e12, hH12, hF12, k12, n12, q12⟩ := mup hH0 hF0 (c := 173) (i := 13) (v := z3) (A := (-2147483648)) (B := 2147483647) (bs_28_7 _ _ (by omega) (by omega)) ⟨by omega, by omega⟩ (jin_of 7 rfl ⟨by omega, by omega⟩)
   refine jm_puti c1 hm rfl sh_173 rfl e12 ?_
   refine jx_load c1 hm rfl rfl rfl rfl ?_
   obtain ⟨z13, k14, lz13, uz13⟩ := hH12.ld (c := 173) (i := 5) (A := 0) (B := 940) (bs_28_3 _ _ (by omega) (by omega))
   refine jv_v c3 hm rfl pj_X12_go rfl rfl ⟨_, _, _, rfl, sh_173⟩ rfl ((ct_X12_go_173p X (by omega) M12 hH12 ).le (by decide)) (fun M17 ⟨hH17, hR17, p15, p16⟩ => ?_)
   have hF17 := hF12.tr hR17 (by decide +kernel)
   refine jy_ic c1 hm rfl (by decide) ?_
   have k18 : M17.1 173 13 = z3 := (hR17 173 13 (by decide +kernel)).trans k12
   exact jx_retz c2 hm rfl rfl ⟨by omega, by omega⟩ ⟨_, rfl, hH17, hF17, by omega, by omega, (by omega), (fun t σ n hσ => rnq_go hσ (by omega) ⟨by omega, by omega⟩ (CR.cg hσ (fun j => (n12 174 j (fun h => absurd h.1 (by decide)))) (fun j hj => (n12 173 j (fun e => absurd e.2 (by omega)))) ((q12 173 12)) ((n12 173 10 (by decide))) (fun j => (n12 175 j (fun h => absurd h.1 (by decide)))) (fun k => (q12 180 k))) rfl p15 (hR17 173 10 rfl) (fun j => hR17 175 j rfl) (fun k => p16 180 k rfl)), (((LFr.rf _ _).eq q12).tr p16 (by decide +kernel))⟩
  refine jx_load c1 hm rfl rfl rfl rfl ?_
  refine jy_ic c1 hm rfl (by decide) ?_
  refine jv_i c3 hm rfl pj_X12_bad rfl rfl ⟨_, _, _, rfl, sh_173⟩ rfl ((ct_X12_bad_173q X (by omega) M0 hH0 2 ⟨by omega, by omega⟩).le (by decide)) (fun z19 M25 ⟨hH25, hR25, lz19, uz19, p20, p21, p22, p23, p24⟩ => ?_)
  have hF25 := hF0.tr hR25 (by decide +kernel)
  obtain ⟨z26, k27, lz26, uz26⟩ := hH25.ld (c := 173) (i := 11) (A := 0) (B := 940) (bs_28_6 _ _ (by omega) (by omega))
  obtain ⟨z28, k29, lz28, uz28⟩ := hH25.ld (c := 173) (i := 10) (A := (-2147483648)) (B := 2147483647) (bs_28_5 _ _ (by omega) (by omega))
  obtain ⟨z30, k31, lz30, uz30⟩ := hH25.ld (c := 173) (i := 13) (A := (-2147483648)) (B := 2147483647) (bs_28_7 _ _ (by omega) (by omega))
  exact jx_retz c2 hm rfl rfl ⟨by omega, by omega⟩ ⟨_, rfl, hH25, hF25, by omega, by omega, (by omega), (fun t σ n hσ => by first | exact rnq_no1 hσ (by omega) (by omega) (by omega) (by omega) | exact rnq_no2 hσ (by omega) (by omega) (by omega) (by omega) (by omega)), ((LFr.rf _ _).tr p24 (by decide +kernel))⟩
 refine jx_load c1 hm rfl rfl rfl rfl ?_
 refine jy_ic c1 hm rfl (by decide) ?_
 refine jv_i c3 hm rfl pj_X12_bad rfl rfl ⟨_, _, _, rfl, sh_173⟩ rfl ((ct_X12_bad_173q X (by omega) M0 hH0 1 ⟨by omega, by omega⟩).le (by decide)) (fun z32 M38 ⟨hH38, hR38, lz32, uz32, p33, p34, p35, p36, p37⟩ => ?_)
 have hF38 := hF0.tr hR38 (by decide +kernel)
 obtain ⟨z39, k40, lz39, uz39⟩ := hH38.ld (c := 173) (i := 11) (A := 0) (B := 940) (bs_28_6 _ _ (by omega) (by omega))
 obtain ⟨z41, k42, lz41, uz41⟩ := hH38.ld (c := 173) (i := 10) (A := (-2147483648)) (B := 2147483647) (bs_28_5 _ _ (by omega) (by omega))
 obtain ⟨z43, k44, lz43, uz43⟩ := hH38.ld (c := 173) (i := 13) (A := (-2147483648)) (B := 2147483647) (bs_28_7 _ _ (by omega) (by omega))
 exact jx_retz c2 hm rfl rfl ⟨by omega, by omega⟩ ⟨_, rfl, hH38, hF38, by omega, by omega, (by omega), (fun t σ n hσ => by first | exact rnq_no1 hσ (by omega) (by omega) (by omega) (by omega) | exact rnq_no2 hσ (by omega) (by omega) (by omega) (by omega) (by omega)), ((LFr.rf _ _).tr p37 (by decide +kernel))⟩
def md_X12_saysOne_173q : List (Nat × (Nat × Nat)) := [(173, (49, 49)), (197, (0, 236)), (197, (1, 237)), (197, (2, 238)), (197, (3, 239))]
theorem ct_X12_saysOne_173q (X : Int) (hX : 0 ≤ X ∧ X ≤ 100000000) (M0 : JM) (hH0 : HI X M0) (a0 : Int) (ha0 : (-2147483648) ≤ a0 ∧ a0 ≤ 2147483647) (a1 : Int) (ha1 : (-2147483648) ≤ a1 ∧ a1 ≤ 2147483647) (a2 : Int) (ha2 : (-2147483648) ≤ a2 ∧ a2 ≤ 2147483647) (a3 : Int) (ha3 : (-2147483648) ≤ a3 ∧ a3 ≤ 2147483647) (hp0 : M0.1 173 49 ≤ 59) (hp1 : TRN M0 (M0.1 173 49)) (hp2 : TW a0 a1 a2 (M0.1 173 49)) : JOk shp PJ 1 179 [.inr (.inr (.inl 173)), .inl a0, .inl a1, .inl a2, .inl a3] M0 (jRi (fun v M' => HI X M' ∧ Fr md_X12_saysOne_173q M0 M' ∧ 0 ≤ v ∧ v ≤ 59 ∧ (v = M0.1 173 49) ∧ (M'.1 173 49 = M0.1 173 49 + 1) ∧ (TRN M' (M'.1 173 49)) ∧ (LFr ml_0 M0 M'))) := by
 refine ⟨jr_X12_saysOne, pj_X12_saysOne, fun F c1 c2 c3 => ?_⟩
 have hm := pj_X12_saysOne
 change F 0 [some (.inr (.inr (.inl 173))), some (.inl a0), some (.inl a1), some (.inl a2), some (.inl a3), none] [] M0
 have hF0 : Fr md_X12_saysOne_173q M0 M0 := Fr.rf _ _
 obtain ⟨z1, k2, lz1, uz1⟩ := hH0.ld (c := 173) (i := 49) (A := 0) (B := 60) (bs_28_23 _ _ (by omega) (by omega))
 refine jy_ic c1 hm rfl (by decide) ?_
 skip
 refine jx_load c1 hm rfl rfl rfl rfl ?_
 refine jx_geti c1 hm rfl sh_173 rfl k2 ?_
 refine jy_mul c1 hm (4 * z1) rfl (by omega) ?_
 refine jx_stor c1 hm (L' := [some (.inr (.inr (.inl 173))), some (.inl a0), some (.inl a1), some (.inl a2), some (.inl a3), some (.inl (4 * z1))]) rfl rfl rfl rfl rfl ?_
 refine jx_load c1 hm rfl rfl rfl rfl ?_
 refine jx_getr c1 hm rfl sh_173 rfl ?_
 refine jx_load c1 hm rfl rfl rfl rfl ?_
 refine jx_load c1 hm rfl rfl rfl rfl ?_
 obtain ⟨M3, e3, hH3, hF3, k3, n3, q3⟩ := mup hH0 hF0 (c := 197) (i := ((4 * z1)).toNat) (v := a0) (A := (-2147483648)) (B := 2147483647) rfl ⟨by omega, by omega⟩ (jin_of 1 rfl ⟨by omega, by omega⟩)
 refine jm_iast c1 hm rfl sh_197 ⟨by omega, by omega⟩ e3 ?_
 refine jx_load c1 hm rfl rfl rfl rfl ?_
 refine jx_getr c1 hm rfl sh_173 rfl ?_
 refine jx_load c1 hm rfl rfl rfl rfl ?_
 refine jy_ic c1 hm rfl (by decide) ?_
 refine jy_add c1 hm (4 * z1 + 1) rfl (by omega) ?_
 refine jx_load c1 hm rfl rfl rfl rfl ?_
 obtain ⟨M4, e4, hH4, hF4, k4, n4, q4⟩ := mup hH3 hF3 (c := 197) (i := ((4 * z1 + 1)).toNat) (v := a1) (A := (-2147483648)) (B := 2147483647) rfl ⟨by omega, by omega⟩ (jin_of 2 rfl ⟨by omega, by omega⟩)
 refine jm_iast c1 hm rfl sh_197 ⟨by omega, by omega⟩ e4 ?_
 refine jx_load c1 hm rfl rfl rfl rfl ?_
 refine jx_getr c1 hm rfl sh_173 rfl ?_
 refine jx_load c1 hm rfl rfl rfl rfl ?_
 refine jy_ic c1 hm rfl (by decide) ?_
 refine jy_add c1 hm (4 * z1 + 2) rfl (by omega) ?_
 refine jx_load c1 hm rfl rfl rfl rfl ?_
 obtain ⟨M5, e5, hH5, hF5, k5, n5, q5⟩ := mup hH4 hF4 (c := 197) (i := ((4 * z1 + 2)).toNat) (v := a2) (A := (-2147483648)) (B := 2147483647) rfl ⟨by omega, by omega⟩ (jin_of 3 rfl ⟨by omega, by omega⟩)
 refine jm_iast c1 hm rfl sh_197 ⟨by omega, by omega⟩ e5 ?_
 refine jx_load c1 hm rfl rfl rfl rfl ?_
 refine jx_getr c1 hm rfl sh_173 rfl ?_
 refine jx_load c1 hm rfl rfl rfl rfl ?_
 refine jy_ic c1 hm rfl (by decide) ?_
 refine jy_add c1 hm (4 * z1 + 3) rfl (by omega) ?_
 refine jx_load c1 hm rfl rfl rfl rfl ?_
 obtain ⟨M6, e6, hH6, hF6, k6, n6, q6⟩ := mup hH5 hF5 (c := 197) (i := ((4 * z1 + 3)).toNat) (v := a3) (A := (-2147483648)) (B := 2147483647) rfl ⟨by omega, by omega⟩ (jin_of 4 rfl ⟨by omega, by omega⟩)
 refine jm_iast c1 hm rfl sh_197 ⟨by omega, by omega⟩ e6 ?_
 refine jx_load c1 hm rfl rfl rfl rfl ?_
 refine jx_dup c1 hm rfl rfl ?_
 have k7 : M6.1 173 49 = z1 := (n6 173 49 (fun h => absurd h.1 (by decide))).trans ((n5 173 49 (fun h => absurd h.1 (by decide))).trans ((n4 173 49 (fun h => absurd h.1 (by decide))).trans ((n3 173 49 (fun h => absurd h.1 (by decide))).trans k2)))
 refine jx_geti c1 hm rfl sh_173 rfl k7 ?_
 refine jy_ic c1 hm rfl (by decide) ?_
 refine jy_add c1 hm (z1 + 1) rfl (by omega) ?_
 obtain ⟨M8, e8, hH8, hF8, k8, n8, q8⟩ := mup hH6 hF6 (c := 173) (i := 49) (v := (z1 + 1)) (A := 0) (B := 60) (bs_28_23 _ _ (by omega) (by omega)) ⟨by omega, by omega⟩ (jin_of 0 rfl ⟨by omega, by omega⟩)
 refine jm_puti c1 hm rfl sh_173 rfl e8 ?_
 refine jx_load c1 hm rfl rfl rfl rfl ?_
 refine jx_geti c1 hm rfl sh_173 rfl k8 ?_
 refine jy_ic c1 hm rfl (by decide) ?_
 refine jy_sub c1 hm z1 rfl (by omega) ?_
 exact jx_reti c2 hm rfl rfl ⟨_, rfl, hH8, hF8, by omega, by omega, (by omega), (by omega), (TRN_s (TRN.cg hp1 (fun _ => rfl) k2.symm) (by have e := k2; rw [e] at hp2; exact hp2) ((n8 197 ((4 * z1)).toNat (by omega)).trans ((n6 197 ((4 * z1)).toNat (by omega)).trans ((n5 197 ((4 * z1)).toNat (by omega)).trans ((n4 197 ((4 * z1)).toNat (by omega)).trans (k3))))) ((n8 197 ((4 * z1 + 1)).toNat (by omega)).trans ((n6 197 ((4 * z1 + 1)).toNat (by omega)).trans ((n5 197 ((4 * z1 + 1)).toNat (by omega)).trans (k4)))) ((n8 197 ((4 * z1 + 2)).toNat (by omega)).trans ((n6 197 ((4 * z1 + 2)).toNat (by omega)).trans (k5))) (fun j hj => ((((n8 197 j (by omega)).trans (n6 197 j (by omega))).trans (n5 197 j (by omega))).trans (n4 197 j (by omega))).trans (n3 197 j (by omega))) (by omega)), ((((((LFr.rf _ _).eq q3).eq q4).eq q5).eq q6).eq q8)⟩
def md_X12_readCompare_173q : List (Nat × (Nat × Nat)) := [(173, (5, 5)), (173, (6, 6)), (173, (7, 7)), (173, (8, 8)), (173, (9, 9)), (173, (10, 10)), (173, (11, 11)), (173, (13, 13)), (173, (49, 49)), (173, (52, 52)), (197, (0, 236)), (197, (1, 237)), (197, (2, 238)), (197, (3, 239))]
theorem ct_X12_readCompare_173q (X : Int) (hX : 0 ≤ X ∧ X ≤ 100000000) (M0 : JM) (hH0 : HI X M0) (a0 : Int) (ha0 : 20 ≤ a0 ∧ a0 ≤ 23) (hp0 : M0.1 173 49 ≤ 2 * M0.1 173 50) (hp1 : TRN M0 (M0.1 173 49)) : JOk shp PJ 4 155 [.inr (.inr (.inl 173)), .inl a0] M0 (jRi (fun v M' => HI X M' ∧ Fr md_X12_readCompare_173q M0 M' ∧ 0 ≤ v ∧ v ≤ 1 ∧ (M'.1 173 51 = M0.1 173 51) ∧ (v = 0 ∨ M'.1 173 49 = M0.1 173 49 + 1) ∧ (M'.1 173 50 = M0.1 173 50) ∧ (v = 0 ∨ (0 ≤ M'.1 173 52 ∧ M'.1 173 52 < M'.1 173 49)) ∧ (v = 0 ∨ TRN M' (M'.1 173 49)) ∧ (v = 0 ∨ M0.1 173 49 ≤ M'.1 173 49) ∧ (∀ (t : TXT) (σ : PSt) (n : Int), CR M0 t σ → LTr t (plnQ t a0 (σ, n)) v M') ∧ (LFr ml_X12_go_173p M0 M'))) := by
 refine ⟨jr_X12_readCompare, pj_X12_readCompare, fun F c1 c2 c3 => ?_⟩
 have hm := pj_X12_readCompare
 change F 0 [some (.inr (.inr (.inl 173))), some (.inl a0), none] [] M0
 have hF0 : Fr md_X12_readCompare_173q M0 M0 := Fr.rf _ _
 obtain ⟨z1, k2, lz1, uz1⟩ := hH0.ld (c := 173) (i := 49) (A := 0) (B := 60) (bs_28_23 _ _ (by omega) (by omega))
 obtain ⟨z3, k4, lz3, uz3⟩ := hH0.ld (c := 173) (i := 50) (A := 0) (B := 20) (bs_28_24 _ _ (by omega) (by omega))
 obtain ⟨z5, k6, lz5, uz5⟩ := hH0.ld (c := 173) (i := 51) (A := 0) (B := 8) (bs_28_25 _ _ (by omega) (by omega))
 obtain ⟨z7, k8, lz7, uz7⟩ := hH0.ld (c := 173) (i := 7) (A := 0) (B := 4) (bs_28_4 _ _ (by omega) (by omega))
 obtain ⟨z9, k10, lz9, uz9⟩ := hH0.ld (c := 173) (i := 9) (A := (-2147483648)) (B := 2147483647) (bs_28_5 _ _ (by omega) (by omega))
 obtain ⟨z11, k12, lz11, uz11⟩ := hH0.ld (c := 173) (i := 6) (A := 0) (B := 940) (bs_28_3 _ _ (by omega) (by omega))
 refine jx_load c1 hm rfl rfl rfl rfl ?_
 refine jy_bp c1 hm rfl (by decide) ?_
 refine jv_i c3 hm rfl pj_X12_isSign rfl rfl ⟨_, _, _, rfl, sh_173⟩ rfl ((ct_X12_isSign_173p X (by omega) M0 hH0 60 ⟨by omega, by omega⟩).le (by decide)) (fun z13 _ ⟨rfl, lz13, uz13, p14, p15⟩ => ?_)
 have J44 : ∀ (h41 : 4 ≤ z7 ∧ z7 ≤ 4) (h42 : 60 ≤ z9 ∧ z9 ≤ 62) (h43 : M0.1 173 7 = 4 ∧ (M0.1 173 9 = 60 ∨ M0.1 173 9 = 61 ∨ M0.1 173 9 = 62)), F 33 [some (.inr (.inr (.inl 173))), some (.inl a0), none] [] M0 := by
  intro h41 h42 h43
  refine jx_load c1 hm rfl rfl rfl rfl ?_
  refine jx_geti c1 hm rfl sh_173 rfl k10 ?_
  refine jx_stor c1 hm (L' := [some (.inr (.inr (.inl 173))), some (.inl a0), some (.inl z9)]) rfl rfl rfl rfl rfl ?_
  refine jx_load c1 hm rfl rfl rfl rfl ?_
  obtain ⟨z45, k46, lz45, uz45⟩ := hH0.ld (c := 173) (i := 5) (A := 0) (B := 940) (bs_28_3 _ _ (by omega) (by omega))
  refine jv_v c3 hm rfl pj_X12_go rfl rfl ⟨_, _, _, rfl, sh_173⟩ rfl ((ct_X12_go_173p X (by omega) M0 hH0 ).le (by decide)) (fun M49 ⟨hH49, hR49, p47, p48⟩ => ?_)
  have hF49 := hF0.tr hR49 (by decide +kernel)
  refine jx_load c1 hm rfl rfl rfl rfl ?_
  refine jy_ic c1 hm rfl (by decide) ?_
  refine jy_sp c1 hm rfl (by decide) ?_
  refine jv_i c3 hm rfl pj_X12_readNumber rfl rfl ⟨_, _, _, rfl, sh_173⟩ rfl ((ct_X12_readNumber_173q X (by omega) M49 hH49 0 ⟨by omega, by omega⟩ 999 ⟨by omega, by omega⟩).le (by decide)) (fun z50 M54 ⟨hH54, hR54, lz50, uz50, p51, p52, p53⟩ => ?_)
  have hF54 := hF49.tr hR54 (by decide +kernel)
  obtain ⟨z55, k56, lz55, uz55⟩ := hH54.ld (c := 173) (i := 13) (A := (-2147483648)) (B := 2147483647) (bs_28_7 _ _ (by omega) (by omega))
  refine jz_ne c1 hm 55 rfl rfl (fun h57 => ?_) (fun h57 => ?_)
  ·
   refine jx_load c1 hm rfl rfl rfl rfl ?_
   refine jx_load c1 hm rfl rfl rfl rfl ?_
   refine jy_bp c1 hm rfl (by decide) ?_
   refine jx_load c1 hm rfl rfl rfl rfl ?_
   refine jy_add c1 hm (a0 + 50) rfl (by omega) ?_
   refine jy_ic c1 hm rfl (by decide) ?_
   refine jx_load c1 hm rfl rfl rfl rfl ?_
   refine jx_geti c1 hm rfl sh_173 rfl k56 ?_
   refine jx_load c1 hm rfl rfl rfl rfl ?_
   have k58 : M54.1 173 49 = z1 := (hR54 173 49 (by decide +kernel)).trans ((hR49 173 49 (by decide +kernel)).trans k2)
   refine jv_i c3 hm rfl pj_X12_saysOne rfl rfl ⟨_, _, _, rfl, sh_173⟩ rfl ((ct_X12_saysOne_173q X (by omega) M54 hH54 (a0 + 50) ⟨by omega, by omega⟩ 0 ⟨by omega, by omega⟩ z55 ⟨by omega, by omega⟩ z9 ⟨by omega, by omega⟩ (by omega) (TRN.cg hp1 (fun j => ((hR54 197 j rfl).trans (hR49 197 j rfl))) (by omega)) ⟨by omega, by omega, by omega⟩).le (by decide)) (fun z59 M64 ⟨hH64, hR64, lz59, uz59, p60, p61, p62, p63⟩ => ?_)
   have hF64 := hF54.tr hR64 (by decide +kernel)
   obtain ⟨z65, k66, lz65, uz65⟩ := hH64.ld (c := 173) (i := 49) (A := 0) (B := 60) (bs_28_23 _ _ (by omega) (by omega))
   skip
   obtain ⟨M67, e67, hH67, hF67, k67, n67, q67⟩ := mup hH64 hF64 (c := 173) (i := 52) (v := z59) (A := (-2147483648)) (B := 2147483647) (bs_28_26 _ _ (by omega)) ⟨by omega, by omega⟩ (jin_of 9 rfl ⟨by omega, by omega⟩)
   refine jm_puti c1 hm rfl sh_173 rfl e67 ?_
   refine jy_ic c1 hm rfl (by decide) ?_
   have k68 : M67.1 173 49 = z65 := (n67 173 49 (by decide)).trans k66
   have k69 : M67.1 173 50 = z3 := (n67 173 50 (by decide)).trans ((hR64 173 50 (by decide +kernel)).trans ((hR54 173 50 (by decide +kernel)).trans ((hR49 173 50 (by decide +kernel)).trans k4)))
   have k70 : M67.1 173 51 = z5 := (n67 173 51 (by decide)).trans ((hR64 173 51 (by decide +kernel)).trans ((hR54 173 51 (by decide +kernel)).trans ((hR49 173 51 (by decide +kernel)).trans k6)))
   exact jx_retz c2 hm rfl rfl ⟨by omega, by omega⟩ ⟨_, rfl, hH67, hF67, by omega, by omega, (by omega), (by omega), (by omega), (by omega), (Or.inr (TRN.cg p62 (fun j => (n67 197 j (fun h => absurd h.1 (by decide)))) (by omega))), (by omega), (fun t σ n hσ => LTr.eq (pl_20 (by omega)) (LTr.eq (rcmp_ok hσ (by omega)) (by have y9 := (p52 t _ n (CR.next hσ (rcmp_k hσ (by omega)) p47 (hR49 173 10 rfl) (fun j => hR49 175 j rfl) (fun k => p48 180 k rfl))).ok (by omega); exact LTr.o (CR.cg y9.2 (fun j => ((n67 174 j (fun h => absurd h.1 (by decide))).trans (hR64 174 j rfl))) (fun j hj => ((n67 173 j (fun e => absurd e.2 (by omega))).trans (hR64 173 j (jin_lo (b := 10) (by decide +kernel) (by omega))))) (((q67 173 12).trans (p63 173 12 rfl))) (((n67 173 10 (by decide)).trans (hR64 173 10 rfl))) (fun j => ((n67 175 j (fun h => absurd h.1 (by decide))).trans (hR64 175 j rfl))) (fun k => ((q67 180 k).trans (p63 180 k rfl)))) y9.1 rfl))), (((((LFr.rf _ _).tr p48 (by decide +kernel)).tr p53 (by decide +kernel)).tr p63 (by decide +kernel)).eq q67)⟩
  refine jy_ic c1 hm rfl (by decide) ?_
  have k71 : M54.1 173 49 = z1 := (hR54 173 49 (by decide +kernel)).trans ((hR49 173 49 (by decide +kernel)).trans k2)
  have k72 : M54.1 173 50 = z3 := (hR54 173 50 (by decide +kernel)).trans ((hR49 173 50 (by decide +kernel)).trans k4)
  have k73 : M54.1 173 51 = z5 := (hR54 173 51 (by decide +kernel)).trans ((hR49 173 51 (by decide +kernel)).trans k6)
  obtain ⟨z74, k75, lz74, uz74⟩ := hH54.ld (c := 173) (i := 52) (A := (-2147483648)) (B := 2147483647) (bs_28_26 _ _ (by omega))
  exact jx_retz c2 hm rfl rfl ⟨by omega, by omega⟩ ⟨_, rfl, hH54, hF54, by omega, by omega, (by omega), (by omega), (by omega), (by omega), (Or.inl rfl), (by omega), (fun t σ n hσ => LTr.eq (pl_20 (by omega)) (LTr.eq (rcmp_ok hσ (by omega)) ((p52 t _ n (CR.next hσ (rcmp_k hσ (by omega)) p47 (hR49 173 10 rfl) (fun j => hR49 175 j rfl) (fun k => p48 180 k rfl))).vc (by omega)))), (((LFr.rf _ _).tr p48 (by decide +kernel)).tr p53 (by decide +kernel))⟩
 refine jz_ne c1 hm 33 rfl rfl (fun h16 => ?_) (fun h16 => ?_)
 ·
  exact J44 (by omega) (by omega) (by omega)
 refine jx_load c1 hm rfl rfl rfl rfl ?_
 refine jy_bp c1 hm rfl (by decide) ?_
 refine jv_i c3 hm rfl pj_X12_isSign rfl rfl ⟨_, _, _, rfl, sh_173⟩ rfl ((ct_X12_isSign_173p X (by omega) M0 hH0 61 ⟨by omega, by omega⟩).le (by decide)) (fun z17 _ ⟨rfl, lz17, uz17, p18, p19⟩ => ?_)
 refine jz_ne c1 hm 33 rfl rfl (fun h20 => ?_) (fun h20 => ?_)
 ·
  exact J44 (by omega) (by omega) (by omega)
 refine jx_load c1 hm rfl rfl rfl rfl ?_
 refine jy_bp c1 hm rfl (by decide) ?_
 refine jv_i c3 hm rfl pj_X12_isSign rfl rfl ⟨_, _, _, rfl, sh_173⟩ rfl ((ct_X12_isSign_173p X (by omega) M0 hH0 62 ⟨by omega, by omega⟩).le (by decide)) (fun z21 _ ⟨rfl, lz21, uz21, p22, p23⟩ => ?_)
 refine jz_ne c1 hm 33 rfl rfl (fun h24 => ?_) (fun h24 => ?_)
 ·
  exact J44 (by omega) (by omega) (by omega)
 refine jx_load c1 hm rfl rfl rfl rfl ?_
 refine jy_ic c1 hm rfl (by decide) ?_
 refine jv_i c3 hm rfl pj_X12_bad rfl rfl ⟨_, _, _, rfl, sh_173⟩ rfl ((ct_X12_bad_173q X (by omega) M0 hH0 1 ⟨by omega, by omega⟩).le (by decide)) (fun z25 M31 ⟨hH31, hR31, lz25, uz25, p26, p27, p28, p29, p30⟩ => ?_)
 have hF31 := hF0.tr hR31 (by decide +kernel)
 obtain ⟨z32, k33, lz32, uz32⟩ := hH31.ld (c := 173) (i := 11) (A := 0) (B := 940) (bs_28_6 _ _ (by omega) (by omega))
 obtain ⟨z34, k35, lz34, uz34⟩ := hH31.ld (c := 173) (i := 10) (A := (-2147483648)) (B := 2147483647) (bs_28_5 _ _ (by omega) (by omega))
 have k36 : M31.1 173 49 = z1 := (hR31 173 49 (by decide +kernel)).trans k2
 have k37 : M31.1 173 50 = z3 := (hR31 173 50 (by decide +kernel)).trans k4
 have k38 : M31.1 173 51 = z5 := (hR31 173 51 (by decide +kernel)).trans k6
 obtain ⟨z39, k40, lz39, uz39⟩ := hH31.ld (c := 173) (i := 52) (A := (-2147483648)) (B := 2147483647) (bs_28_26 _ _ (by omega))
 exact jx_retz c2 hm rfl rfl ⟨by omega, by omega⟩ ⟨_, rfl, hH31, hF31, by omega, by omega, (by omega), (by omega), (by omega), (by omega), (Or.inl (by omega)), (by omega), (fun t σ n hσ => LTr.eq (pl_20 (by omega)) (LTr.eq (seqQ_n (rcmp_no hσ (by omega)).1) (LTr.no (k := 1) (n := n) (rcmp_no hσ (by omega)).2 (by decide) hσ (by omega) (by omega) (by omega)))), ((LFr.rf _ _).tr p30 (by decide +kernel))⟩
def md_X12_readNamed_173q : List (Nat × (Nat × Nat)) := [(173, (5, 5)), (173, (6, 6)), (173, (7, 7)), (173, (8, 8)), (173, (9, 9)), (173, (10, 10)), (173, (11, 11)), (173, (13, 13))]
theorem ct_X12_readNamed_173q (X : Int) (hX : 0 ≤ X ∧ X ≤ 100000000) (M0 : JM) (hH0 : HI X M0) (a0 : Int) (ha0 : 0 ≤ a0 ∧ a0 ≤ 12) (a1 : Int) (ha1 : 0 ≤ a1 ∧ a1 ≤ 6) : JOk shp PJ 4 164 [.inr (.inr (.inl 173)), .inl a0, .inl a1] M0 (jRi (fun v M' => HI X M' ∧ Fr md_X12_readNamed_173q M0 M' ∧ 0 ≤ v ∧ v ≤ 1 ∧ (v = 1 → 0 ≤ M'.1 173 13 ∧ M'.1 173 13 ≤ 5) ∧ (∀ (t : TXT) (σ : PSt) (n a : Int), 0 ≤ a ∧ a < 3 → CR M0 t σ → a0 = 6 * a → a1 = M0.1 175 a.toNat → LTr t (namQ t a (σ, n)) v M') ∧ (LFr ml_X12_go_173p M0 M'))) := by
 refine ⟨jr_X12_readNamed, pj_X12_readNamed, fun F c1 c2 c3 => ?_⟩
 have hm := pj_X12_readNamed
 change F 0 [some (.inr (.inr (.inl 173))), some (.inl a0), some (.inl a1)] [] M0
 have hF0 : Fr md_X12_readNamed_173q M0 M0 := Fr.rf _ _
 obtain ⟨z1, k2, lz1, uz1⟩ := hH0.ld (c := 173) (i := 7) (A := 0) (B := 4) (bs_28_4 _ _ (by omega) (by omega))
 obtain ⟨z3, k4, lz3, uz3⟩ := hH0.ld (c := 173) (i := 6) (A := 0) (B := 940) (bs_28_3 _ _ (by omega) (by omega))
 refine jx_load c1 hm rfl rfl rfl rfl ?_
 refine jv_i c3 hm rfl pj_X12_isName rfl rfl ⟨_, _, _, rfl, sh_173⟩ rfl ((ct_X12_isName_173p X (by omega) M0 hH0 ).le (by decide)) (fun z5 _ ⟨rfl, lz5, uz5, p6, p7⟩ => ?_)
 refine jz_ne c1 hm 13 rfl rfl (fun h8 => ?_) (fun h8 => ?_)
 ·
  refine jx_load c1 hm rfl rfl rfl rfl ?_
  refine jx_load c1 hm rfl rfl rfl rfl ?_
  refine jx_getr c1 hm rfl sh_173 rfl ?_
  refine jx_load c1 hm rfl rfl rfl rfl ?_
  refine jx_load c1 hm rfl rfl rfl rfl ?_
  refine jx_load c1 hm rfl rfl rfl rfl ?_
  obtain ⟨w9, kw9⟩ : ∃ w, M0.2 173 12 = w := ⟨_, rfl⟩
  have bw9 : LB w9.toInt := kw9 ▸ hH0.2.1 173 12 rfl
  refine jx_getl c1 hm rfl sh_173 rfl kw9 ?_
  skip
  refine jt_i c3 hm rfl rfl pj_X12_findIn rfl rfl rfl ((ct_X12_findIn_180 X (by omega) M0 hH0 a0 ⟨by omega, by omega⟩ a1 ⟨by omega, by omega⟩ w9).le (by decide)) (fun z10 _ ⟨rfl, lz10, uz10, p11, p12, p13⟩ => ?_)
  obtain ⟨M14, e14, hH14, hF14, k14, n14, q14⟩ := mup hH0 hF0 (c := 173) (i := 13) (v := z10) (A := (-2147483648)) (B := 2147483647) (bs_28_7 _ _ (by omega) (by omega)) ⟨by omega, by omega⟩ (jin_of 7 rfl ⟨by omega, by omega⟩)
  refine jm_puti c1 hm rfl sh_173 rfl e14 ?_
  refine jx_load c1 hm rfl rfl rfl rfl ?_
  refine jx_geti c1 hm rfl sh_173 rfl k14 ?_
  refine jy_ic c1 hm rfl (by decide) ?_
  refine jc_ne c1 hm 44 rfl rfl (fun h15 => ?_) (fun h15 => ?_)
  ·
   refine jx_load c1 hm rfl rfl rfl rfl ?_
   obtain ⟨z16, k17, lz16, uz16⟩ := hH14.ld (c := 173) (i := 5) (A := 0) (B := 940) (bs_28_3 _ _ (by omega) (by omega))
   refine jv_v c3 hm rfl pj_X12_go rfl rfl ⟨_, _, _, rfl, sh_173⟩ rfl ((ct_X12_go_173p X (by omega) M14 hH14 ).le (by decide)) (fun M20 ⟨hH20, hR20, p18, p19⟩ => ?_)
   have hF20 := hF14.tr hR20 (by decide +kernel)
   refine jy_ic c1 hm rfl (by decide) ?_
   have k21 : M20.1 173 13 = z10 := (hR20 173 13 (by decide +kernel)).trans k14
   exact jx_retz c2 hm rfl rfl ⟨by omega, by omega⟩ ⟨_, rfl, hH20, hF20, by omega, by omega, (by omega), (fun t σ n a ha hσ hb hm => rnmq_go hσ (p6 (by omega)) (FNR.hit hσ ha ⟨by omega, p11, p13, p12⟩ hb hm ((congrArg Int64.toInt kw9).symm.trans (hσ.word (hσ.kind.symm.trans (p6 (by omega)).1))) (by omega)) ha.1 (CR.cg hσ (fun j => (n14 174 j (fun h => absurd h.1 (by decide)))) (fun j hj => (n14 173 j (fun e => absurd e.2 (by omega)))) ((q14 173 12)) ((n14 173 10 (by decide))) (fun j => (n14 175 j (fun h => absurd h.1 (by decide)))) (fun k => (q14 180 k))) rfl p18 (hR20 173 10 rfl) (fun j => hR20 175 j rfl) (fun k => p19 180 k rfl)), (((LFr.rf _ _).eq q14).tr p19 (by decide +kernel))⟩
  refine jx_load c1 hm rfl rfl rfl rfl ?_
  refine jy_ic c1 hm rfl (by decide) ?_
  have k22 : M14.1 173 6 = z3 := (n14 173 6 (by decide)).trans k4
  have k23 : M14.1 173 7 = z1 := (n14 173 7 (by decide)).trans k2
  refine jv_i c3 hm rfl pj_X12_bad rfl rfl ⟨_, _, _, rfl, sh_173⟩ rfl ((ct_X12_bad_173q X (by omega) M14 hH14 3 ⟨by omega, by omega⟩).le (by decide)) (fun z24 M30 ⟨hH30, hR30, lz24, uz24, p25, p26, p27, p28, p29⟩ => ?_)
  have hF30 := hF14.tr hR30 (by decide +kernel)
  obtain ⟨z31, k32, lz31, uz31⟩ := hH30.ld (c := 173) (i := 11) (A := 0) (B := 940) (bs_28_6 _ _ (by omega) (by omega))
  obtain ⟨z33, k34, lz33, uz33⟩ := hH30.ld (c := 173) (i := 10) (A := (-2147483648)) (B := 2147483647) (bs_28_5 _ _ (by omega) (by omega))
  have k35 : M30.1 173 13 = z10 := (hR30 173 13 (by decide +kernel)).trans k14
  exact jx_retz c2 hm rfl rfl ⟨by omega, by omega⟩ ⟨_, rfl, hH30, hF30, by omega, by omega, (by omega), (fun t σ n a ha hσ hb hm => rnmq_no3 hσ (p6 (by omega)) (FNR.miss hσ ha ⟨by omega, p11, p13, p12⟩ hb hm ((congrArg Int64.toInt kw9).symm.trans (hσ.word (hσ.kind.symm.trans (p6 (by omega)).1))) (by omega)) (by omega) (by have y9 := (p6 (by omega)); omega) (by omega)), (((LFr.rf _ _).eq q14).tr p29 (by decide +kernel))⟩
 refine jx_load c1 hm rfl rfl rfl rfl ?_
 refine jy_ic c1 hm rfl (by decide) ?_
 refine jv_i c3 hm rfl pj_X12_bad rfl rfl ⟨_, _, _, rfl, sh_173⟩ rfl ((ct_X12_bad_173q X (by omega) M0 hH0 1 ⟨by omega, by omega⟩).le (by decide)) (fun z36 M42 ⟨hH42, hR42, lz36, uz36, p37, p38, p39, p40, p41⟩ => ?_)
 have hF42 := hF0.tr hR42 (by decide +kernel)
 obtain ⟨z43, k44, lz43, uz43⟩ := hH42.ld (c := 173) (i := 11) (A := 0) (B := 940) (bs_28_6 _ _ (by omega) (by omega))
 obtain ⟨z45, k46, lz45, uz45⟩ := hH42.ld (c := 173) (i := 10) (A := (-2147483648)) (B := 2147483647) (bs_28_5 _ _ (by omega) (by omega))
 obtain ⟨z47, k48, lz47, uz47⟩ := hH42.ld (c := 173) (i := 13) (A := (-2147483648)) (B := 2147483647) (bs_28_7 _ _ (by omega) (by omega))
 exact jx_retz c2 hm rfl rfl ⟨by omega, by omega⟩ ⟨_, rfl, hH42, hF42, by omega, by omega, (by omega), (fun t σ n a ha hσ hb hm => rnmq_no1 hσ (fun y => (p7.resolve_left (by omega)).elim (fun y2 => y2 y.1) (fun y2 => absurd y2 (by have y3 := y.2; omega))) (by omega) (by omega) (by omega)), ((LFr.rf _ _).tr p41 (by decide +kernel))⟩
def md_X12_readWhich_173q : List (Nat × (Nat × Nat)) := [(173, (5, 5)), (173, (6, 6)), (173, (7, 7)), (173, (8, 8)), (173, (9, 9)), (173, (10, 10)), (173, (11, 11)), (173, (13, 13))]
theorem ct_X12_readWhich_173q (X : Int) (hX : 0 ≤ X ∧ X ≤ 100000000) (M0 : JM) (hH0 : HI X M0) (a0 : Int) (ha0 : 17 ≤ a0 ∧ a0 ≤ 19) : JOk shp PJ 5 172 [.inr (.inr (.inl 173)), .inl a0] M0 (jRi (fun v M' => HI X M' ∧ Fr md_X12_readWhich_173q M0 M' ∧ 0 ≤ v ∧ v ≤ 1 ∧ (v = 1 → 0 ≤ M'.1 173 13 ∧ M'.1 173 13 ≤ 5) ∧ (∀ (t : TXT) (σ : PSt) (n : Int), CR M0 t σ → LTr t (plnQ t a0 (σ, n)) v M') ∧ (LFr ml_X12_go_173p M0 M'))) := by
 refine ⟨jr_X12_readWhich, pj_X12_readWhich, fun F c1 c2 c3 => ?_⟩
 have hm := pj_X12_readWhich
 change F 0 [some (.inr (.inr (.inl 173))), some (.inl a0)] [] M0
 have hF0 : Fr md_X12_readWhich_173q M0 M0 := Fr.rf _ _
 refine jx_load c1 hm rfl rfl rfl rfl ?_
 refine jy_bp c1 hm rfl (by decide) ?_
 refine jc_ne c1 hm 20 rfl rfl (fun h1 => ?_) (fun h1 => ?_)
 ·
  refine jx_load c1 hm rfl rfl rfl rfl ?_
  refine jy_bp c1 hm rfl (by decide) ?_
  refine jc_ne c1 hm 41 rfl rfl (fun h2 => ?_) (fun h2 => ?_)
  ·
   refine jx_load c1 hm rfl rfl rfl rfl ?_
   refine jy_bp c1 hm rfl (by decide) ?_
   refine jx_load c1 hm rfl rfl rfl rfl ?_
   refine jx_getr c1 hm rfl sh_173 rfl ?_
   refine jy_ic c1 hm rfl (by decide) ?_
   obtain ⟨z3, k4, lz3, uz3⟩ := hH0.ld (c := 175) (i := 1) (A := 0) (B := 6) (bs_11_0 _ _ (by omega) (by omega))
   refine jx_iald c1 hm rfl sh_175 ⟨by omega, by omega⟩ k4 ?_
   skip
   refine jv_i c3 hm rfl pj_X12_readNamed rfl rfl ⟨_, _, _, rfl, sh_173⟩ rfl ((ct_X12_readNamed_173q X (by omega) M0 hH0 6 ⟨by omega, by omega⟩ z3 ⟨by omega, by omega⟩).le (by decide)) (fun z5 M9 ⟨hH9, hR9, lz5, uz5, p6, p7, p8⟩ => ?_)
   have hF9 := hF0.tr hR9 (by decide +kernel)
   obtain ⟨z10, k11, lz10, uz10⟩ := hH9.ld (c := 173) (i := 13) (A := (-2147483648)) (B := 2147483647) (bs_28_7 _ _ (by omega) (by omega))
   exact jx_retz c2 hm rfl rfl ⟨by omega, by omega⟩ ⟨_, rfl, hH9, hF9, by omega, by omega, (by omega), (fun t σ n hσ => LTr.eq (pl_19 (by omega)) (p7 t σ n 1 (by decide) hσ (by decide) k4.symm)), ((LFr.rf _ _).tr p8 (by decide +kernel))⟩
  refine jx_load c1 hm rfl rfl rfl rfl ?_
  refine jy_bp c1 hm rfl (by decide) ?_
  refine jx_load c1 hm rfl rfl rfl rfl ?_
  refine jx_getr c1 hm rfl sh_173 rfl ?_
  refine jy_ic c1 hm rfl (by decide) ?_
  obtain ⟨z12, k13, lz12, uz12⟩ := hH0.ld (c := 175) (i := 2) (A := 0) (B := 6) (bs_11_0 _ _ (by omega) (by omega))
  refine jx_iald c1 hm rfl sh_175 ⟨by omega, by omega⟩ k13 ?_
  skip
  refine jv_i c3 hm rfl pj_X12_readNamed rfl rfl ⟨_, _, _, rfl, sh_173⟩ rfl ((ct_X12_readNamed_173q X (by omega) M0 hH0 12 ⟨by omega, by omega⟩ z12 ⟨by omega, by omega⟩).le (by decide)) (fun z14 M18 ⟨hH18, hR18, lz14, uz14, p15, p16, p17⟩ => ?_)
  have hF18 := hF0.tr hR18 (by decide +kernel)
  obtain ⟨z19, k20, lz19, uz19⟩ := hH18.ld (c := 173) (i := 13) (A := (-2147483648)) (B := 2147483647) (bs_28_7 _ _ (by omega) (by omega))
  refine jx_goto c1 hm 53 rfl rfl ?_
  exact jx_retz c2 hm rfl rfl ⟨by omega, by omega⟩ ⟨_, rfl, hH18, hF18, by omega, by omega, (by omega), (fun t σ n hσ => LTr.eq (pl_18 (by omega)) (p16 t σ n 2 (by decide) hσ (by decide) k13.symm)), ((LFr.rf _ _).tr p17 (by decide +kernel))⟩
 refine jx_load c1 hm rfl rfl rfl rfl ?_
 refine jy_ic c1 hm rfl (by decide) ?_
 refine jx_load c1 hm rfl rfl rfl rfl ?_
 refine jx_getr c1 hm rfl sh_173 rfl ?_
 refine jy_ic c1 hm rfl (by decide) ?_
 obtain ⟨z21, k22, lz21, uz21⟩ := hH0.ld (c := 175) (i := 0) (A := 0) (B := 6) (bs_11_0 _ _ (by omega) (by omega))
 refine jx_iald c1 hm rfl sh_175 ⟨by omega, by omega⟩ k22 ?_
 skip
 refine jv_i c3 hm rfl pj_X12_readNamed rfl rfl ⟨_, _, _, rfl, sh_173⟩ rfl ((ct_X12_readNamed_173q X (by omega) M0 hH0 0 ⟨by omega, by omega⟩ z21 ⟨by omega, by omega⟩).le (by decide)) (fun z23 M27 ⟨hH27, hR27, lz23, uz23, p24, p25, p26⟩ => ?_)
 have hF27 := hF0.tr hR27 (by decide +kernel)
 obtain ⟨z28, k29, lz28, uz28⟩ := hH27.ld (c := 173) (i := 13) (A := (-2147483648)) (B := 2147483647) (bs_28_7 _ _ (by omega) (by omega))
 refine jx_goto c1 hm 53 rfl rfl ?_
 exact jx_retz c2 hm rfl rfl ⟨by omega, by omega⟩ ⟨_, rfl, hH27, hF27, by omega, by omega, (by omega), (fun t σ n hσ => LTr.eq (pl_17 (by omega)) (p25 t σ n 0 (by decide) hσ (by decide) k22.symm)), ((LFr.rf _ _).tr p26 (by decide +kernel))⟩
def md_X12_readOf_173q : List (Nat × (Nat × Nat)) := [(173, (5, 5)), (173, (6, 6)), (173, (7, 7)), (173, (8, 8)), (173, (9, 9)), (173, (10, 10)), (173, (11, 11)), (173, (13, 13)), (173, (49, 49)), (173, (52, 52)), (197, (0, 236)), (197, (1, 237)), (197, (2, 238)), (197, (3, 239))]
theorem ct_X12_readOf_173q (X : Int) (hX : 0 ≤ X ∧ X ≤ 100000000) (M0 : JM) (hH0 : HI X M0) (a0 : Int) (ha0 : 17 ≤ a0 ∧ a0 ≤ 19) (hp0 : M0.1 173 49 ≤ 2 * M0.1 173 50) (hp1 : TRN M0 (M0.1 173 49)) : JOk shp PJ 6 168 [.inr (.inr (.inl 173)), .inl a0] M0 (jRi (fun v M' => HI X M' ∧ Fr md_X12_readOf_173q M0 M' ∧ 0 ≤ v ∧ v ≤ 1 ∧ (M'.1 173 51 = M0.1 173 51) ∧ (v = 0 ∨ M'.1 173 49 = M0.1 173 49 + 1) ∧ (M'.1 173 50 = M0.1 173 50) ∧ (v = 0 ∨ (0 ≤ M'.1 173 52 ∧ M'.1 173 52 < M'.1 173 49)) ∧ (v = 0 ∨ TRN M' (M'.1 173 49)) ∧ (v = 0 ∨ M0.1 173 49 ≤ M'.1 173 49) ∧ (∀ (t : TXT) (σ : PSt) (n : Int), CR M0 t σ → LTr t (plnQ t a0 (σ, n)) v M') ∧ (LFr ml_X12_go_173p M0 M'))) := by
 refine ⟨jr_X12_readOf, pj_X12_readOf, fun F c1 c2 c3 => ?_⟩
 have hm := pj_X12_readOf
 change F 0 [some (.inr (.inr (.inl 173))), some (.inl a0)] [] M0
 have hF0 : Fr md_X12_readOf_173q M0 M0 := Fr.rf _ _
 obtain ⟨z1, k2, lz1, uz1⟩ := hH0.ld (c := 173) (i := 49) (A := 0) (B := 60) (bs_28_23 _ _ (by omega) (by omega))
 obtain ⟨z3, k4, lz3, uz3⟩ := hH0.ld (c := 173) (i := 50) (A := 0) (B := 20) (bs_28_24 _ _ (by omega) (by omega))
 obtain ⟨z5, k6, lz5, uz5⟩ := hH0.ld (c := 173) (i := 51) (A := 0) (B := 8) (bs_28_25 _ _ (by omega) (by omega))
 refine jx_load c1 hm rfl rfl rfl rfl ?_
 refine jx_load c1 hm rfl rfl rfl rfl ?_
 refine jv_i c3 hm rfl pj_X12_readWhich rfl rfl ⟨_, _, _, rfl, sh_173⟩ rfl ((ct_X12_readWhich_173q X (by omega) M0 hH0 a0 ⟨by omega, by omega⟩).le (by decide)) (fun z7 M11 ⟨hH11, hR11, lz7, uz7, p8, p9, p10⟩ => ?_)
 have hF11 := hF0.tr hR11 (by decide +kernel)
 obtain ⟨z12, k13, lz12, uz12⟩ := hH11.ld (c := 173) (i := 13) (A := (-2147483648)) (B := 2147483647) (bs_28_7 _ _ (by omega) (by omega))
 refine jz_ne c1 hm 10 rfl rfl (fun h14 => ?_) (fun h14 => ?_)
 ·
  refine jx_load c1 hm rfl rfl rfl rfl ?_
  refine jx_load c1 hm rfl rfl rfl rfl ?_
  refine jy_bp c1 hm rfl (by decide) ?_
  refine jx_load c1 hm rfl rfl rfl rfl ?_
  refine jy_add c1 hm (a0 + 50) rfl (by omega) ?_
  refine jx_load c1 hm rfl rfl rfl rfl ?_
  refine jx_geti c1 hm rfl sh_173 rfl k13 ?_
  refine jy_ic c1 hm rfl (by decide) ?_
  refine jy_ic c1 hm rfl (by decide) ?_
  have k15 : M11.1 173 49 = z1 := (hR11 173 49 (by decide +kernel)).trans k2
  refine jv_i c3 hm rfl pj_X12_saysOne rfl rfl ⟨_, _, _, rfl, sh_173⟩ rfl ((ct_X12_saysOne_173q X (by omega) M11 hH11 (a0 + 50) ⟨by omega, by omega⟩ z12 ⟨by omega, by omega⟩ 0 ⟨by omega, by omega⟩ 0 ⟨by omega, by omega⟩ (by omega) (TRN.cg hp1 (fun j => (hR11 197 j rfl)) (by omega)) ⟨by omega, by omega, by omega⟩).le (by decide)) (fun z16 M21 ⟨hH21, hR21, lz16, uz16, p17, p18, p19, p20⟩ => ?_)
  have hF21 := hF11.tr hR21 (by decide +kernel)
  obtain ⟨z22, k23, lz22, uz22⟩ := hH21.ld (c := 173) (i := 49) (A := 0) (B := 60) (bs_28_23 _ _ (by omega) (by omega))
  skip
  obtain ⟨M24, e24, hH24, hF24, k24, n24, q24⟩ := mup hH21 hF21 (c := 173) (i := 52) (v := z16) (A := (-2147483648)) (B := 2147483647) (bs_28_26 _ _ (by omega)) ⟨by omega, by omega⟩ (jin_of 9 rfl ⟨by omega, by omega⟩)
  refine jm_puti c1 hm rfl sh_173 rfl e24 ?_
  refine jy_ic c1 hm rfl (by decide) ?_
  have k25 : M24.1 173 49 = z22 := (n24 173 49 (by decide)).trans k23
  have k26 : M24.1 173 50 = z3 := (n24 173 50 (by decide)).trans ((hR21 173 50 (by decide +kernel)).trans ((hR11 173 50 (by decide +kernel)).trans k4))
  have k27 : M24.1 173 51 = z5 := (n24 173 51 (by decide)).trans ((hR21 173 51 (by decide +kernel)).trans ((hR11 173 51 (by decide +kernel)).trans k6))
  exact jx_retz c2 hm rfl rfl ⟨by omega, by omega⟩ ⟨_, rfl, hH24, hF24, by omega, by omega, (by omega), (by omega), (by omega), (by omega), (Or.inr (TRN.cg p19 (fun j => (n24 197 j (fun h => absurd h.1 (by decide)))) (by omega))), (by omega), (fun t σ n hσ => by have y9 := (p9 t σ n hσ).ok (by omega); exact LTr.o (CR.cg y9.2 (fun j => ((n24 174 j (fun h => absurd h.1 (by decide))).trans (hR21 174 j rfl))) (fun j hj => ((n24 173 j (fun e => absurd e.2 (by omega))).trans (hR21 173 j (jin_lo (b := 10) (by decide +kernel) (by omega))))) (((q24 173 12).trans (p20 173 12 rfl))) (((n24 173 10 (by decide)).trans (hR21 173 10 rfl))) (fun j => ((n24 175 j (fun h => absurd h.1 (by decide))).trans (hR21 175 j rfl))) (fun k => ((q24 180 k).trans (p20 180 k rfl)))) y9.1 rfl), ((((LFr.rf _ _).tr p10 (by decide +kernel)).tr p20 (by decide +kernel)).eq q24)⟩
 refine jy_ic c1 hm rfl (by decide) ?_
 have k28 : M11.1 173 49 = z1 := (hR11 173 49 (by decide +kernel)).trans k2
 have k29 : M11.1 173 50 = z3 := (hR11 173 50 (by decide +kernel)).trans k4
 have k30 : M11.1 173 51 = z5 := (hR11 173 51 (by decide +kernel)).trans k6
 obtain ⟨z31, k32, lz31, uz31⟩ := hH11.ld (c := 173) (i := 52) (A := (-2147483648)) (B := 2147483647) (bs_28_26 _ _ (by omega))
 exact jx_retz c2 hm rfl rfl ⟨by omega, by omega⟩ ⟨_, rfl, hH11, hF11, by omega, by omega, (by omega), (by omega), (by omega), (by omega), (Or.inl rfl), (by omega), (fun t σ n hσ => (p9 t σ n hσ).vc (by omega)), ((LFr.rf _ _).tr p10 (by decide +kernel))⟩
