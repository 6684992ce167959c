/-! Contracts that tell kinds of faults (by wip/q/wlk.py). -/
def md_X12_begin_173k : List (Nat × (Nat × Nat)) := [(173, (0, 0)), (173, (2, 2)), (173, (3, 3)), (173, (4, 4)), (173, (5, 5)), (173, (6, 6)), (173, (7, 7)), (173, (8, 8)), (173, (9, 9)), (173, (10, 10))]
theorem ct_X12_begin_173k (X : Int) (hX : 0 ≤ X ∧ X ≤ 100000000) (M0 : JM) (hH0 : HI X M0) (a0 : Int) (ha0 : 0 ≤ a0 ∧ a0 ≤ 900) : JOk shp PJ 3 82 [.inr (.inr (.inl 173)), .inl a0] M0 (jRv (fun M' => HI X M' ∧ Fr md_X12_begin_173k M0 M' ∧ (RTk M' (uR M0, (M0.1 173 2, a0)) 0) ∧ (M'.1 173 2 = 0) ∧ (LFr ml_X12_begin_173p M0 M') ∧ (M'.1 173 10 = 0))) := by
 refine ⟨jr_X12_begin, pj_X12_begin, fun F c1 c2 c3 => ?_⟩
 have hm := pj_X12_begin
 change F 0 [some (.inr (.inr (.inl 173))), some (.inl a0)] [] M0
 have hF0 : Fr md_X12_begin_173k M0 M0 := Fr.rf _ _
 obtain ⟨z1, k2, lz1, uz1⟩ := hH0.ld (c := 173) (i := 2) (A := 0) (B := 940) (bs_28_1 _ _ (by omega) (by omega))
 refine jx_load c1 hm rfl rfl rfl rfl ?_
 refine jy_ic c1 hm rfl (by decide) ?_
 obtain ⟨M3, e3, hH3, hF3, k3, n3, q3⟩ := mup hH0 hF0 (c := 173) (i := 0) (v := 0) (A := (-2147483648)) (B := 2147483647) (bs_28_0 _ _ (by omega) (by omega)) ⟨by omega, by omega⟩ (jin_of 0 rfl ⟨by omega, by omega⟩)
 refine jm_puti c1 hm rfl sh_173 rfl e3 ?_
 refine jx_load c1 hm rfl rfl rfl rfl ?_
 refine jx_load c1 hm rfl rfl rfl rfl ?_
 have k4 : M3.1 173 2 = z1 := (n3 173 2 (by decide)).trans k2
 refine jv_i c3 hm rfl pj_X12_take rfl rfl ⟨_, _, _, rfl, sh_173⟩ rfl ((ct_X12_take_173p X (by omega) M3 hH3 ).le (by decide)) (fun z5 M9 ⟨hH9, hR9, lz5, uz5, p6, p7, p8⟩ => ?_)
 have hF9 := hF3.tr hR9 (by decide +kernel)
 obtain ⟨z10, k11, lz10, uz10⟩ := hH9.ld (c := 173) (i := 2) (A := 0) (B := 940) (bs_28_1 _ _ (by omega) (by omega))
 obtain ⟨M12, e12, hH12, hF12, k12, n12, q12⟩ := mup hH9 hF9 (c := 173) (i := 3) (v := z5) (A := 0) (B := 940) (bs_28_1 _ _ (by omega) (by omega)) ⟨by omega, by omega⟩ (jin_of 2 rfl ⟨by omega, by omega⟩)
 refine jm_puti c1 hm rfl sh_173 rfl e12 ?_
 refine jx_load c1 hm rfl rfl rfl rfl ?_
 refine jx_load c1 hm rfl rfl rfl rfl ?_
 obtain ⟨M13, e13, hH13, hF13, k13, n13, q13⟩ := mup hH12 hF12 (c := 173) (i := 4) (v := a0) (A := 0) (B := 900) (bs_28_2 _ _ (by omega) (by omega)) ⟨by omega, by omega⟩ (jin_of 3 rfl ⟨by omega, by omega⟩)
 refine jm_puti c1 hm rfl sh_173 rfl e13 ?_
 refine jx_load c1 hm rfl rfl rfl rfl ?_
 refine jy_ic c1 hm rfl (by decide) ?_
 obtain ⟨M14, e14, hH14, hF14, k14, n14, q14⟩ := mup hH13 hF13 (c := 173) (i := 10) (v := 0) (A := (-2147483648)) (B := 2147483647) (bs_28_5 _ _ (by omega) (by omega)) ⟨by omega, by omega⟩ (jin_of 9 rfl ⟨by omega, by omega⟩)
 refine jm_puti c1 hm rfl sh_173 rfl e14 ?_
 refine jx_load c1 hm rfl rfl rfl rfl ?_
 refine jy_ic c1 hm rfl (by decide) ?_
 obtain ⟨M15, e15, hH15, hF15, k15, n15, q15⟩ := mup hH14 hF14 (c := 173) (i := 5) (v := 0) (A := 0) (B := 940) (bs_28_3 _ _ (by omega) (by omega)) ⟨by omega, by omega⟩ (jin_of 4 rfl ⟨by omega, by omega⟩)
 refine jm_puti c1 hm rfl sh_173 rfl e15 ?_
 refine jx_load c1 hm rfl rfl rfl rfl ?_
 refine jv_v c3 hm rfl pj_X12_go rfl rfl ⟨_, _, _, rfl, sh_173⟩ rfl ((ct_X12_go_173p X (by omega) M15 hH15 ).le (by decide)) (fun M18 ⟨hH18, hR18, p16, p17⟩ => ?_)
 have hF18 := hF15.tr hR18 (by decide +kernel)
 have k19 : M18.1 173 2 = z10 := (hR18 173 2 (by decide +kernel)).trans ((n15 173 2 (by decide)).trans ((n14 173 2 (by decide)).trans ((n13 173 2 (by decide)).trans ((n12 173 2 (by decide)).trans k11))))
 have k20 : M18.1 173 10 = 0 := (hR18 173 10 (by decide +kernel)).trans ((n15 173 10 (by decide)).trans k14)
 exact jx_retv c2 hm rfl rfl ⟨rfl, hH18, hF18, (be_tx p16 (fun j => hF15 174 j rfl) ((((n15 173 3 (by decide)).trans (n14 173 3 (by decide))).trans (n13 173 3 (by decide))).trans (k12.trans (by omega))) (((n15 173 4 (by decide)).trans (n14 173 4 (by decide))).trans k13) (rfl.trans k15)), (by omega), ((((((((LFr.rf _ _).eq q3).tr p8 (by decide +kernel)).eq q12).eq q13).eq q14).eq q15).tr p17 (by decide +kernel)), (by omega)⟩
def md_X12_readNumber_173k : List (Nat × (Nat × Nat)) := [(173, (5, 5)), (173, (6, 6)), (173, (7, 7)), (173, (8, 8)), (173, (9, 9)), (173, (10, 10)), (173, (11, 11)), (173, (13, 13))]
theorem ct_X12_readNumber_173k (X : Int) (hX : 0 ≤ X ∧ X ≤ 100000000) (M0 : JM) (hH0 : HI X M0) (a0 : Int) (ha0 : 0 ≤ a0 ∧ a0 ≤ 1) (a1 : Int) (ha1 : 0 ≤ a1 ∧ a1 ≤ 999) : JOk shp PJ 3 167 [.inr (.inr (.inl 173)), .inl a0, .inl a1] M0 (jRi (fun v M' => HI X M' ∧ Fr md_X12_readNumber_173k M0 M' ∧ 0 ≤ v ∧ v ≤ 1 ∧ (v = 1 → a0 ≤ M'.1 173 13 ∧ M'.1 173 13 ≤ a1) ∧ (∀ (t : TXT) (σ : PSt), RS M0 t σ → LRr t (numS t a0 a1 σ) v M') ∧ (LFr ml_X12_readNumber_173p M0 M') ∧ (∀ (t : TXT) (σ : PSt), RS M0 t σ → KCr (numK t σ) v M') ∧ (FEr v M0 M'))) := by
 refine ⟨jr_X12_readNumber, pj_X12_readNumber, fun F c1 c2 c3 => ?_⟩
 have hm := pj_X12_readNumber
 change F 0 [some (.inr (.inr (.inl 173))), some (.inl a0), some (.inl a1)] [] M0
 have hF0 : Fr md_X12_readNumber_173k M0 M0 := Fr.rf _ _
 obtain ⟨z1, k2, lz1, uz1⟩ := hH0.ld (c := 173) (i := 7) (A := 0) (B := 4) (bs_28_4 _ _ (by omega) (by omega))
 obtain ⟨z3, k4, lz3, uz3⟩ := hH0.ld (c := 173) (i := 8) (A := (-2147483648)) (B := 2147483647) (bs_28_5 _ _ (by omega) (by omega))
 refine jx_load c1 hm rfl rfl rfl rfl ?_
 refine jx_geti c1 hm rfl sh_173 rfl k2 ?_
 refine jy_ic c1 hm rfl (by decide) ?_
 refine jc_eq c1 hm 14 rfl rfl (fun h5 => ?_) (fun h5 => ?_)
 ·
  refine jx_load c1 hm rfl rfl rfl rfl ?_
  refine jx_geti c1 hm rfl sh_173 rfl k4 ?_
  refine jx_load c1 hm rfl rfl rfl rfl ?_
  refine jx_load c1 hm rfl rfl rfl rfl ?_
  refine jt_i c3 hm rfl rfl pj_X12_isIn rfl rfl rfl ((ct_X12_isInp X (by omega) M0 hH0 z3 ⟨by omega, by omega⟩ a0 ⟨by omega, by omega⟩ a1 ⟨by omega, by omega⟩).le (by decide)) (fun z6 _ ⟨rfl, lz6, uz6, p7, p8⟩ => ?_)
  refine jz_ne c1 hm 32 rfl rfl (fun h9 => ?_) (fun h9 => ?_)
  ·
   refine jx_load c1 hm rfl rfl rfl rfl ?_
   refine jx_load c1 hm rfl rfl rfl rfl ?_
   refine jx_geti c1 hm rfl sh_173 rfl k4 ?_
   obtain ⟨M10, e10, hH10, hF10, k10, n10, q10⟩ := mup hH0 hF0 (c := 173) (i := 13) (v := z3) (A := (-2147483648)) (B := 2147483647) (bs_28_7 _ _ (by omega) (by omega)) ⟨by omega, by omega⟩ (jin_of 7 rfl ⟨by omega, by omega⟩)
   refine jm_puti c1 hm rfl sh_173 rfl e10 ?_
   refine jx_load c1 hm rfl rfl rfl rfl ?_
   obtain ⟨z11, k12, lz11, uz11⟩ := hH10.ld (c := 173) (i := 5) (A := 0) (B := 940) (bs_28_3 _ _ (by omega) (by omega))
   refine jv_v c3 hm rfl pj_X12_go rfl rfl ⟨_, _, _, rfl, sh_173⟩ rfl ((ct_X12_go_173p X (by omega) M10 hH10 ).le (by decide)) (fun M15 ⟨hH15, hR15, p13, p14⟩ => ?_)
   have hF15 := hF10.tr hR15 (by decide +kernel)
   refine jy_ic c1 hm rfl (by decide) ?_
   have k16 : M15.1 173 13 = z3 := (hR15 173 13 (by decide +kernel)).trans k10
   exact jx_retz c2 hm rfl rfl ⟨by omega, by omega⟩ ⟨_, rfl, hH15, hF15, by omega, by omega, (by omega), (fun t σ hσ => rnum_go hσ (by omega) ⟨by omega, by omega⟩ (RS.st hσ n10 q10 rfl) rfl p13 hR15 p14 (by decide +kernel)), (((LFr.rf _ _).eq q10).tr p14 (by decide +kernel)), (fun t σ hσ => KCr.y (by omega)), (FEr.ok ((hR15 173 10 rfl).trans (n10 173 10 (by decide))))⟩
  refine jx_load c1 hm rfl rfl rfl rfl ?_
  refine jy_ic c1 hm rfl (by decide) ?_
  obtain ⟨z17, k18, lz17, uz17⟩ := hH0.ld (c := 173) (i := 6) (A := 0) (B := 940) (bs_28_3 _ _ (by omega) (by omega))
  refine jv_i c3 hm rfl pj_X12_bad rfl rfl ⟨_, _, _, rfl, sh_173⟩ rfl ((ct_X12_bad_173q X (by omega) M0 hH0 2 ⟨by omega, by omega⟩).le (by decide)) (fun z19 M25 ⟨hH25, hR25, lz19, uz19, p20, p21, p22, p23, p24⟩ => ?_)
  have hF25 := hF0.tr hR25 (by decide +kernel)
  obtain ⟨z26, k27, lz26, uz26⟩ := hH25.ld (c := 173) (i := 11) (A := 0) (B := 940) (bs_28_6 _ _ (by omega) (by omega))
  obtain ⟨z28, k29, lz28, uz28⟩ := hH25.ld (c := 173) (i := 10) (A := (-2147483648)) (B := 2147483647) (bs_28_5 _ _ (by omega) (by omega))
  obtain ⟨z30, k31, lz30, uz30⟩ := hH25.ld (c := 173) (i := 13) (A := (-2147483648)) (B := 2147483647) (bs_28_7 _ _ (by omega) (by omega))
  exact jx_retz c2 hm rfl rfl ⟨by omega, by omega⟩ ⟨_, rfl, hH25, hF25, by omega, by omega, (by omega), (fun t σ hσ => rnum_no hσ (by omega) (by omega) (by omega)), ((LFr.rf _ _).tr p24 (by decide +kernel)), (fun t σ hσ => KCr.of (by have y9 := hσ.kind; unfold numK; split <;> omega)), (FEr.no (by omega))⟩
 refine jx_load c1 hm rfl rfl rfl rfl ?_
 refine jy_ic c1 hm rfl (by decide) ?_
 obtain ⟨z32, k33, lz32, uz32⟩ := hH0.ld (c := 173) (i := 6) (A := 0) (B := 940) (bs_28_3 _ _ (by omega) (by omega))
 refine jv_i c3 hm rfl pj_X12_bad rfl rfl ⟨_, _, _, rfl, sh_173⟩ rfl ((ct_X12_bad_173q X (by omega) M0 hH0 1 ⟨by omega, by omega⟩).le (by decide)) (fun z34 M40 ⟨hH40, hR40, lz34, uz34, p35, p36, p37, p38, p39⟩ => ?_)
 have hF40 := hF0.tr hR40 (by decide +kernel)
 obtain ⟨z41, k42, lz41, uz41⟩ := hH40.ld (c := 173) (i := 11) (A := 0) (B := 940) (bs_28_6 _ _ (by omega) (by omega))
 obtain ⟨z43, k44, lz43, uz43⟩ := hH40.ld (c := 173) (i := 10) (A := (-2147483648)) (B := 2147483647) (bs_28_5 _ _ (by omega) (by omega))
 obtain ⟨z45, k46, lz45, uz45⟩ := hH40.ld (c := 173) (i := 13) (A := (-2147483648)) (B := 2147483647) (bs_28_7 _ _ (by omega) (by omega))
 exact jx_retz c2 hm rfl rfl ⟨by omega, by omega⟩ ⟨_, rfl, hH40, hF40, by omega, by omega, (by omega), (fun t σ hσ => rnum_no hσ (by omega) (by omega) (by omega)), ((LFr.rf _ _).tr p39 (by decide +kernel)), (fun t σ hσ => KCr.of (by have y9 := hσ.kind; unfold numK; split <;> omega)), (FEr.no (by omega))⟩
def md_X12_isOne_173k : List (Nat × (Nat × Nat)) := [(173, (10, 10)), (173, (11, 11)), (173, (13, 13))]
theorem ct_X12_isOne_173k (X : Int) (hX : 0 ≤ X ∧ X ≤ 100000000) (M0 : JM) (hH0 : HI X M0) (a0 : Int) (ha0 : 0 ≤ a0 ∧ a0 ≤ 12) (a1 : Int) (ha1 : 0 ≤ a1 ∧ a1 ≤ 6) : JOk shp PJ 4 122 [.inr (.inr (.inl 173)), .inl a0, .inl a1] M0 (jRi (fun v M' => HI X M' ∧ Fr md_X12_isOne_173k M0 M' ∧ 0 ≤ v ∧ v ≤ 1 ∧ (v = 1 → 0 ≤ M'.1 173 13 ∧ M'.1 173 13 ≤ 5) ∧ (∀ (t : TXT) (σ : PSt) (g : Int → PSt → RES) (a : Int), 0 ≤ a ∧ a < 3 → RS M0 t σ → a0 = 6 * a → a1 = M0.1 176 a.toNat → NMR t a g σ v M') ∧ (LFr ml_X12_isOne_173p M0 M') ∧ (∀ (t : TXT) (σ : PSt), RS M0 t σ → KCr (nmK t σ) v M') ∧ (FEr v M0 M'))) := by
 refine ⟨jr_X12_isOne, pj_X12_isOne, fun F c1 c2 c3 => ?_⟩
 have hm := pj_X12_isOne
 change F 0 [some (.inr (.inr (.inl 173))), some (.inl a0), some (.inl a1)] [] M0
 have hF0 : Fr md_X12_isOne_173k M0 M0 := Fr.rf _ _
 refine jx_load c1 hm rfl rfl rfl rfl ?_
 obtain ⟨z1, k2, lz1, uz1⟩ := hH0.ld (c := 173) (i := 7) (A := 0) (B := 4) (bs_28_4 _ _ (by omega) (by omega))
 refine jv_i c3 hm rfl pj_X12_isName rfl rfl ⟨_, _, _, rfl, sh_173⟩ rfl ((ct_X12_isName_173p X (by omega) M0 hH0 ).le (by decide)) (fun z3 _ ⟨rfl, lz3, uz3, p4, p5⟩ => ?_)
 refine jz_ne c1 hm 13 rfl rfl (fun h6 => ?_) (fun h6 => ?_)
 ·
  refine jx_load c1 hm rfl rfl rfl rfl ?_
  refine jx_load c1 hm rfl rfl rfl rfl ?_
  refine jx_getr c1 hm rfl sh_173 rfl ?_
  refine jx_load c1 hm rfl rfl rfl rfl ?_
  refine jx_load c1 hm rfl rfl rfl rfl ?_
  refine jx_load c1 hm rfl rfl rfl rfl ?_
  obtain ⟨w7, kw7⟩ : ∃ w, M0.2 173 12 = w := ⟨_, rfl⟩
  have bw7 : LB w7.toInt := kw7 ▸ hH0.2.1 173 12 rfl
  refine jx_getl c1 hm rfl sh_173 rfl kw7 ?_
  skip
  refine jt_i c3 hm rfl rfl pj_X12_findIn rfl rfl rfl ((ct_X12_findIn_181 X (by omega) M0 hH0 a0 ⟨by omega, by omega⟩ a1 ⟨by omega, by omega⟩ w7).le (by decide)) (fun z8 _ ⟨rfl, lz8, uz8, p9, p10, p11⟩ => ?_)
  obtain ⟨M12, e12, hH12, hF12, k12, n12, q12⟩ := mup hH0 hF0 (c := 173) (i := 13) (v := z8) (A := (-2147483648)) (B := 2147483647) (bs_28_7 _ _ (by omega) (by omega)) ⟨by omega, by omega⟩ (jin_of 2 rfl ⟨by omega, by omega⟩)
  refine jm_puti c1 hm rfl sh_173 rfl e12 ?_
  refine jx_load c1 hm rfl rfl rfl rfl ?_
  refine jx_geti c1 hm rfl sh_173 rfl k12 ?_
  refine jy_ic c1 hm rfl (by decide) ?_
  refine jc_ne c1 hm 46 rfl rfl (fun h13 => ?_) (fun h13 => ?_)
  ·
   refine jy_ic c1 hm rfl (by decide) ?_
   refine jx_goto c1 hm 51 rfl rfl ?_
   exact jx_retz c2 hm rfl rfl ⟨by omega, by omega⟩ ⟨_, rfl, hH12, hF12, by omega, by omega, (by omega), (fun t σ g a ha hσ hb hn => rone_go hσ (p4 (by omega)) (FIN.hit hσ ha ⟨by omega, p9, p11, p10⟩ hb hn ((congrArg Int64.toInt kw7).symm.trans (hσ.word (hσ.kind.symm.trans (p4 (by omega)).1))) (by omega)) ha rfl k12 n12 q12), ((LFr.rf _ _).eq q12), (fun t σ hσ => KCr.y (by omega)), (FEr.ok (n12 173 10 (by decide)))⟩
  refine jx_load c1 hm rfl rfl rfl rfl ?_
  refine jy_ic c1 hm rfl (by decide) ?_
  obtain ⟨z14, k15, lz14, uz14⟩ := hH12.ld (c := 173) (i := 6) (A := 0) (B := 940) (bs_28_3 _ _ (by omega) (by omega))
  have k16 : M12.1 173 7 = z1 := (n12 173 7 (by decide)).trans k2
  refine jv_i c3 hm rfl pj_X12_bad rfl rfl ⟨_, _, _, rfl, sh_173⟩ rfl ((ct_X12_bad_173q X (by omega) M12 hH12 3 ⟨by omega, by omega⟩).le (by decide)) (fun z17 M23 ⟨hH23, hR23, lz17, uz17, p18, p19, p20, p21, p22⟩ => ?_)
  have hF23 := hF12.tr hR23 (by decide +kernel)
  obtain ⟨z24, k25, lz24, uz24⟩ := hH23.ld (c := 173) (i := 11) (A := 0) (B := 940) (bs_28_6 _ _ (by omega) (by omega))
  obtain ⟨z26, k27, lz26, uz26⟩ := hH23.ld (c := 173) (i := 10) (A := (-2147483648)) (B := 2147483647) (bs_28_5 _ _ (by omega) (by omega))
  refine jz_eq c1 hm 50 rfl rfl (fun h28 => ?_) (fun h28 => ?_)
  ·
   refine jy_ic c1 hm rfl (by decide) ?_
   have k29 : M23.1 173 13 = z8 := (hR23 173 13 (by decide +kernel)).trans k12
   exact jx_retz c2 hm rfl rfl ⟨by omega, by omega⟩ ⟨_, rfl, hH23, hF23, by omega, by omega, (by omega), (fun t σ g a ha hσ hb hn => rone_no hσ (Or.inr (FIN.miss hσ ha ⟨by omega, p9, p11, p10⟩ hb hn ((congrArg Int64.toInt kw7).symm.trans (hσ.word (hσ.kind.symm.trans (p4 (by omega)).1))) (by omega))) (by omega) (p19.trans (n12 173 6 (by decide)))), (((LFr.rf _ _).eq q12).tr p22 (by decide +kernel)), (fun t σ hσ => KCr.of ((show M23.1 173 10 = 3 by have y9 := (p4 (by omega)).1; omega).trans (nmK_3 (hσ.isn.mpr (p4 (by omega)))).symm)), (FEr.no (by omega))⟩
  exfalso; omega
 refine jx_load c1 hm rfl rfl rfl rfl ?_
 refine jy_ic c1 hm rfl (by decide) ?_
 obtain ⟨z30, k31, lz30, uz30⟩ := hH0.ld (c := 173) (i := 6) (A := 0) (B := 940) (bs_28_3 _ _ (by omega) (by omega))
 refine jv_i c3 hm rfl pj_X12_bad rfl rfl ⟨_, _, _, rfl, sh_173⟩ rfl ((ct_X12_bad_173q X (by omega) M0 hH0 1 ⟨by omega, by omega⟩).le (by decide)) (fun z32 M38 ⟨hH38, hR38, lz32, uz32, p33, p34, p35, p36, p37⟩ => ?_)
 have hF38 := hF0.tr hR38 (by decide +kernel)
 obtain ⟨z39, k40, lz39, uz39⟩ := hH38.ld (c := 173) (i := 11) (A := 0) (B := 940) (bs_28_6 _ _ (by omega) (by omega))
 obtain ⟨z41, k42, lz41, uz41⟩ := hH38.ld (c := 173) (i := 10) (A := (-2147483648)) (B := 2147483647) (bs_28_5 _ _ (by omega) (by omega))
 obtain ⟨z43, k44, lz43, uz43⟩ := hH38.ld (c := 173) (i := 13) (A := (-2147483648)) (B := 2147483647) (bs_28_7 _ _ (by omega) (by omega))
 exact jx_retz c2 hm rfl rfl ⟨by omega, by omega⟩ ⟨_, rfl, hH38, hF38, by omega, by omega, (by omega), (fun t σ g a ha hσ hb hn => rone_no hσ (Or.inl (fun y => (p5.resolve_left (by omega)).elim (fun y2 => y2 y.1) (fun y2 => absurd y2 (by have y3 := y.2; omega)))) (by omega) p34), ((LFr.rf _ _).tr p37 (by decide +kernel)), (fun t σ hσ => KCr.of ((show M38.1 173 10 = 1 by omega).trans (nmK_1 (fun q => (fun y => (p5.resolve_left (by omega)).elim (fun y2 => y2 y.1) (fun y2 => absurd y2 (by have y3 := y.2; omega))) (hσ.isn.mp q))).symm)), (FEr.no (by omega))⟩
def md_X12_readOwes_173k : List (Nat × (Nat × Nat)) := [(173, (5, 5)), (173, (6, 6)), (173, (7, 7)), (173, (8, 8)), (173, (9, 9)), (173, (10, 10)), (173, (11, 11)), (173, (13, 13)), (176, (3, 100))]
theorem ct_X12_readOwes_173k (X : Int) (hX : 0 ≤ X ∧ X ≤ 100000000) (M0 : JM) (hH0 : HI X M0)  : JOk shp PJ 5 170 [.inr (.inr (.inl 173))] M0 (jRi (fun v M' => HI X M' ∧ Fr md_X12_readOwes_173k M0 M' ∧ 0 ≤ v ∧ v ≤ 1 ∧ (∀ (t : TXT) (σ : PSt), RS M0 t σ → 2 ≤ kK t σ → LRr t (oweS t σ) v M') ∧ (LFr ml_X12_readOwes_173p M0 M') ∧ (∀ (t : TXT) (σ : PSt), RS M0 t σ → 2 ≤ kK t σ → KCr (oweK t σ) v M') ∧ (FEr v M0 M'))) := by
 refine ⟨jr_X12_readOwes, pj_X12_readOwes, fun F c1 c2 c3 => ?_⟩
 have hm := pj_X12_readOwes
 change F 0 [some (.inr (.inr (.inl 173))), none, none] [] M0
 have hF0 : Fr md_X12_readOwes_173k M0 M0 := Fr.rf _ _
 refine jx_load c1 hm rfl rfl rfl rfl ?_
 obtain ⟨z1, k2, lz1, uz1⟩ := hH0.ld (c := 173) (i := 5) (A := 0) (B := 940) (bs_28_3 _ _ (by omega) (by omega))
 refine jv_v c3 hm rfl pj_X12_go rfl rfl ⟨_, _, _, rfl, sh_173⟩ rfl ((ct_X12_go_173p X (by omega) M0 hH0 ).le (by decide)) (fun M5 ⟨hH5, hR5, p3, p4⟩ => ?_)
 have hF5 := hF0.tr hR5 (by decide +kernel)
 refine jx_load c1 hm rfl rfl rfl rfl ?_
 refine jy_ic c1 hm rfl (by decide) ?_
 refine jx_load c1 hm rfl rfl rfl rfl ?_
 refine jx_getr c1 hm rfl sh_173 rfl ?_
 refine jy_ic c1 hm rfl (by decide) ?_
 obtain ⟨z6, k7, lz6, uz6⟩ := hH5.ld (c := 176) (i := 0) (A := 0) (B := 6) (bs_12_0 _ _ (by omega) (by omega))
 refine jx_iald c1 hm rfl sh_176 ⟨by omega, by omega⟩ k7 ?_
 skip
 refine jv_i c3 hm rfl pj_X12_isOne rfl rfl ⟨_, _, _, rfl, sh_173⟩ rfl ((ct_X12_isOne_173k X (by omega) M5 hH5 0 ⟨by omega, by omega⟩ z6 ⟨by omega, by omega⟩).le (by decide)) (fun z8 M14 ⟨hH14, hR14, lz8, uz8, p9, p10, p11, p12, p13⟩ => ?_)
 have hF14 := hF5.tr hR14 (by decide +kernel)
 obtain ⟨z15, k16, lz15, uz15⟩ := hH14.ld (c := 173) (i := 13) (A := (-2147483648)) (B := 2147483647) (bs_28_7 _ _ (by omega) (by omega))
 refine jz_ne c1 hm 20 rfl rfl (fun h17 => ?_) (fun h17 => ?_)
 ·
  refine jx_load c1 hm rfl rfl rfl rfl ?_
  refine jx_geti c1 hm rfl sh_173 rfl k16 ?_
  refine jx_stor c1 hm (L' := [some (.inr (.inr (.inl 173))), some (.inl z15), none]) rfl rfl rfl rfl rfl ?_
  refine jx_load c1 hm rfl rfl rfl rfl ?_
  obtain ⟨z18, k19, lz18, uz18⟩ := hH14.ld (c := 173) (i := 5) (A := 0) (B := 940) (bs_28_3 _ _ (by omega) (by omega))
  refine jv_v c3 hm rfl pj_X12_go rfl rfl ⟨_, _, _, rfl, sh_173⟩ rfl ((ct_X12_go_173p X (by omega) M14 hH14 ).le (by decide)) (fun M22 ⟨hH22, hR22, p20, p21⟩ => ?_)
  have hF22 := hF14.tr hR22 (by decide +kernel)
  refine jx_load c1 hm rfl rfl rfl rfl ?_
  refine jy_ic c1 hm rfl (by decide) ?_
  refine jx_load c1 hm rfl rfl rfl rfl ?_
  refine jx_getr c1 hm rfl sh_173 rfl ?_
  refine jy_ic c1 hm rfl (by decide) ?_
  have k23 : M22.1 176 0 = z6 := (hR22 176 0 (by decide +kernel)).trans ((hR14 176 0 (by decide +kernel)).trans k7)
  refine jx_iald c1 hm rfl sh_176 ⟨by omega, by omega⟩ k23 ?_
  skip
  refine jv_i c3 hm rfl pj_X12_isOne rfl rfl ⟨_, _, _, rfl, sh_173⟩ rfl ((ct_X12_isOne_173k X (by omega) M22 hH22 0 ⟨by omega, by omega⟩ z6 ⟨by omega, by omega⟩).le (by decide)) (fun z24 M30 ⟨hH30, hR30, lz24, uz24, p25, p26, p27, p28, p29⟩ => ?_)
  have hF30 := hF22.tr hR30 (by decide +kernel)
  obtain ⟨z31, k32, lz31, uz31⟩ := hH30.ld (c := 173) (i := 13) (A := (-2147483648)) (B := 2147483647) (bs_28_7 _ _ (by omega) (by omega))
  refine jz_ne c1 hm 45 rfl rfl (fun h33 => ?_) (fun h33 => ?_)
  ·
   refine jy_bp c1 hm rfl (by decide) ?_
   refine jy_bp c1 hm rfl (by decide) ?_
   refine jx_load c1 hm rfl rfl rfl rfl ?_
   refine jy_mul c1 hm (6 * z15) rfl (by omega) ?_
   refine jy_add c1 hm (6 * z15 + 65) rfl (by omega) ?_
   refine jx_load c1 hm rfl rfl rfl rfl ?_
   refine jx_geti c1 hm rfl sh_173 rfl k32 ?_
   refine jy_add c1 hm (6 * z15 + z31 + 65) rfl (by omega) ?_
   skip
   refine jx_stor c1 hm (L' := [some (.inr (.inr (.inl 173))), some (.inl z15), some (.inl (6 * z15 + z31 + 65))]) rfl rfl rfl rfl rfl ?_
   refine jx_load c1 hm rfl rfl rfl rfl ?_
   refine jx_load c1 hm rfl rfl rfl rfl ?_
   refine jx_geti c1 hm rfl sh_173 rfl k32 ?_
   refine jc_eq c1 hm 75 rfl rfl (fun h34 => ?_) (fun h34 => ?_)
   ·
    refine jx_load c1 hm rfl rfl rfl rfl ?_
    refine jy_ic c1 hm rfl (by decide) ?_
    obtain ⟨z35, k36, lz35, uz35⟩ := hH30.ld (c := 173) (i := 6) (A := 0) (B := 940) (bs_28_3 _ _ (by omega) (by omega))
    obtain ⟨z37, k38, lz37, uz37⟩ := hH30.ld (c := 173) (i := 7) (A := 0) (B := 4) (bs_28_4 _ _ (by omega) (by omega))
    refine jv_i c3 hm rfl pj_X12_bad rfl rfl ⟨_, _, _, rfl, sh_173⟩ rfl ((ct_X12_bad_173q X (by omega) M30 hH30 3 ⟨by omega, by omega⟩).le (by decide)) (fun z39 M45 ⟨hH45, hR45, lz39, uz39, p40, p41, p42, p43, p44⟩ => ?_)
    have hF45 := hF30.tr hR45 (by decide +kernel)
    obtain ⟨z46, k47, lz46, uz46⟩ := hH45.ld (c := 173) (i := 11) (A := 0) (B := 940) (bs_28_6 _ _ (by omega) (by omega))
    obtain ⟨z48, k49, lz48, uz48⟩ := hH45.ld (c := 173) (i := 10) (A := (-2147483648)) (B := 2147483647) (bs_28_5 _ _ (by omega) (by omega))
    exact jx_retz c2 hm rfl rfl ⟨by omega, by omega⟩ ⟨_, rfl, hH45, hF45, by omega, by omega, (fun t σ hσ hk => LRr.eq (NMR.ok (p10 t _ _ 0 (by decide) (RS.next hσ hk p3 hR5 p4 (by decide +kernel)) (by decide) k7.symm) (by omega)).2.1 (LRr.eq (NMR.ok (p26 t _ _ 0 (by decide) (RS.next (NMR.ok (p10 t _ (fun _ y => okS y) 0 (by decide) (RS.next hσ hk p3 hR5 p4 (by decide +kernel)) (by decide) k7.symm) (by omega)).1 (NMR.ok (p10 t _ (fun _ y => okS y) 0 (by decide) (RS.next hσ hk p3 hR5 p4 (by decide +kernel)) (by decide) k7.symm) (by omega)).2.2.2.2 p20 hR22 p21 (by decide +kernel)) (by decide) k23.symm) (by omega)).2.1 (LRr.eq (if_pos (by have b1 := (NMR.ok (p10 t _ (fun _ y => okS y) 0 (by decide) (RS.next hσ hk p3 hR5 p4 (by decide +kernel)) (by decide) k7.symm) (by omega)).2.2; have b2 := (NMR.ok (p26 t _ (fun _ y => okS y) 0 (by decide) (RS.next (NMR.ok (p10 t _ (fun _ y => okS y) 0 (by decide) (RS.next hσ hk p3 hR5 p4 (by decide +kernel)) (by decide) k7.symm) (by omega)).1 (NMR.ok (p10 t _ (fun _ y => okS y) 0 (by decide) (RS.next hσ hk p3 hR5 p4 (by decide +kernel)) (by decide) k7.symm) (by omega)).2.2.2.2 p20 hR22 p21 (by decide +kernel)) (by decide) k23.symm) (by omega)).2.2; by_cases c9 : M14.1 173 13 = M30.1 173 13; exact Or.inl c9; have y9 := rfl_o (NMR.ok (p26 t _ (fun _ y => okS y) 0 (by decide) (RS.next (NMR.ok (p10 t _ (fun _ y => okS y) 0 (by decide) (RS.next hσ hk p3 hR5 p4 (by decide +kernel)) (by decide) k7.symm) (by omega)).1 (NMR.ok (p10 t _ (fun _ y => okS y) 0 (by decide) (RS.next hσ hk p3 hR5 p4 (by decide +kernel)) (by decide) k7.symm) (by omega)).2.2.2.2 p20 hR22 p21 (by decide +kernel)) (by decide) k23.symm) (by omega)).1 (x := 6 * M14.1 173 13 + M30.1 173 13) (y := (6 * z15 + z31 + 65)) (z := 36 + 6 * M14.1 173 13 + M30.1 173 13) ⟨by omega, by omega⟩ (by omega) (by omega); exact Or.inr (fun e => absurd (y9.2.mpr e) (by omega)))) (Or.inr ⟨tF_nn (NMR.ok (p26 t _ (fun _ y => okS y) 0 (by decide) (RS.next (NMR.ok (p10 t _ (fun _ y => okS y) 0 (by decide) (RS.next hσ hk p3 hR5 p4 (by decide +kernel)) (by decide) k7.symm) (by omega)).1 (NMR.ok (p10 t _ (fun _ y => okS y) 0 (by decide) (RS.next hσ hk p3 hR5 p4 (by decide +kernel)) (by decide) k7.symm) (by omega)).2.2.2.2 p20 hR22 p21 (by decide +kernel)) (by decide) k23.symm) (by omega)).1.2.2, by omega, (show _ = kF t _ from (p41).trans (NMR.ok (p26 t _ (fun _ y => okS y) 0 (by decide) (RS.next (NMR.ok (p10 t _ (fun _ y => okS y) 0 (by decide) (RS.next hσ hk p3 hR5 p4 (by decide +kernel)) (by decide) k7.symm) (by omega)).1 (NMR.ok (p10 t _ (fun _ y => okS y) 0 (by decide) (RS.next hσ hk p3 hR5 p4 (by decide +kernel)) (by decide) k7.symm) (by omega)).2.2.2.2 p20 hR22 p21 (by decide +kernel)) (by decide) k23.symm) (by omega)).1.start)⟩)))), ((((((LFr.rf _ _).tr p4 (by decide +kernel)).tr p11 (by decide +kernel)).tr p21 (by decide +kernel)).tr p27 (by decide +kernel)).tr p44 (by decide +kernel)), (fun t σ hσ hk => KCr.eq (NMR.ko (fun g => (p10 t _ g 0 (by decide) (RS.next hσ hk p3 hR5 p4 (by decide +kernel)) (by decide) k7.symm)) (by omega) _) (KCr.eq (NMR.ko (fun g => (p26 t _ g 0 (by decide) (RS.next (NMR.ok (p10 t _ (fun _ y => okS y) 0 (by decide) (RS.next hσ hk p3 hR5 p4 (by decide +kernel)) (by decide) k7.symm) (by omega)).1 (NMR.ok (p10 t _ (fun _ y => okS y) 0 (by decide) (RS.next hσ hk p3 hR5 p4 (by decide +kernel)) (by decide) k7.symm) (by omega)).2.2.2.2 p20 hR22 p21 (by decide +kernel)) (by decide) k23.symm)) (by omega) _) (KCr.eq (if_pos (by have b1 := (NMR.ok (p10 t _ (fun _ y => okS y) 0 (by decide) (RS.next hσ hk p3 hR5 p4 (by decide +kernel)) (by decide) k7.symm) (by omega)).2.2; have b2 := (NMR.ok (p26 t _ (fun _ y => okS y) 0 (by decide) (RS.next (NMR.ok (p10 t _ (fun _ y => okS y) 0 (by decide) (RS.next hσ hk p3 hR5 p4 (by decide +kernel)) (by decide) k7.symm) (by omega)).1 (NMR.ok (p10 t _ (fun _ y => okS y) 0 (by decide) (RS.next hσ hk p3 hR5 p4 (by decide +kernel)) (by decide) k7.symm) (by omega)).2.2.2.2 p20 hR22 p21 (by decide +kernel)) (by decide) k23.symm) (by omega)).2.2; by_cases c9 : M14.1 173 13 = M30.1 173 13; exact Or.inl c9; have y9 := rfl_o (NMR.ok (p26 t _ (fun _ y => okS y) 0 (by decide) (RS.next (NMR.ok (p10 t _ (fun _ y => okS y) 0 (by decide) (RS.next hσ hk p3 hR5 p4 (by decide +kernel)) (by decide) k7.symm) (by omega)).1 (NMR.ok (p10 t _ (fun _ y => okS y) 0 (by decide) (RS.next hσ hk p3 hR5 p4 (by decide +kernel)) (by decide) k7.symm) (by omega)).2.2.2.2 p20 hR22 p21 (by decide +kernel)) (by decide) k23.symm) (by omega)).1 (x := 6 * M14.1 173 13 + M30.1 173 13) (y := (6 * z15 + z31 + 65)) (z := 36 + 6 * M14.1 173 13 + M30.1 173 13) ⟨by omega, by omega⟩ (by omega) (by omega); exact Or.inr (fun e => absurd (y9.2.mpr e) (by omega)))) (KCr.of (by have y9 := (NMR.ok (p26 t _ (fun _ y => okS y) 0 (by decide) (RS.next (NMR.ok (p10 t _ (fun _ y => okS y) 0 (by decide) (RS.next hσ hk p3 hR5 p4 (by decide +kernel)) (by decide) k7.symm) (by omega)).1 (NMR.ok (p10 t _ (fun _ y => okS y) 0 (by decide) (RS.next hσ hk p3 hR5 p4 (by decide +kernel)) (by decide) k7.symm) (by omega)).2.2.2.2 p20 hR22 p21 (by decide +kernel)) (by decide) k23.symm) (by omega)).1.kind; have y8 := (NMR.ok (p26 t _ (fun _ y => okS y) 0 (by decide) (RS.next (NMR.ok (p10 t _ (fun _ y => okS y) 0 (by decide) (RS.next hσ hk p3 hR5 p4 (by decide +kernel)) (by decide) k7.symm) (by omega)).1 (NMR.ok (p10 t _ (fun _ y => okS y) 0 (by decide) (RS.next hσ hk p3 hR5 p4 (by decide +kernel)) (by decide) k7.symm) (by omega)).2.2.2.2 p20 hR22 p21 (by decide +kernel)) (by decide) k23.symm) (by omega)).2.2.2.2; omega))))), (FEr.no (by omega))⟩
   refine jx_load c1 hm rfl rfl rfl rfl ?_
   refine jx_getr c1 hm rfl sh_173 rfl ?_
   refine jx_load c1 hm rfl rfl rfl rfl ?_
   obtain ⟨z50, k51, lz50, uz50⟩ := hH30.ld (c := 176) (i := ((6 * z15 + z31 + 65)).toNat) (A := (-2147483648)) (B := 2147483647) (bs_12_7 _ _ (by omega))
   refine jx_iald c1 hm rfl sh_176 ⟨by omega, by omega⟩ k51 ?_
   refine jz_le c1 hm 81 rfl rfl (fun h52 => ?_) (fun h52 => ?_)
   ·
    refine jx_load c1 hm rfl rfl rfl rfl ?_
    obtain ⟨z53, k54, lz53, uz53⟩ := hH30.ld (c := 173) (i := 5) (A := 0) (B := 940) (bs_28_3 _ _ (by omega) (by omega))
    refine jv_v c3 hm rfl pj_X12_go rfl rfl ⟨_, _, _, rfl, sh_173⟩ rfl ((ct_X12_go_173p X (by omega) M30 hH30 ).le (by decide)) (fun M57 ⟨hH57, hR57, p55, p56⟩ => ?_)
    have hF57 := hF30.tr hR57 (by decide +kernel)
    refine jx_load c1 hm rfl rfl rfl rfl ?_
    refine jx_load c1 hm rfl rfl rfl rfl ?_
    refine jx_load c1 hm rfl rfl rfl rfl ?_
    refine jy_ic c1 hm rfl (by decide) ?_
    refine jy_bp c1 hm rfl (by decide) ?_
    refine jv_i c3 hm rfl pj_X12_readNumber rfl rfl ⟨_, _, _, rfl, sh_173⟩ rfl ((ct_X12_readNumber_173k X (by omega) M57 hH57 1 ⟨by omega, by omega⟩ 99 ⟨by omega, by omega⟩).le (by decide)) (fun z58 M64 ⟨hH64, hR64, lz58, uz58, p59, p60, p61, p62, p63⟩ => ?_)
    have hF64 := hF57.tr hR64 (by decide +kernel)
    obtain ⟨z65, k66, lz65, uz65⟩ := hH64.ld (c := 173) (i := 13) (A := (-2147483648)) (B := 2147483647) (bs_28_7 _ _ (by omega) (by omega))
    refine jv_i c3 hm rfl pj_X12_put rfl rfl ⟨_, _, _, rfl, sh_173⟩ rfl ((ct_X12_put_173p X (by omega) M64 hH64 (6 * z15 + z31 + 65) ⟨by omega, by omega⟩ z58 ⟨by omega, by omega⟩ (by rw [show bnd X 176 ((6 * z15 + z31 + 65) : Int).toNat = ((-2147483648), 2147483647) from (bs_12_7 _ _ (by omega))]; dsimp only; omega)).le (by decide)) (fun z67 M72 ⟨hH72, hR72, lz67, uz67, p68, p69, p70, p71⟩ => ?_)
    have hF72 := hF64.tr hR72 (by decide +kernel)
    exact jx_retz c2 hm rfl rfl ⟨by omega, by omega⟩ ⟨_, rfl, hH72, hF72, by omega, by omega, (fun t σ hσ hk => LRr.eq (NMR.ok (p10 t _ _ 0 (by decide) (RS.next hσ hk p3 hR5 p4 (by decide +kernel)) (by decide) k7.symm) (by omega)).2.1 (LRr.eq (NMR.ok (p26 t _ _ 0 (by decide) (RS.next (NMR.ok (p10 t _ (fun _ y => okS y) 0 (by decide) (RS.next hσ hk p3 hR5 p4 (by decide +kernel)) (by decide) k7.symm) (by omega)).1 (NMR.ok (p10 t _ (fun _ y => okS y) 0 (by decide) (RS.next hσ hk p3 hR5 p4 (by decide +kernel)) (by decide) k7.symm) (by omega)).2.2.2.2 p20 hR22 p21 (by decide +kernel)) (by decide) k23.symm) (by omega)).2.1 (LRr.eq (if_neg (by have b1 := (NMR.ok (p10 t _ (fun _ y => okS y) 0 (by decide) (RS.next hσ hk p3 hR5 p4 (by decide +kernel)) (by decide) k7.symm) (by omega)).2.2; have b2 := (NMR.ok (p26 t _ (fun _ y => okS y) 0 (by decide) (RS.next (NMR.ok (p10 t _ (fun _ y => okS y) 0 (by decide) (RS.next hσ hk p3 hR5 p4 (by decide +kernel)) (by decide) k7.symm) (by omega)).1 (NMR.ok (p10 t _ (fun _ y => okS y) 0 (by decide) (RS.next hσ hk p3 hR5 p4 (by decide +kernel)) (by decide) k7.symm) (by omega)).2.2.2.2 p20 hR22 p21 (by decide +kernel)) (by decide) k23.symm) (by omega)).2.2; have y9 := rfl_o (NMR.ok (p26 t _ (fun _ y => okS y) 0 (by decide) (RS.next (NMR.ok (p10 t _ (fun _ y => okS y) 0 (by decide) (RS.next hσ hk p3 hR5 p4 (by decide +kernel)) (by decide) k7.symm) (by omega)).1 (NMR.ok (p10 t _ (fun _ y => okS y) 0 (by decide) (RS.next hσ hk p3 hR5 p4 (by decide +kernel)) (by decide) k7.symm) (by omega)).2.2.2.2 p20 hR22 p21 (by decide +kernel)) (by decide) k23.symm) (by omega)).1 (x := 6 * M14.1 173 13 + M30.1 173 13) (y := (6 * z15 + z31 + 65)) (z := 36 + 6 * M14.1 173 13 + M30.1 173 13) ⟨by omega, by omega⟩ (by omega) (by omega); intro e; rcases e with e | e; omega; exact e (y9.2.mp (by omega)))) (rset_fin (p60 t _ (RS.next (NMR.ok (p26 t _ (fun _ y => okS y) 0 (by decide) (RS.next (NMR.ok (p10 t _ (fun _ y => okS y) 0 (by decide) (RS.next hσ hk p3 hR5 p4 (by decide +kernel)) (by decide) k7.symm) (by omega)).1 (NMR.ok (p10 t _ (fun _ y => okS y) 0 (by decide) (RS.next hσ hk p3 hR5 p4 (by decide +kernel)) (by decide) k7.symm) (by omega)).2.2.2.2 p20 hR22 p21 (by decide +kernel)) (by decide) k23.symm) (by omega)).1 (NMR.ok (p26 t _ (fun _ y => okS y) 0 (by decide) (RS.next (NMR.ok (p10 t _ (fun _ y => okS y) 0 (by decide) (RS.next hσ hk p3 hR5 p4 (by decide +kernel)) (by decide) k7.symm) (by omega)).1 (NMR.ok (p10 t _ (fun _ y => okS y) 0 (by decide) (RS.next hσ hk p3 hR5 p4 (by decide +kernel)) (by decide) k7.symm) (by omega)).2.2.2.2 p20 hR22 p21 (by decide +kernel)) (by decide) k23.symm) (by omega)).2.2.2.2 p55 hR57 p56 (by decide +kernel))) p68 p69 (fun c i => p71 c i rfl) (fun y => by have b1 := (NMR.ok (p10 t _ (fun _ y => okS y) 0 (by decide) (RS.next hσ hk p3 hR5 p4 (by decide +kernel)) (by decide) k7.symm) (by omega)).2.2; have b2 := (NMR.ok (p26 t _ (fun _ y => okS y) 0 (by decide) (RS.next (NMR.ok (p10 t _ (fun _ y => okS y) 0 (by decide) (RS.next hσ hk p3 hR5 p4 (by decide +kernel)) (by decide) k7.symm) (by omega)).1 (NMR.ok (p10 t _ (fun _ y => okS y) 0 (by decide) (RS.next hσ hk p3 hR5 p4 (by decide +kernel)) (by decide) k7.symm) (by omega)).2.2.2.2 p20 hR22 p21 (by decide +kernel)) (by decide) k23.symm) (by omega)).2.2; exact Or.inr ⟨by omega, by omega, by omega, by omega⟩))))), ((((((((LFr.rf _ _).tr p4 (by decide +kernel)).tr p11 (by decide +kernel)).tr p21 (by decide +kernel)).tr p27 (by decide +kernel)).tr p56 (by decide +kernel)).tr p61 (by decide +kernel)).tr p71 (by decide +kernel)), (fun t σ hσ hk => KCr.eq (NMR.ko (fun g => (p10 t _ g 0 (by decide) (RS.next hσ hk p3 hR5 p4 (by decide +kernel)) (by decide) k7.symm)) (by omega) _) (KCr.eq (NMR.ko (fun g => (p26 t _ g 0 (by decide) (RS.next (NMR.ok (p10 t _ (fun _ y => okS y) 0 (by decide) (RS.next hσ hk p3 hR5 p4 (by decide +kernel)) (by decide) k7.symm) (by omega)).1 (NMR.ok (p10 t _ (fun _ y => okS y) 0 (by decide) (RS.next hσ hk p3 hR5 p4 (by decide +kernel)) (by decide) k7.symm) (by omega)).2.2.2.2 p20 hR22 p21 (by decide +kernel)) (by decide) k23.symm)) (by omega) _) (KCr.eq (if_neg (by have b1 := (NMR.ok (p10 t _ (fun _ y => okS y) 0 (by decide) (RS.next hσ hk p3 hR5 p4 (by decide +kernel)) (by decide) k7.symm) (by omega)).2.2; have b2 := (NMR.ok (p26 t _ (fun _ y => okS y) 0 (by decide) (RS.next (NMR.ok (p10 t _ (fun _ y => okS y) 0 (by decide) (RS.next hσ hk p3 hR5 p4 (by decide +kernel)) (by decide) k7.symm) (by omega)).1 (NMR.ok (p10 t _ (fun _ y => okS y) 0 (by decide) (RS.next hσ hk p3 hR5 p4 (by decide +kernel)) (by decide) k7.symm) (by omega)).2.2.2.2 p20 hR22 p21 (by decide +kernel)) (by decide) k23.symm) (by omega)).2.2; have y9 := rfl_o (NMR.ok (p26 t _ (fun _ y => okS y) 0 (by decide) (RS.next (NMR.ok (p10 t _ (fun _ y => okS y) 0 (by decide) (RS.next hσ hk p3 hR5 p4 (by decide +kernel)) (by decide) k7.symm) (by omega)).1 (NMR.ok (p10 t _ (fun _ y => okS y) 0 (by decide) (RS.next hσ hk p3 hR5 p4 (by decide +kernel)) (by decide) k7.symm) (by omega)).2.2.2.2 p20 hR22 p21 (by decide +kernel)) (by decide) k23.symm) (by omega)).1 (x := 6 * M14.1 173 13 + M30.1 173 13) (y := (6 * z15 + z31 + 65)) (z := 36 + 6 * M14.1 173 13 + M30.1 173 13) ⟨by omega, by omega⟩ (by omega) (by omega); intro e; rcases e with e | e; omega; exact e (y9.2.mp (by omega)))) (KCr.cg (p62 t _ (RS.next (NMR.ok (p26 t _ (fun _ y => okS y) 0 (by decide) (RS.next (NMR.ok (p10 t _ (fun _ y => okS y) 0 (by decide) (RS.next hσ hk p3 hR5 p4 (by decide +kernel)) (by decide) k7.symm) (by omega)).1 (NMR.ok (p10 t _ (fun _ y => okS y) 0 (by decide) (RS.next hσ hk p3 hR5 p4 (by decide +kernel)) (by decide) k7.symm) (by omega)).2.2.2.2 p20 hR22 p21 (by decide +kernel)) (by decide) k23.symm) (by omega)).1 (NMR.ok (p26 t _ (fun _ y => okS y) 0 (by decide) (RS.next (NMR.ok (p10 t _ (fun _ y => okS y) 0 (by decide) (RS.next hσ hk p3 hR5 p4 (by decide +kernel)) (by decide) k7.symm) (by omega)).1 (NMR.ok (p10 t _ (fun _ y => okS y) 0 (by decide) (RS.next hσ hk p3 hR5 p4 (by decide +kernel)) (by decide) k7.symm) (by omega)).2.2.2.2 p20 hR22 p21 (by decide +kernel)) (by decide) k23.symm) (by omega)).2.2.2.2 p55 hR57 p56 (by decide +kernel))) p68 (hR72 173 10 rfl))))), (FEr.pu p63 (((((hR57 173 10 rfl).trans (p29.e (by omega))).trans (hR22 173 10 rfl)).trans (p13.e (by omega))).trans (hR5 173 10 rfl)) (hR72 173 10 rfl) p68)⟩
   refine jx_load c1 hm rfl rfl rfl rfl ?_
   refine jy_ic c1 hm rfl (by decide) ?_
   obtain ⟨z73, k74, lz73, uz73⟩ := hH30.ld (c := 173) (i := 6) (A := 0) (B := 940) (bs_28_3 _ _ (by omega) (by omega))
   obtain ⟨z75, k76, lz75, uz75⟩ := hH30.ld (c := 173) (i := 7) (A := 0) (B := 4) (bs_28_4 _ _ (by omega) (by omega))
   refine jv_i c3 hm rfl pj_X12_bad rfl rfl ⟨_, _, _, rfl, sh_173⟩ rfl ((ct_X12_bad_173q X (by omega) M30 hH30 3 ⟨by omega, by omega⟩).le (by decide)) (fun z77 M83 ⟨hH83, hR83, lz77, uz77, p78, p79, p80, p81, p82⟩ => ?_)
   have hF83 := hF30.tr hR83 (by decide +kernel)
   obtain ⟨z84, k85, lz84, uz84⟩ := hH83.ld (c := 173) (i := 11) (A := 0) (B := 940) (bs_28_6 _ _ (by omega) (by omega))
   obtain ⟨z86, k87, lz86, uz86⟩ := hH83.ld (c := 173) (i := 10) (A := (-2147483648)) (B := 2147483647) (bs_28_5 _ _ (by omega) (by omega))
   exact jx_retz c2 hm rfl rfl ⟨by omega, by omega⟩ ⟨_, rfl, hH83, hF83, by omega, by omega, (fun t σ hσ hk => LRr.eq (NMR.ok (p10 t _ _ 0 (by decide) (RS.next hσ hk p3 hR5 p4 (by decide +kernel)) (by decide) k7.symm) (by omega)).2.1 (LRr.eq (NMR.ok (p26 t _ _ 0 (by decide) (RS.next (NMR.ok (p10 t _ (fun _ y => okS y) 0 (by decide) (RS.next hσ hk p3 hR5 p4 (by decide +kernel)) (by decide) k7.symm) (by omega)).1 (NMR.ok (p10 t _ (fun _ y => okS y) 0 (by decide) (RS.next hσ hk p3 hR5 p4 (by decide +kernel)) (by decide) k7.symm) (by omega)).2.2.2.2 p20 hR22 p21 (by decide +kernel)) (by decide) k23.symm) (by omega)).2.1 (LRr.eq (if_pos (by have b1 := (NMR.ok (p10 t _ (fun _ y => okS y) 0 (by decide) (RS.next hσ hk p3 hR5 p4 (by decide +kernel)) (by decide) k7.symm) (by omega)).2.2; have b2 := (NMR.ok (p26 t _ (fun _ y => okS y) 0 (by decide) (RS.next (NMR.ok (p10 t _ (fun _ y => okS y) 0 (by decide) (RS.next hσ hk p3 hR5 p4 (by decide +kernel)) (by decide) k7.symm) (by omega)).1 (NMR.ok (p10 t _ (fun _ y => okS y) 0 (by decide) (RS.next hσ hk p3 hR5 p4 (by decide +kernel)) (by decide) k7.symm) (by omega)).2.2.2.2 p20 hR22 p21 (by decide +kernel)) (by decide) k23.symm) (by omega)).2.2; by_cases c9 : M14.1 173 13 = M30.1 173 13; exact Or.inl c9; have y9 := rfl_o (NMR.ok (p26 t _ (fun _ y => okS y) 0 (by decide) (RS.next (NMR.ok (p10 t _ (fun _ y => okS y) 0 (by decide) (RS.next hσ hk p3 hR5 p4 (by decide +kernel)) (by decide) k7.symm) (by omega)).1 (NMR.ok (p10 t _ (fun _ y => okS y) 0 (by decide) (RS.next hσ hk p3 hR5 p4 (by decide +kernel)) (by decide) k7.symm) (by omega)).2.2.2.2 p20 hR22 p21 (by decide +kernel)) (by decide) k23.symm) (by omega)).1 (x := 6 * M14.1 173 13 + M30.1 173 13) (y := (6 * z15 + z31 + 65)) (z := 36 + 6 * M14.1 173 13 + M30.1 173 13) ⟨by omega, by omega⟩ (by omega) (by omega); exact Or.inr (fun e => absurd (y9.2.mpr e) (by omega)))) (Or.inr ⟨tF_nn (NMR.ok (p26 t _ (fun _ y => okS y) 0 (by decide) (RS.next (NMR.ok (p10 t _ (fun _ y => okS y) 0 (by decide) (RS.next hσ hk p3 hR5 p4 (by decide +kernel)) (by decide) k7.symm) (by omega)).1 (NMR.ok (p10 t _ (fun _ y => okS y) 0 (by decide) (RS.next hσ hk p3 hR5 p4 (by decide +kernel)) (by decide) k7.symm) (by omega)).2.2.2.2 p20 hR22 p21 (by decide +kernel)) (by decide) k23.symm) (by omega)).1.2.2, by omega, (show _ = kF t _ from (p79).trans (NMR.ok (p26 t _ (fun _ y => okS y) 0 (by decide) (RS.next (NMR.ok (p10 t _ (fun _ y => okS y) 0 (by decide) (RS.next hσ hk p3 hR5 p4 (by decide +kernel)) (by decide) k7.symm) (by omega)).1 (NMR.ok (p10 t _ (fun _ y => okS y) 0 (by decide) (RS.next hσ hk p3 hR5 p4 (by decide +kernel)) (by decide) k7.symm) (by omega)).2.2.2.2 p20 hR22 p21 (by decide +kernel)) (by decide) k23.symm) (by omega)).1.start)⟩)))), ((((((LFr.rf _ _).tr p4 (by decide +kernel)).tr p11 (by decide +kernel)).tr p21 (by decide +kernel)).tr p27 (by decide +kernel)).tr p82 (by decide +kernel)), (fun t σ hσ hk => KCr.eq (NMR.ko (fun g => (p10 t _ g 0 (by decide) (RS.next hσ hk p3 hR5 p4 (by decide +kernel)) (by decide) k7.symm)) (by omega) _) (KCr.eq (NMR.ko (fun g => (p26 t _ g 0 (by decide) (RS.next (NMR.ok (p10 t _ (fun _ y => okS y) 0 (by decide) (RS.next hσ hk p3 hR5 p4 (by decide +kernel)) (by decide) k7.symm) (by omega)).1 (NMR.ok (p10 t _ (fun _ y => okS y) 0 (by decide) (RS.next hσ hk p3 hR5 p4 (by decide +kernel)) (by decide) k7.symm) (by omega)).2.2.2.2 p20 hR22 p21 (by decide +kernel)) (by decide) k23.symm)) (by omega) _) (KCr.eq (if_pos (by have b1 := (NMR.ok (p10 t _ (fun _ y => okS y) 0 (by decide) (RS.next hσ hk p3 hR5 p4 (by decide +kernel)) (by decide) k7.symm) (by omega)).2.2; have b2 := (NMR.ok (p26 t _ (fun _ y => okS y) 0 (by decide) (RS.next (NMR.ok (p10 t _ (fun _ y => okS y) 0 (by decide) (RS.next hσ hk p3 hR5 p4 (by decide +kernel)) (by decide) k7.symm) (by omega)).1 (NMR.ok (p10 t _ (fun _ y => okS y) 0 (by decide) (RS.next hσ hk p3 hR5 p4 (by decide +kernel)) (by decide) k7.symm) (by omega)).2.2.2.2 p20 hR22 p21 (by decide +kernel)) (by decide) k23.symm) (by omega)).2.2; by_cases c9 : M14.1 173 13 = M30.1 173 13; exact Or.inl c9; have y9 := rfl_o (NMR.ok (p26 t _ (fun _ y => okS y) 0 (by decide) (RS.next (NMR.ok (p10 t _ (fun _ y => okS y) 0 (by decide) (RS.next hσ hk p3 hR5 p4 (by decide +kernel)) (by decide) k7.symm) (by omega)).1 (NMR.ok (p10 t _ (fun _ y => okS y) 0 (by decide) (RS.next hσ hk p3 hR5 p4 (by decide +kernel)) (by decide) k7.symm) (by omega)).2.2.2.2 p20 hR22 p21 (by decide +kernel)) (by decide) k23.symm) (by omega)).1 (x := 6 * M14.1 173 13 + M30.1 173 13) (y := (6 * z15 + z31 + 65)) (z := 36 + 6 * M14.1 173 13 + M30.1 173 13) ⟨by omega, by omega⟩ (by omega) (by omega); exact Or.inr (fun e => absurd (y9.2.mpr e) (by omega)))) (KCr.of (by have y9 := (NMR.ok (p26 t _ (fun _ y => okS y) 0 (by decide) (RS.next (NMR.ok (p10 t _ (fun _ y => okS y) 0 (by decide) (RS.next hσ hk p3 hR5 p4 (by decide +kernel)) (by decide) k7.symm) (by omega)).1 (NMR.ok (p10 t _ (fun _ y => okS y) 0 (by decide) (RS.next hσ hk p3 hR5 p4 (by decide +kernel)) (by decide) k7.symm) (by omega)).2.2.2.2 p20 hR22 p21 (by decide +kernel)) (by decide) k23.symm) (by omega)).1.kind; have y8 := (NMR.ok (p26 t _ (fun _ y => okS y) 0 (by decide) (RS.next (NMR.ok (p10 t _ (fun _ y => okS y) 0 (by decide) (RS.next hσ hk p3 hR5 p4 (by decide +kernel)) (by decide) k7.symm) (by omega)).1 (NMR.ok (p10 t _ (fun _ y => okS y) 0 (by decide) (RS.next hσ hk p3 hR5 p4 (by decide +kernel)) (by decide) k7.symm) (by omega)).2.2.2.2 p20 hR22 p21 (by decide +kernel)) (by decide) k23.symm) (by omega)).2.2.2.2; omega))))), (FEr.no (by omega))⟩
  refine jy_ic c1 hm rfl (by decide) ?_
  exact jx_retz c2 hm rfl rfl ⟨by omega, by omega⟩ ⟨_, rfl, hH30, hF30, by omega, by omega, (fun t σ hσ hk => LRr.eq (NMR.ok (p10 t _ _ 0 (by decide) (RS.next hσ hk p3 hR5 p4 (by decide +kernel)) (by decide) k7.symm) (by omega)).2.1 (NMR.bad (p26 t _ _ 0 (by decide) (RS.next (NMR.ok (p10 t _ (fun _ y => okS y) 0 (by decide) (RS.next hσ hk p3 hR5 p4 (by decide +kernel)) (by decide) k7.symm) (by omega)).1 (NMR.ok (p10 t _ (fun _ y => okS y) 0 (by decide) (RS.next hσ hk p3 hR5 p4 (by decide +kernel)) (by decide) k7.symm) (by omega)).2.2.2.2 p20 hR22 p21 (by decide +kernel)) (by decide) k23.symm) (by omega))), (((((LFr.rf _ _).tr p4 (by decide +kernel)).tr p11 (by decide +kernel)).tr p21 (by decide +kernel)).tr p27 (by decide +kernel)), (fun t σ hσ hk => KCr.eq (NMR.ko (fun g => (p10 t _ g 0 (by decide) (RS.next hσ hk p3 hR5 p4 (by decide +kernel)) (by decide) k7.symm)) (by omega) _) (KCr.eq (NMR.kb (p26 t _ (fun _ y => okS y) 0 (by decide) (RS.next (NMR.ok (p10 t _ (fun _ y => okS y) 0 (by decide) (RS.next hσ hk p3 hR5 p4 (by decide +kernel)) (by decide) k7.symm) (by omega)).1 (NMR.ok (p10 t _ (fun _ y => okS y) 0 (by decide) (RS.next hσ hk p3 hR5 p4 (by decide +kernel)) (by decide) k7.symm) (by omega)).2.2.2.2 p20 hR22 p21 (by decide +kernel)) (by decide) k23.symm) (by omega) _) ((p28 t _ (RS.next (NMR.ok (p10 t _ (fun _ y => okS y) 0 (by decide) (RS.next hσ hk p3 hR5 p4 (by decide +kernel)) (by decide) k7.symm) (by omega)).1 (NMR.ok (p10 t _ (fun _ y => okS y) 0 (by decide) (RS.next hσ hk p3 hR5 p4 (by decide +kernel)) (by decide) k7.symm) (by omega)).2.2.2.2 p20 hR22 p21 (by decide +kernel))).vc (by omega)))), (FEr.no (by omega))⟩
 refine jy_ic c1 hm rfl (by decide) ?_
 exact jx_retz c2 hm rfl rfl ⟨by omega, by omega⟩ ⟨_, rfl, hH14, hF14, by omega, by omega, (fun t σ hσ hk => NMR.bad (p10 t _ _ 0 (by decide) (RS.next hσ hk p3 hR5 p4 (by decide +kernel)) (by decide) k7.symm) (by omega)), (((LFr.rf _ _).tr p4 (by decide +kernel)).tr p11 (by decide +kernel)), (fun t σ hσ hk => KCr.eq (NMR.kb (p10 t _ (fun _ y => okS y) 0 (by decide) (RS.next hσ hk p3 hR5 p4 (by decide +kernel)) (by decide) k7.symm) (by omega) _) ((p12 t _ (RS.next hσ hk p3 hR5 p4 (by decide +kernel))).vc (by omega))), (FEr.no (by omega))⟩
def md_X12_readFirst_173k : List (Nat × (Nat × Nat)) := [(173, (5, 5)), (173, (6, 6)), (173, (7, 7)), (173, (8, 8)), (173, (9, 9)), (173, (10, 10)), (173, (11, 11))]
theorem ct_X12_readFirst_173k (X : Int) (hX : 0 ≤ X ∧ X ≤ 100000000) (M0 : JM) (hH0 : HI X M0) (a0 : Int) (ha0 : 0 ≤ a0 ∧ a0 ≤ 2) (a1 : Int) (ha1 : 6 ≤ a1 ∧ a1 ≤ 6) : JOk shp PJ 3 158 [.inr (.inr (.inl 173)), .inl a0, .inl a1] M0 (jRi (fun v M' => HI X M' ∧ Fr md_X12_readFirst_173k M0 M' ∧ 0 ≤ v ∧ v ≤ 1 ∧ (a0 ≠ 0 ∨ v = 0 ∨ M0.1 176 0 ≤ 5) ∧ (a0 ≠ 1 ∨ v = 0 ∨ M0.1 176 1 ≤ 5) ∧ (a0 ≠ 2 ∨ v = 0 ∨ M0.1 176 2 ≤ 5) ∧ (∀ (t : TXT) (σ : PSt), RS M0 t σ → 2 ≤ kK t σ → LRr t (firstS t (a0).toNat σ) v M') ∧ (LFr ml_X12_readFirst_173p M0 M') ∧ (∀ (t : TXT) (σ : PSt), RS M0 t σ → 2 ≤ kK t σ → KCr 4 v M') ∧ (FEr v M0 M'))) := by
 refine ⟨jr_X12_readFirst, pj_X12_readFirst, fun F c1 c2 c3 => ?_⟩
 have hm := pj_X12_readFirst
 change F 0 [some (.inr (.inr (.inl 173))), some (.inl a0), some (.inl a1)] [] M0
 have hF0 : Fr md_X12_readFirst_173k M0 M0 := Fr.rf _ _
 obtain ⟨z1, k2, lz1, uz1⟩ := hH0.ld (c := 176) (i := 0) (A := 0) (B := 6) (bs_12_0 _ _ (by omega) (by omega))
 obtain ⟨z3, k4, lz3, uz3⟩ := hH0.ld (c := 176) (i := 1) (A := 0) (B := 6) (bs_12_0 _ _ (by omega) (by omega))
 obtain ⟨z5, k6, lz5, uz5⟩ := hH0.ld (c := 176) (i := 2) (A := 0) (B := 6) (bs_12_0 _ _ (by omega) (by omega))
 refine jx_load c1 hm rfl rfl rfl rfl ?_
 refine jx_getr c1 hm rfl sh_173 rfl ?_
 refine jx_load c1 hm rfl rfl rfl rfl ?_
 obtain ⟨z7, k8, lz7, uz7⟩ := hH0.ld (c := 176) (i := (a0).toNat) (A := 0) (B := 6) (bs_12_0 _ _ (by omega) (by omega))
 refine jx_iald c1 hm rfl sh_176 ⟨by omega, by omega⟩ k8 ?_
 refine jx_load c1 hm rfl rfl rfl rfl ?_
 skip
 refine jc_ne c1 hm 16 rfl rfl (fun h9 => ?_) (fun h9 => ?_)
 ·
  refine jx_load c1 hm rfl rfl rfl rfl ?_
  obtain ⟨z10, k11, lz10, uz10⟩ := hH0.ld (c := 173) (i := 5) (A := 0) (B := 940) (bs_28_3 _ _ (by omega) (by omega))
  refine jv_v c3 hm rfl pj_X12_go rfl rfl ⟨_, _, _, rfl, sh_173⟩ rfl ((ct_X12_go_173p X (by omega) M0 hH0 ).le (by decide)) (fun M14 ⟨hH14, hR14, p12, p13⟩ => ?_)
  have hF14 := hF0.tr hR14 (by decide +kernel)
  refine jy_ic c1 hm rfl (by decide) ?_
  have k15 : M14.1 176 0 = z1 := (hR14 176 0 (by decide +kernel)).trans k2
  have k16 : M14.1 176 1 = z3 := (hR14 176 1 (by decide +kernel)).trans k4
  have k17 : M14.1 176 2 = z5 := (hR14 176 2 (by decide +kernel)).trans k6
  exact jx_retz c2 hm rfl rfl ⟨by omega, by omega⟩ ⟨_, rfl, hH14, hF14, by omega, by omega, (rf_k (j := 0) rfl k8 (by omega)), (rf_k (j := 1) rfl k8 (by omega)), (rf_k (j := 2) rfl k8 (by omega)), (fun t σ hσ hk => rfst_go hσ hk (by omega) (by omega) rfl p12 hR14 p13 (by decide +kernel)), ((LFr.rf _ _).tr p13 (by decide +kernel)), (fun t σ hσ hk => KCr.y (by omega)), (FEr.ok (hR14 173 10 rfl))⟩
 refine jx_load c1 hm rfl rfl rfl rfl ?_
 refine jy_ic c1 hm rfl (by decide) ?_
 obtain ⟨z18, k19, lz18, uz18⟩ := hH0.ld (c := 173) (i := 6) (A := 0) (B := 940) (bs_28_3 _ _ (by omega) (by omega))
 obtain ⟨z20, k21, lz20, uz20⟩ := hH0.ld (c := 173) (i := 7) (A := 0) (B := 4) (bs_28_4 _ _ (by omega) (by omega))
 refine jv_i c3 hm rfl pj_X12_bad rfl rfl ⟨_, _, _, rfl, sh_173⟩ rfl ((ct_X12_bad_173q X (by omega) M0 hH0 4 ⟨by omega, by omega⟩).le (by decide)) (fun z22 M28 ⟨hH28, hR28, lz22, uz22, p23, p24, p25, p26, p27⟩ => ?_)
 have hF28 := hF0.tr hR28 (by decide +kernel)
 obtain ⟨z29, k30, lz29, uz29⟩ := hH28.ld (c := 173) (i := 11) (A := 0) (B := 940) (bs_28_6 _ _ (by omega) (by omega))
 obtain ⟨z31, k32, lz31, uz31⟩ := hH28.ld (c := 173) (i := 10) (A := (-2147483648)) (B := 2147483647) (bs_28_5 _ _ (by omega) (by omega))
 have k33 : M28.1 176 0 = z1 := (hR28 176 0 (by decide +kernel)).trans k2
 have k34 : M28.1 176 1 = z3 := (hR28 176 1 (by decide +kernel)).trans k4
 have k35 : M28.1 176 2 = z5 := (hR28 176 2 (by decide +kernel)).trans k6
 exact jx_retz c2 hm rfl rfl ⟨by omega, by omega⟩ ⟨_, rfl, hH28, hF28, by omega, by omega, (rf_k (j := 0) rfl k8 (by omega)), (rf_k (j := 1) rfl k8 (by omega)), (rf_k (j := 2) rfl k8 (by omega)), (fun t σ hσ hk => rfst_no hσ (by omega) (by omega) (by omega) (by omega)), ((LFr.rf _ _).tr p27 (by decide +kernel)), (fun t σ hσ hk => KCr.of (by have y9 := hσ.kind; omega)), (FEr.no (by omega))⟩
def md_X12_readNew_173k : List (Nat × (Nat × Nat)) := [(173, (5, 5)), (173, (6, 6)), (173, (7, 7)), (173, (8, 8)), (173, (9, 9)), (173, (10, 10)), (173, (11, 11))]
theorem ct_X12_readNew_173k (X : Int) (hX : 0 ≤ X ∧ X ≤ 100000000) (M0 : JM) (hH0 : HI X M0) (a0 : Int) (ha0 : 0 ≤ a0 ∧ a0 ≤ 17) : JOk shp PJ 4 165 [.inr (.inr (.inl 173)), .inl a0] M0 (jRi (fun v M' => HI X M' ∧ Fr md_X12_readNew_173k M0 M' ∧ 0 ≤ v ∧ v ≤ 1 ∧ (∀ (t : TXT) (σ : PSt) (s : Nat), s < 3 → RS M0 t σ → σ.2.1 s < 6 → a0 = 6 * (s : Int) + σ.2.1 s → LRr t (newS t s σ) v M') ∧ (∀ (t : TXT) (σ : PSt), RS M0 t σ → v = 1 → kK t σ = 2 ∧ fndS σ (kV t σ) < 0 ∧ (M'.2 181 (a0).toNat).toInt = kV t σ) ∧ (LFr ml_X12_readNew_173p M0 M') ∧ (∀ (t : TXT) (σ : PSt), RS M0 t σ → KCr (nmK t σ) v M') ∧ (FEr v M0 M'))) := by
 refine ⟨jr_X12_readNew, pj_X12_readNew, fun F c1 c2 c3 => ?_⟩
 have hm := pj_X12_readNew
 change F 0 [some (.inr (.inr (.inl 173))), some (.inl a0)] [] M0
 have hF0 : Fr md_X12_readNew_173k M0 M0 := Fr.rf _ _
 refine jx_load c1 hm rfl rfl rfl rfl ?_
 obtain ⟨z1, k2, lz1, uz1⟩ := hH0.ld (c := 173) (i := 7) (A := 0) (B := 4) (bs_28_4 _ _ (by omega) (by omega))
 refine jv_i c3 hm rfl pj_X12_isName rfl rfl ⟨_, _, _, rfl, sh_173⟩ rfl ((ct_X12_isName_173p X (by omega) M0 hH0 ).le (by decide)) (fun z3 _ ⟨rfl, lz3, uz3, p4, p5⟩ => ?_)
 refine jz_ne c1 hm 13 rfl rfl (fun h6 => ?_) (fun h6 => ?_)
 ·
  refine jx_load c1 hm rfl rfl rfl rfl ?_
  refine jx_getr c1 hm rfl sh_173 rfl ?_
  refine jy_ic c1 hm rfl (by decide) ?_
  refine jx_load c1 hm rfl rfl rfl rfl ?_
  refine jx_getr c1 hm rfl sh_173 rfl ?_
  refine jy_ic c1 hm rfl (by decide) ?_
  obtain ⟨z7, k8, lz7, uz7⟩ := hH0.ld (c := 176) (i := 0) (A := 0) (B := 6) (bs_12_0 _ _ (by omega) (by omega))
  refine jx_iald c1 hm rfl sh_176 ⟨by omega, by omega⟩ k8 ?_
  refine jx_load c1 hm rfl rfl rfl rfl ?_
  obtain ⟨w9, kw9⟩ : ∃ w, M0.2 173 12 = w := ⟨_, rfl⟩
  have bw9 : LB w9.toInt := kw9 ▸ hH0.2.1 173 12 rfl
  refine jx_getl c1 hm rfl sh_173 rfl kw9 ?_
  skip
  refine jt_i c3 hm rfl rfl pj_X12_findIn rfl rfl rfl ((ct_X12_findIn_181 X (by omega) M0 hH0 0 ⟨by omega, by omega⟩ z7 ⟨by omega, by omega⟩ w9).le (by decide)) (fun z10 _ ⟨rfl, lz10, uz10, p11, p12, p13⟩ => ?_)
  skip
  refine jy_ic c1 hm rfl (by decide) ?_
  have f28 : FIN M0 0 z7 z10 w9 := ⟨by omega, p11, p13, p12⟩
  clear p11 p12 p13
  refine jc_ne c1 hm 81 rfl rfl (fun h14 => ?_) (fun h14 => ?_)
  ·
   refine jx_load c1 hm rfl rfl rfl rfl ?_
   refine jy_ic c1 hm rfl (by decide) ?_
   obtain ⟨z15, k16, lz15, uz15⟩ := hH0.ld (c := 173) (i := 6) (A := 0) (B := 940) (bs_28_3 _ _ (by omega) (by omega))
   refine jv_i c3 hm rfl pj_X12_bad rfl rfl ⟨_, _, _, rfl, sh_173⟩ rfl ((ct_X12_bad_173q X (by omega) M0 hH0 3 ⟨by omega, by omega⟩).le (by decide)) (fun z17 M23 ⟨hH23, hR23, lz17, uz17, p18, p19, p20, p21, p22⟩ => ?_)
   have hF23 := hF0.tr hR23 (by decide +kernel)
   obtain ⟨z24, k25, lz24, uz24⟩ := hH23.ld (c := 173) (i := 11) (A := 0) (B := 940) (bs_28_6 _ _ (by omega) (by omega))
   obtain ⟨z26, k27, lz26, uz26⟩ := hH23.ld (c := 173) (i := 10) (A := (-2147483648)) (B := 2147483647) (bs_28_5 _ _ (by omega) (by omega))
   exact jx_retz c2 hm rfl rfl ⟨by omega, by omega⟩ ⟨_, rfl, hH23, hF23, by omega, by omega, (fun t σ s hs hσ hc hj => rnew_no hσ (Or.inr (by have y9 := FIN.hit hσ (a := 0) (by decide) f28 (by decide) k8.symm ((congrArg Int64.toInt kw9).symm.trans (hσ.word (hσ.kind.symm.trans (p4 (by omega)).1))) (by omega); omega)) (by omega) p19), (fun t σ hσ y => absurd y (by omega)), ((LFr.rf _ _).tr p22 (by decide +kernel)), (fun t σ hσ => KCr.of ((show M23.1 173 10 = 3 by have y9 := (p4 (by omega)).1; omega).trans (nmK_3 (hσ.isn.mpr (p4 (by omega)))).symm)), (FEr.no (by omega))⟩
  refine jx_load c1 hm rfl rfl rfl rfl ?_
  refine jx_getr c1 hm rfl sh_173 rfl ?_
  refine jy_bp c1 hm rfl (by decide) ?_
  refine jx_load c1 hm rfl rfl rfl rfl ?_
  refine jx_getr c1 hm rfl sh_173 rfl ?_
  refine jy_ic c1 hm rfl (by decide) ?_
  obtain ⟨z28, k29, lz28, uz28⟩ := hH0.ld (c := 176) (i := 1) (A := 0) (B := 6) (bs_12_0 _ _ (by omega) (by omega))
  refine jx_iald c1 hm rfl sh_176 ⟨by omega, by omega⟩ k29 ?_
  refine jx_load c1 hm rfl rfl rfl rfl ?_
  refine jx_getl c1 hm rfl sh_173 rfl kw9 ?_
  skip
  refine jt_i c3 hm rfl rfl pj_X12_findIn rfl rfl rfl ((ct_X12_findIn_181 X (by omega) M0 hH0 6 ⟨by omega, by omega⟩ z28 ⟨by omega, by omega⟩ w9).le (by decide)) (fun z30 _ ⟨rfl, lz30, uz30, p31, p32, p33⟩ => ?_)
  skip
  refine jy_ic c1 hm rfl (by decide) ?_
  have f51 : FIN M0 6 z28 z30 w9 := ⟨by omega, p31, p33, p32⟩
  clear p31 p32 p33
  refine jc_ne c1 hm 81 rfl rfl (fun h34 => ?_) (fun h34 => ?_)
  ·
   refine jx_load c1 hm rfl rfl rfl rfl ?_
   refine jy_ic c1 hm rfl (by decide) ?_
   obtain ⟨z35, k36, lz35, uz35⟩ := hH0.ld (c := 173) (i := 6) (A := 0) (B := 940) (bs_28_3 _ _ (by omega) (by omega))
   refine jv_i c3 hm rfl pj_X12_bad rfl rfl ⟨_, _, _, rfl, sh_173⟩ rfl ((ct_X12_bad_173q X (by omega) M0 hH0 3 ⟨by omega, by omega⟩).le (by decide)) (fun z37 M43 ⟨hH43, hR43, lz37, uz37, p38, p39, p40, p41, p42⟩ => ?_)
   have hF43 := hF0.tr hR43 (by decide +kernel)
   obtain ⟨z44, k45, lz44, uz44⟩ := hH43.ld (c := 173) (i := 11) (A := 0) (B := 940) (bs_28_6 _ _ (by omega) (by omega))
   obtain ⟨z46, k47, lz46, uz46⟩ := hH43.ld (c := 173) (i := 10) (A := (-2147483648)) (B := 2147483647) (bs_28_5 _ _ (by omega) (by omega))
   exact jx_retz c2 hm rfl rfl ⟨by omega, by omega⟩ ⟨_, rfl, hH43, hF43, by omega, by omega, (fun t σ s hs hσ hc hj => rnew_no hσ (Or.inr (by have y9 := FIN.hit hσ (a := 1) (by decide) f51 (by decide) k29.symm ((congrArg Int64.toInt kw9).symm.trans (hσ.word (hσ.kind.symm.trans (p4 (by omega)).1))) (by omega); omega)) (by omega) p39), (fun t σ hσ y => absurd y (by omega)), ((LFr.rf _ _).tr p42 (by decide +kernel)), (fun t σ hσ => KCr.of ((show M43.1 173 10 = 3 by have y9 := (p4 (by omega)).1; omega).trans (nmK_3 (hσ.isn.mpr (p4 (by omega)))).symm)), (FEr.no (by omega))⟩
  refine jx_load c1 hm rfl rfl rfl rfl ?_
  refine jx_getr c1 hm rfl sh_173 rfl ?_
  refine jy_bp c1 hm rfl (by decide) ?_
  refine jx_load c1 hm rfl rfl rfl rfl ?_
  refine jx_getr c1 hm rfl sh_173 rfl ?_
  refine jy_ic c1 hm rfl (by decide) ?_
  obtain ⟨z48, k49, lz48, uz48⟩ := hH0.ld (c := 176) (i := 2) (A := 0) (B := 6) (bs_12_0 _ _ (by omega) (by omega))
  refine jx_iald c1 hm rfl sh_176 ⟨by omega, by omega⟩ k49 ?_
  refine jx_load c1 hm rfl rfl rfl rfl ?_
  refine jx_getl c1 hm rfl sh_173 rfl kw9 ?_
  skip
  refine jt_i c3 hm rfl rfl pj_X12_findIn rfl rfl rfl ((ct_X12_findIn_181 X (by omega) M0 hH0 12 ⟨by omega, by omega⟩ z48 ⟨by omega, by omega⟩ w9).le (by decide)) (fun z50 _ ⟨rfl, lz50, uz50, p51, p52, p53⟩ => ?_)
  skip
  refine jy_ic c1 hm rfl (by decide) ?_
  have f74 : FIN M0 12 z48 z50 w9 := ⟨by omega, p51, p53, p52⟩
  clear p51 p52 p53
  refine jc_eq c1 hm 87 rfl rfl (fun h54 => ?_) (fun h54 => ?_)
  ·
   refine jx_load c1 hm rfl rfl rfl rfl ?_
   refine jx_getr c1 hm rfl sh_173 rfl ?_
   refine jx_load c1 hm rfl rfl rfl rfl ?_
   refine jx_load c1 hm rfl rfl rfl rfl ?_
   refine jx_getl c1 hm rfl sh_173 rfl kw9 ?_
   skip
   obtain ⟨M55, e55, hH55, hF55, n55, k55, g55⟩ := mul hH0 hF0 (c := 181) (i := (a0).toNat) (v := w9) (fun _ => bw9)
   refine jm_last c1 hm rfl sh_181 ⟨by omega, by omega⟩ e55 ?_
   refine jx_load c1 hm rfl rfl rfl rfl ?_
   obtain ⟨z56, k57, lz56, uz56⟩ := hH55.ld (c := 173) (i := 5) (A := 0) (B := 940) (bs_28_3 _ _ (by omega) (by omega))
   refine jv_v c3 hm rfl pj_X12_go rfl rfl ⟨_, _, _, rfl, sh_173⟩ rfl ((ct_X12_go_173p X (by omega) M55 hH55 ).le (by decide)) (fun M60 ⟨hH60, hR60, p58, p59⟩ => ?_)
   have hF60 := hF55.tr hR60 (by decide +kernel)
   refine jy_ic c1 hm rfl (by decide) ?_
   exact jx_retz c2 hm rfl rfl ⟨by omega, by omega⟩ ⟨_, rfl, hH60, hF60, by omega, by omega, (fun t σ s hs hσ hc hj => rnew_go hσ hs hc (p4 (by omega)) (fnd_all (FIN.miss hσ (a := 0) (by decide) f28 (by decide) k8.symm ((congrArg Int64.toInt kw9).symm.trans (hσ.word (hσ.kind.symm.trans (p4 (by omega)).1))) (by omega)) (FIN.miss hσ (a := 1) (by decide) f51 (by decide) k29.symm ((congrArg Int64.toInt kw9).symm.trans (hσ.word (hσ.kind.symm.trans (p4 (by omega)).1))) (by omega)) (FIN.miss hσ (a := 2) (by decide) f74 (by decide) k49.symm ((congrArg Int64.toInt kw9).symm.trans (hσ.word (hσ.kind.symm.trans (p4 (by omega)).1))) (by omega))) hj n55 g55 rfl p58 hR60 p59 (by decide +kernel)), (fun t σ hσ _ => ⟨hσ.kind.symm.trans (p4 (by omega)).1, fnd_all (FIN.miss hσ (a := 0) (by decide) f28 (by decide) k8.symm ((congrArg Int64.toInt kw9).symm.trans (hσ.word (hσ.kind.symm.trans (p4 (by omega)).1))) (by omega)) (FIN.miss hσ (a := 1) (by decide) f51 (by decide) k29.symm ((congrArg Int64.toInt kw9).symm.trans (hσ.word (hσ.kind.symm.trans (p4 (by omega)).1))) (by omega)) (FIN.miss hσ (a := 2) (by decide) f74 (by decide) k49.symm ((congrArg Int64.toInt kw9).symm.trans (hσ.word (hσ.kind.symm.trans (p4 (by omega)).1))) (by omega)), by rw [p59 181 (a0).toNat rfl, k55]; exact ((congrArg Int64.toInt kw9).symm.trans (hσ.word (hσ.kind.symm.trans (p4 (by omega)).1)))⟩), (((LFr.rf _ _).st g55 (jin_of 1 rfl ⟨by omega, by omega⟩)).tr p59 (by decide +kernel)), (fun t σ hσ => KCr.y (by omega)), (FEr.ok ((hR60 173 10 rfl).trans (n55 173 10)))⟩
  refine jx_load c1 hm rfl rfl rfl rfl ?_
  refine jy_ic c1 hm rfl (by decide) ?_
  obtain ⟨z61, k62, lz61, uz61⟩ := hH0.ld (c := 173) (i := 6) (A := 0) (B := 940) (bs_28_3 _ _ (by omega) (by omega))
  refine jv_i c3 hm rfl pj_X12_bad rfl rfl ⟨_, _, _, rfl, sh_173⟩ rfl ((ct_X12_bad_173q X (by omega) M0 hH0 3 ⟨by omega, by omega⟩).le (by decide)) (fun z63 M69 ⟨hH69, hR69, lz63, uz63, p64, p65, p66, p67, p68⟩ => ?_)
  have hF69 := hF0.tr hR69 (by decide +kernel)
  obtain ⟨z70, k71, lz70, uz70⟩ := hH69.ld (c := 173) (i := 11) (A := 0) (B := 940) (bs_28_6 _ _ (by omega) (by omega))
  obtain ⟨z72, k73, lz72, uz72⟩ := hH69.ld (c := 173) (i := 10) (A := (-2147483648)) (B := 2147483647) (bs_28_5 _ _ (by omega) (by omega))
  exact jx_retz c2 hm rfl rfl ⟨by omega, by omega⟩ ⟨_, rfl, hH69, hF69, by omega, by omega, (fun t σ s hs hσ hc hj => rnew_no hσ (Or.inr (by have y9 := FIN.hit hσ (a := 2) (by decide) f74 (by decide) k49.symm ((congrArg Int64.toInt kw9).symm.trans (hσ.word (hσ.kind.symm.trans (p4 (by omega)).1))) (by omega); omega)) (by omega) p65), (fun t σ hσ y => absurd y (by omega)), ((LFr.rf _ _).tr p68 (by decide +kernel)), (fun t σ hσ => KCr.of ((show M69.1 173 10 = 3 by have y9 := (p4 (by omega)).1; omega).trans (nmK_3 (hσ.isn.mpr (p4 (by omega)))).symm)), (FEr.no (by omega))⟩
 refine jx_load c1 hm rfl rfl rfl rfl ?_
 refine jy_ic c1 hm rfl (by decide) ?_
 obtain ⟨z74, k75, lz74, uz74⟩ := hH0.ld (c := 173) (i := 6) (A := 0) (B := 940) (bs_28_3 _ _ (by omega) (by omega))
 refine jv_i c3 hm rfl pj_X12_bad rfl rfl ⟨_, _, _, rfl, sh_173⟩ rfl ((ct_X12_bad_173q X (by omega) M0 hH0 1 ⟨by omega, by omega⟩).le (by decide)) (fun z76 M82 ⟨hH82, hR82, lz76, uz76, p77, p78, p79, p80, p81⟩ => ?_)
 have hF82 := hF0.tr hR82 (by decide +kernel)
 obtain ⟨z83, k84, lz83, uz83⟩ := hH82.ld (c := 173) (i := 11) (A := 0) (B := 940) (bs_28_6 _ _ (by omega) (by omega))
 obtain ⟨z85, k86, lz85, uz85⟩ := hH82.ld (c := 173) (i := 10) (A := (-2147483648)) (B := 2147483647) (bs_28_5 _ _ (by omega) (by omega))
 exact jx_retz c2 hm rfl rfl ⟨by omega, by omega⟩ ⟨_, rfl, hH82, hF82, by omega, by omega, (fun t σ s hs hσ hc hj => rnew_no hσ (Or.inl (fun y => (p5.resolve_left (by omega)).elim (fun y2 => y2 y.1) (fun y2 => absurd y2 (by have y3 := y.2; omega)))) (by omega) p78), (fun t σ hσ y => absurd y (by omega)), ((LFr.rf _ _).tr p81 (by decide +kernel)), (fun t σ hσ => KCr.of ((show M82.1 173 10 = 1 by omega).trans (nmK_1 (fun q => (fun y => (p5.resolve_left (by omega)).elim (fun y2 => y2 y.1) (fun y2 => absurd y2 (by have y3 := y.2; omega))) (hσ.isn.mp q))).symm)), (FEr.no (by omega))⟩
def md_X12_readGood_173k : List (Nat × (Nat × Nat)) := [(173, (5, 5)), (173, (6, 6)), (173, (7, 7)), (173, (8, 8)), (173, (9, 9)), (173, (10, 10)), (173, (11, 11)), (173, (13, 13)), (176, (2, 2)), (176, (3, 100))]
theorem ct_X12_readGood_173k (X : Int) (hX : 0 ≤ X ∧ X ≤ 100000000) (M0 : JM) (hH0 : HI X M0)  : JOk shp PJ 5 160 [.inr (.inr (.inl 173))] M0 (jRi (fun v M' => HI X M' ∧ Fr md_X12_readGood_173k M0 M' ∧ 0 ≤ v ∧ v ≤ 1 ∧ (∀ (t : TXT) (σ : PSt), RS M0 t σ → 2 ≤ kK t σ → LRr t (gooS t σ) v M') ∧ (LFr ml_X12_readGood_173p M0 M') ∧ (∀ (t : TXT) (σ : PSt), RS M0 t σ → 2 ≤ kK t σ → KCr (gooK t σ) v M') ∧ (FEr v M0 M'))) := by
 refine ⟨jr_X12_readGood, pj_X12_readGood, fun F c1 c2 c3 => ?_⟩
 have hm := pj_X12_readGood
 change F 0 [some (.inr (.inr (.inl 173))), none] [] M0
 have hF0 : Fr md_X12_readGood_173k M0 M0 := Fr.rf _ _
 refine jx_load c1 hm rfl rfl rfl rfl ?_
 refine jy_ic c1 hm rfl (by decide) ?_
 refine jy_bp c1 hm rfl (by decide) ?_
 obtain ⟨z1, k2, lz1, uz1⟩ := hH0.ld (c := 176) (i := 2) (A := 0) (B := 6) (bs_12_0 _ _ (by omega) (by omega))
 obtain ⟨z3, k4, lz3, uz3⟩ := hH0.ld (c := 176) (i := 0) (A := 0) (B := 6) (bs_12_0 _ _ (by omega) (by omega))
 obtain ⟨z5, k6, lz5, uz5⟩ := hH0.ld (c := 176) (i := 1) (A := 0) (B := 6) (bs_12_0 _ _ (by omega) (by omega))
 refine jv_i c3 hm rfl pj_X12_readFirst rfl rfl ⟨_, _, _, rfl, sh_173⟩ rfl ((ct_X12_readFirst_173k X (by omega) M0 hH0 2 ⟨by omega, by omega⟩ 6 ⟨by omega, by omega⟩).le (by decide)) (fun z7 M15 ⟨hH15, hR15, lz7, uz7, p8, p9, p10, p11, p12, p13, p14⟩ => ?_)
 have hF15 := hF0.tr hR15 (by decide +kernel)
 refine jz_ne c1 hm 12 rfl rfl (fun h16 => ?_) (fun h16 => ?_)
 ·
  refine jx_load c1 hm rfl rfl rfl rfl ?_
  refine jx_getr c1 hm rfl sh_173 rfl ?_
  refine jy_ic c1 hm rfl (by decide) ?_
  have k17 : M15.1 176 2 = z1 := (hR15 176 2 (by decide +kernel)).trans k2
  refine jx_iald c1 hm rfl sh_176 ⟨by omega, by omega⟩ k17 ?_
  refine jx_stor c1 hm (L' := [some (.inr (.inr (.inl 173))), some (.inl z1)]) rfl rfl rfl rfl rfl ?_
  refine jx_load c1 hm rfl rfl rfl rfl ?_
  refine jy_bp c1 hm rfl (by decide) ?_
  refine jx_load c1 hm rfl rfl rfl rfl ?_
  refine jy_add c1 hm (z1 + 12) rfl (by omega) ?_
  skip
  refine jv_i c3 hm rfl pj_X12_readNew rfl rfl ⟨_, _, _, rfl, sh_173⟩ rfl ((ct_X12_readNew_173k X (by omega) M15 hH15 (z1 + 12) ⟨by omega, by omega⟩).le (by decide)) (fun z18 M24 ⟨hH24, hR24, lz18, uz18, p19, p20, p21, p22, p23⟩ => ?_)
  have hF24 := hF15.tr hR24 (by decide +kernel)
  refine jz_eq c1 hm 66 rfl rfl (fun h25 => ?_) (fun h25 => ?_)
  ·
   refine jy_ic c1 hm rfl (by decide) ?_
   exact jx_retz c2 hm rfl rfl ⟨by omega, by omega⟩ ⟨_, rfl, hH24, hF24, by omega, by omega, (fun t σ hσ hk => LRr.seqg (p11 t σ hσ hk) (by omega) (fun l1 h1 => LRr.seqz (p19 t _ 2 (by decide) h1 (by rw [(fst_lt hσ.2.2 l1).1]; exact (fst_lt hσ.2.2 l1).2) (by have y9 := h1.2.1.1 2 (by decide); omega)) (by omega))), (((LFr.rf _ _).tr p12 (by decide +kernel)).tr p21 (by decide +kernel)), (fun t σ hσ hk => KCr.seqg (p11 t σ hσ hk) (by omega) (fun l1 h1 => KCr.seqz (p19 t _ 2 (by decide) h1 (by rw [(fst_lt hσ.2.2 l1).1]; exact (fst_lt hσ.2.2 l1).2) (by have y9 := h1.2.1.1 2 (by decide); omega)) (p22 t _ h1) (by omega))), (FEr.no (by omega))⟩
  refine jx_load c1 hm rfl rfl rfl rfl ?_
  refine jy_bp c1 hm rfl (by decide) ?_
  refine jx_load c1 hm rfl rfl rfl rfl ?_
  refine jy_add c1 hm (z1 + 53) rfl (by omega) ?_
  refine jx_load c1 hm rfl rfl rfl rfl ?_
  refine jy_ic c1 hm rfl (by decide) ?_
  refine jy_bp c1 hm rfl (by decide) ?_
  refine jv_i c3 hm rfl pj_X12_readNumber rfl rfl ⟨_, _, _, rfl, sh_173⟩ rfl ((ct_X12_readNumber_173k X (by omega) M24 hH24 1 ⟨by omega, by omega⟩ 99 ⟨by omega, by omega⟩).le (by decide)) (fun z26 M32 ⟨hH32, hR32, lz26, uz26, p27, p28, p29, p30, p31⟩ => ?_)
  have hF32 := hF24.tr hR32 (by decide +kernel)
  obtain ⟨z33, k34, lz33, uz33⟩ := hH32.ld (c := 173) (i := 13) (A := (-2147483648)) (B := 2147483647) (bs_28_7 _ _ (by omega) (by omega))
  refine jv_i c3 hm rfl pj_X12_put rfl rfl ⟨_, _, _, rfl, sh_173⟩ rfl ((ct_X12_put_173p X (by omega) M32 hH32 (z1 + 53) ⟨by omega, by omega⟩ z26 ⟨by omega, by omega⟩ (by rw [show bnd X 176 ((z1 + 53) : Int).toNat = (0, 99) from (bs_12_5 _ _ (by omega) (by omega))]; dsimp only; omega)).le (by decide)) (fun z35 M40 ⟨hH40, hR40, lz35, uz35, p36, p37, p38, p39⟩ => ?_)
  have hF40 := hF32.tr hR40 (by decide +kernel)
  refine jz_eq c1 hm 66 rfl rfl (fun h41 => ?_) (fun h41 => ?_)
  ·
   refine jy_ic c1 hm rfl (by decide) ?_
   exact jx_retz c2 hm rfl rfl ⟨by omega, by omega⟩ ⟨_, rfl, hH40, hF40, by omega, by omega, (fun t σ hσ hk => LRr.seqg (p11 t σ hσ hk) (by omega) (fun l1 h1 => LRr.seqg (p19 t _ 2 (by decide) h1 (by rw [(fst_lt hσ.2.2 l1).1]; exact (fst_lt hσ.2.2 l1).2) (by have y9 := h1.2.1.1 2 (by decide); omega)) (by omega) (fun l2 h2 => LRr.seqz (LRr.put (p28 t _ h2) p37 (fun c i => p39 c i rfl) (by omega) p36) (by omega)))), (((((LFr.rf _ _).tr p12 (by decide +kernel)).tr p21 (by decide +kernel)).tr p29 (by decide +kernel)).tr p39 (by decide +kernel)), (fun t σ hσ hk => KCr.seqg (p11 t σ hσ hk) (by omega) (fun l1 h1 => KCr.seqg (p19 t _ 2 (by decide) h1 (by rw [(fst_lt hσ.2.2 l1).1]; exact (fst_lt hσ.2.2 l1).2) (by have y9 := h1.2.1.1 2 (by decide); omega)) (by omega) (fun l2 h2 => KCr.seqz (LRr.put (p28 t _ h2) p37 (fun c i => p39 c i rfl) (by omega) p36) (KCr.cg (p30 t _ h2) p36 (hR40 173 10 rfl)) (by omega)))), (FEr.no (by omega))⟩
  refine jx_load c1 hm rfl rfl rfl rfl ?_
  refine jy_bp c1 hm rfl (by decide) ?_
  refine jx_load c1 hm rfl rfl rfl rfl ?_
  refine jy_add c1 hm (z1 + 59) rfl (by omega) ?_
  refine jx_load c1 hm rfl rfl rfl rfl ?_
  refine jy_ic c1 hm rfl (by decide) ?_
  refine jy_bp c1 hm rfl (by decide) ?_
  refine jv_i c3 hm rfl pj_X12_readNumber rfl rfl ⟨_, _, _, rfl, sh_173⟩ rfl ((ct_X12_readNumber_173k X (by omega) M40 hH40 0 ⟨by omega, by omega⟩ 20 ⟨by omega, by omega⟩).le (by decide)) (fun z42 M48 ⟨hH48, hR48, lz42, uz42, p43, p44, p45, p46, p47⟩ => ?_)
  have hF48 := hF40.tr hR48 (by decide +kernel)
  obtain ⟨z49, k50, lz49, uz49⟩ := hH48.ld (c := 173) (i := 13) (A := (-2147483648)) (B := 2147483647) (bs_28_7 _ _ (by omega) (by omega))
  refine jv_i c3 hm rfl pj_X12_put rfl rfl ⟨_, _, _, rfl, sh_173⟩ rfl ((ct_X12_put_173p X (by omega) M48 hH48 (z1 + 59) ⟨by omega, by omega⟩ z42 ⟨by omega, by omega⟩ (by rw [show bnd X 176 ((z1 + 59) : Int).toNat = (0, 20) from (bs_12_6 _ _ (by omega) (by omega))]; dsimp only; omega)).le (by decide)) (fun z51 M56 ⟨hH56, hR56, lz51, uz51, p52, p53, p54, p55⟩ => ?_)
  have hF56 := hF48.tr hR56 (by decide +kernel)
  refine jz_ne c1 hm 68 rfl rfl (fun h57 => ?_) (fun h57 => ?_)
  ·
   refine jx_load c1 hm rfl rfl rfl rfl ?_
   refine jx_getr c1 hm rfl sh_173 rfl ?_
   refine jy_ic c1 hm rfl (by decide) ?_
   refine jx_dup2 c1 hm rfl rfl rfl ?_
   have k58 : M56.1 176 2 = z1 := (hR56 176 2 (by decide +kernel)).trans ((hR48 176 2 (by decide +kernel)).trans ((hR40 176 2 (by decide +kernel)).trans ((hR32 176 2 (by decide +kernel)).trans ((hR24 176 2 (by decide +kernel)).trans k17))))
   refine jx_iald c1 hm rfl sh_176 ⟨by omega, by omega⟩ k58 ?_
   refine jy_ic c1 hm rfl (by decide) ?_
   refine jy_add c1 hm (z1 + 1) rfl (by omega) ?_
   obtain ⟨M59, e59, hH59, hF59, k59, n59, q59⟩ := mup hH56 hF56 (c := 176) (i := 2) (v := (z1 + 1)) (A := 0) (B := 6) (bs_12_0 _ _ (by omega) (by omega)) ⟨by omega, by omega⟩ (jin_of 8 rfl ⟨by omega, by omega⟩)
   refine jm_iast c1 hm rfl sh_176 ⟨by omega, by omega⟩ e59 ?_
   refine jy_ic c1 hm rfl (by decide) ?_
   exact jx_retz c2 hm rfl rfl ⟨by omega, by omega⟩ ⟨_, rfl, hH59, hF59, by omega, by omega, (fun t σ hσ hk => LRr.seqg (p11 t σ hσ hk) (by omega) (fun l1 h1 => LRr.seqg (p19 t _ 2 (by decide) h1 (by rw [(fst_lt hσ.2.2 l1).1]; exact (fst_lt hσ.2.2 l1).2) (by have y9 := h1.2.1.1 2 (by decide); omega)) (by omega) (fun l2 h2 => LRr.seqg (LRr.put (p28 t _ h2) p37 (fun c i => p39 c i rfl) (by omega) p36) (by omega) (fun l3 h3 => LRr.seqg (LRr.put (p44 t _ h3) p53 (fun c i => p55 c i rfl) (by omega) p52) (by omega) (fun l4 h4 => LRr.o (radd_fin (s := 2) (j := (z1 + 12)) (by decide) h1 (by rw [(fst_lt hσ.2.2 l1).1]; exact (fst_lt hσ.2.2 l1).2) (p20 t _ h1 (by omega)).1 (p20 t _ h1 (by omega)).2.1 l2 ((num_e3 h3.2.2 l4).trans (num_e3 h2.2.2 l3)) h4 (by have y9 := h1.2.1.1 2 (by decide); omega) ((congrArg Int64.toInt ((((p55 181 ((z1 + 12)).toNat rfl).trans (p45 181 ((z1 + 12)).toNat rfl)).trans (p39 181 ((z1 + 12)).toNat rfl)).trans (p29 181 ((z1 + 12)).toNat rfl))).trans (p20 t _ h1 (by omega)).2.2) (by omega) n59 q59) (show (-1 : Int) < 0 by decide)))))), ((((((((LFr.rf _ _).tr p12 (by decide +kernel)).tr p21 (by decide +kernel)).tr p29 (by decide +kernel)).tr p39 (by decide +kernel)).tr p45 (by decide +kernel)).tr p55 (by decide +kernel)).eq q59), (fun t σ hσ hk => KCr.y (by omega)), (FEr.ok (((((((n59 173 10 (fun h => absurd h.1 (by decide))).trans (hR56 173 10 rfl)).trans (p47.e (by omega))).trans (hR40 173 10 rfl)).trans (p31.e (by omega))).trans (p23.e (by omega))).trans (p14.e (by omega))))⟩
  refine jy_ic c1 hm rfl (by decide) ?_
  exact jx_retz c2 hm rfl rfl ⟨by omega, by omega⟩ ⟨_, rfl, hH56, hF56, by omega, by omega, (fun t σ hσ hk => LRr.seqg (p11 t σ hσ hk) (by omega) (fun l1 h1 => LRr.seqg (p19 t _ 2 (by decide) h1 (by rw [(fst_lt hσ.2.2 l1).1]; exact (fst_lt hσ.2.2 l1).2) (by have y9 := h1.2.1.1 2 (by decide); omega)) (by omega) (fun l2 h2 => LRr.seqg (LRr.put (p28 t _ h2) p37 (fun c i => p39 c i rfl) (by omega) p36) (by omega) (fun l3 h3 => LRr.seqz (LRr.put (p44 t _ h3) p53 (fun c i => p55 c i rfl) (by omega) p52) (by omega))))), (((((((LFr.rf _ _).tr p12 (by decide +kernel)).tr p21 (by decide +kernel)).tr p29 (by decide +kernel)).tr p39 (by decide +kernel)).tr p45 (by decide +kernel)).tr p55 (by decide +kernel)), (fun t σ hσ hk => KCr.seqg (p11 t σ hσ hk) (by omega) (fun l1 h1 => KCr.seqg (p19 t _ 2 (by decide) h1 (by rw [(fst_lt hσ.2.2 l1).1]; exact (fst_lt hσ.2.2 l1).2) (by have y9 := h1.2.1.1 2 (by decide); omega)) (by omega) (fun l2 h2 => KCr.seqg (LRr.put (p28 t _ h2) p37 (fun c i => p39 c i rfl) (by omega) p36) (by omega) (fun l3 h3 => (KCr.cg (p46 t _ h3) p52 (hR56 173 10 rfl)).vc (by omega))))), (FEr.no (by omega))⟩
 refine jy_ic c1 hm rfl (by decide) ?_
 exact jx_retz c2 hm rfl rfl ⟨by omega, by omega⟩ ⟨_, rfl, hH15, hF15, by omega, by omega, (fun t σ hσ hk => LRr.seqz (p11 t σ hσ hk) (by omega)), ((LFr.rf _ _).tr p12 (by decide +kernel)), (fun t σ hσ hk => KCr.seqz (p11 t σ hσ hk) (p13 t σ hσ hk) (by omega)), (FEr.no (by omega))⟩
def md_X12_readMinds_173k : List (Nat × (Nat × Nat)) := [(173, (5, 5)), (173, (6, 6)), (173, (7, 7)), (173, (8, 8)), (173, (9, 9)), (173, (10, 10)), (173, (11, 11)), (173, (13, 13)), (176, (3, 100))]
theorem ct_X12_readMinds_173k (X : Int) (hX : 0 ≤ X ∧ X ≤ 100000000) (M0 : JM) (hH0 : HI X M0)  : JOk shp PJ 5 163 [.inr (.inr (.inl 173))] M0 (jRi (fun v M' => HI X M' ∧ Fr md_X12_readMinds_173k M0 M' ∧ 0 ≤ v ∧ v ≤ 1 ∧ (∀ (t : TXT) (σ : PSt), RS M0 t σ → 2 ≤ kK t σ → LRr t (minS t σ) v M') ∧ (LFr ml_X12_readMinds_173p M0 M') ∧ (∀ (t : TXT) (σ : PSt), RS M0 t σ → 2 ≤ kK t σ → KCr (minK t σ) v M') ∧ (FEr v M0 M'))) := by
 refine ⟨jr_X12_readMinds, pj_X12_readMinds, fun F c1 c2 c3 => ?_⟩
 have hm := pj_X12_readMinds
 change F 0 [some (.inr (.inr (.inl 173))), none] [] M0
 have hF0 : Fr md_X12_readMinds_173k M0 M0 := Fr.rf _ _
 refine jx_load c1 hm rfl rfl rfl rfl ?_
 obtain ⟨z1, k2, lz1, uz1⟩ := hH0.ld (c := 173) (i := 5) (A := 0) (B := 940) (bs_28_3 _ _ (by omega) (by omega))
 refine jv_v c3 hm rfl pj_X12_go rfl rfl ⟨_, _, _, rfl, sh_173⟩ rfl ((ct_X12_go_173p X (by omega) M0 hH0 ).le (by decide)) (fun M5 ⟨hH5, hR5, p3, p4⟩ => ?_)
 have hF5 := hF0.tr hR5 (by decide +kernel)
 refine jx_load c1 hm rfl rfl rfl rfl ?_
 refine jy_ic c1 hm rfl (by decide) ?_
 refine jx_load c1 hm rfl rfl rfl rfl ?_
 refine jx_getr c1 hm rfl sh_173 rfl ?_
 refine jy_ic c1 hm rfl (by decide) ?_
 obtain ⟨z6, k7, lz6, uz6⟩ := hH5.ld (c := 176) (i := 0) (A := 0) (B := 6) (bs_12_0 _ _ (by omega) (by omega))
 refine jx_iald c1 hm rfl sh_176 ⟨by omega, by omega⟩ k7 ?_
 skip
 refine jv_i c3 hm rfl pj_X12_isOne rfl rfl ⟨_, _, _, rfl, sh_173⟩ rfl ((ct_X12_isOne_173k X (by omega) M5 hH5 0 ⟨by omega, by omega⟩ z6 ⟨by omega, by omega⟩).le (by decide)) (fun z8 M14 ⟨hH14, hR14, lz8, uz8, p9, p10, p11, p12, p13⟩ => ?_)
 have hF14 := hF5.tr hR14 (by decide +kernel)
 obtain ⟨z15, k16, lz15, uz15⟩ := hH14.ld (c := 173) (i := 13) (A := (-2147483648)) (B := 2147483647) (bs_28_7 _ _ (by omega) (by omega))
 refine jz_ne c1 hm 20 rfl rfl (fun h17 => ?_) (fun h17 => ?_)
 ·
  refine jy_bp c1 hm rfl (by decide) ?_
  refine jy_bp c1 hm rfl (by decide) ?_
  refine jx_load c1 hm rfl rfl rfl rfl ?_
  refine jx_geti c1 hm rfl sh_173 rfl k16 ?_
  refine jy_mul c1 hm (6 * z15) rfl (by omega) ?_
  refine jy_add c1 hm (6 * z15 + 17) rfl (by omega) ?_
  refine jx_stor c1 hm (L' := [some (.inr (.inr (.inl 173))), some (.inl (6 * z15 + 17))]) rfl rfl rfl rfl rfl ?_
  refine jx_load c1 hm rfl rfl rfl rfl ?_
  obtain ⟨z18, k19, lz18, uz18⟩ := hH14.ld (c := 173) (i := 5) (A := 0) (B := 940) (bs_28_3 _ _ (by omega) (by omega))
  refine jv_v c3 hm rfl pj_X12_go rfl rfl ⟨_, _, _, rfl, sh_173⟩ rfl ((ct_X12_go_173p X (by omega) M14 hH14 ).le (by decide)) (fun M22 ⟨hH22, hR22, p20, p21⟩ => ?_)
  have hF22 := hF14.tr hR22 (by decide +kernel)
  refine jx_load c1 hm rfl rfl rfl rfl ?_
  refine jy_bp c1 hm rfl (by decide) ?_
  refine jx_load c1 hm rfl rfl rfl rfl ?_
  refine jx_getr c1 hm rfl sh_173 rfl ?_
  refine jy_ic c1 hm rfl (by decide) ?_
  obtain ⟨z23, k24, lz23, uz23⟩ := hH22.ld (c := 176) (i := 1) (A := 0) (B := 6) (bs_12_0 _ _ (by omega) (by omega))
  refine jx_iald c1 hm rfl sh_176 ⟨by omega, by omega⟩ k24 ?_
  skip
  refine jv_i c3 hm rfl pj_X12_isOne rfl rfl ⟨_, _, _, rfl, sh_173⟩ rfl ((ct_X12_isOne_173k X (by omega) M22 hH22 6 ⟨by omega, by omega⟩ z23 ⟨by omega, by omega⟩).le (by decide)) (fun z25 M31 ⟨hH31, hR31, lz25, uz25, p26, p27, p28, p29, p30⟩ => ?_)
  have hF31 := hF22.tr hR31 (by decide +kernel)
  obtain ⟨z32, k33, lz32, uz32⟩ := hH31.ld (c := 173) (i := 13) (A := (-2147483648)) (B := 2147483647) (bs_28_7 _ _ (by omega) (by omega))
  refine jz_ne c1 hm 52 rfl rfl (fun h34 => ?_) (fun h34 => ?_)
  ·
   refine jx_load c1 hm rfl rfl rfl rfl ?_
   refine jx_load c1 hm rfl rfl rfl rfl ?_
   refine jx_geti c1 hm rfl sh_173 rfl k33 ?_
   refine jy_add c1 hm (6 * z15 + z32 + 17) rfl (by omega) ?_
   skip
   refine jx_stor c1 hm (L' := [some (.inr (.inr (.inl 173))), some (.inl (6 * z15 + z32 + 17))]) rfl rfl rfl rfl rfl ?_
   refine jx_load c1 hm rfl rfl rfl rfl ?_
   refine jx_getr c1 hm rfl sh_173 rfl ?_
   refine jx_load c1 hm rfl rfl rfl rfl ?_
   obtain ⟨z35, k36, lz35, uz35⟩ := hH31.ld (c := 176) (i := ((6 * z15 + z32 + 17)).toNat) (A := (-1)) (B := 20) (bs_12_4 _ _ (by omega) (by omega))
   refine jx_iald c1 hm rfl sh_176 ⟨by omega, by omega⟩ k36 ?_
   refine jy_ic c1 hm rfl (by decide) ?_
   refine jc_eq c1 hm 75 rfl rfl (fun h37 => ?_) (fun h37 => ?_)
   ·
    refine jx_load c1 hm rfl rfl rfl rfl ?_
    obtain ⟨z38, k39, lz38, uz38⟩ := hH31.ld (c := 173) (i := 5) (A := 0) (B := 940) (bs_28_3 _ _ (by omega) (by omega))
    refine jv_v c3 hm rfl pj_X12_go rfl rfl ⟨_, _, _, rfl, sh_173⟩ rfl ((ct_X12_go_173p X (by omega) M31 hH31 ).le (by decide)) (fun M42 ⟨hH42, hR42, p40, p41⟩ => ?_)
    have hF42 := hF31.tr hR42 (by decide +kernel)
    refine jx_load c1 hm rfl rfl rfl rfl ?_
    refine jx_load c1 hm rfl rfl rfl rfl ?_
    refine jx_load c1 hm rfl rfl rfl rfl ?_
    refine jy_ic c1 hm rfl (by decide) ?_
    refine jy_bp c1 hm rfl (by decide) ?_
    refine jv_i c3 hm rfl pj_X12_readNumber rfl rfl ⟨_, _, _, rfl, sh_173⟩ rfl ((ct_X12_readNumber_173k X (by omega) M42 hH42 0 ⟨by omega, by omega⟩ 20 ⟨by omega, by omega⟩).le (by decide)) (fun z43 M49 ⟨hH49, hR49, lz43, uz43, p44, p45, p46, p47, p48⟩ => ?_)
    have hF49 := hF42.tr hR49 (by decide +kernel)
    obtain ⟨z50, k51, lz50, uz50⟩ := hH49.ld (c := 173) (i := 13) (A := (-2147483648)) (B := 2147483647) (bs_28_7 _ _ (by omega) (by omega))
    refine jv_i c3 hm rfl pj_X12_put rfl rfl ⟨_, _, _, rfl, sh_173⟩ rfl ((ct_X12_put_173p X (by omega) M49 hH49 (6 * z15 + z32 + 17) ⟨by omega, by omega⟩ z43 ⟨by omega, by omega⟩ (by rw [show bnd X 176 ((6 * z15 + z32 + 17) : Int).toNat = ((-1), 20) from (bs_12_4 _ _ (by omega) (by omega))]; dsimp only; omega)).le (by decide)) (fun z52 M57 ⟨hH57, hR57, lz52, uz52, p53, p54, p55, p56⟩ => ?_)
    have hF57 := hF49.tr hR57 (by decide +kernel)
    exact jx_retz c2 hm rfl rfl ⟨by omega, by omega⟩ ⟨_, rfl, hH57, hF57, by omega, by omega, (fun t σ hσ hk => LRr.eq (NMR.ok (p10 t _ _ 0 (by decide) (RS.next hσ hk p3 hR5 p4 (by decide +kernel)) (by decide) k7.symm) (by omega)).2.1 (LRr.eq (NMR.ok (p27 t _ _ 1 (by decide) (RS.next (NMR.ok (p10 t _ (fun _ y => okS y) 0 (by decide) (RS.next hσ hk p3 hR5 p4 (by decide +kernel)) (by decide) k7.symm) (by omega)).1 (NMR.ok (p10 t _ (fun _ y => okS y) 0 (by decide) (RS.next hσ hk p3 hR5 p4 (by decide +kernel)) (by decide) k7.symm) (by omega)).2.2.2.2 p20 hR22 p21 (by decide +kernel)) (by decide) k24.symm) (by omega)).2.1 (LRr.eq (if_neg (by have b1 := (NMR.ok (p10 t _ (fun _ y => okS y) 0 (by decide) (RS.next hσ hk p3 hR5 p4 (by decide +kernel)) (by decide) k7.symm) (by omega)).2.2; have b2 := (NMR.ok (p27 t _ (fun _ y => okS y) 1 (by decide) (RS.next (NMR.ok (p10 t _ (fun _ y => okS y) 0 (by decide) (RS.next hσ hk p3 hR5 p4 (by decide +kernel)) (by decide) k7.symm) (by omega)).1 (NMR.ok (p10 t _ (fun _ y => okS y) 0 (by decide) (RS.next hσ hk p3 hR5 p4 (by decide +kernel)) (by decide) k7.symm) (by omega)).2.2.2.2 p20 hR22 p21 (by decide +kernel)) (by decide) k24.symm) (by omega)).2.2; have y9 := rfl_m (NMR.ok (p27 t _ (fun _ y => okS y) 1 (by decide) (RS.next (NMR.ok (p10 t _ (fun _ y => okS y) 0 (by decide) (RS.next hσ hk p3 hR5 p4 (by decide +kernel)) (by decide) k7.symm) (by omega)).1 (NMR.ok (p10 t _ (fun _ y => okS y) 0 (by decide) (RS.next hσ hk p3 hR5 p4 (by decide +kernel)) (by decide) k7.symm) (by omega)).2.2.2.2 p20 hR22 p21 (by decide +kernel)) (by decide) k24.symm) (by omega)).1 (x := 6 * M14.1 173 13 + M31.1 173 13) (y := (6 * z15 + z32 + 17)) ⟨by omega, by omega⟩ (by omega); exact fun e => e (y9.mp (by omega)))) (rset_fin (p45 t _ (RS.next (NMR.ok (p27 t _ (fun _ y => okS y) 1 (by decide) (RS.next (NMR.ok (p10 t _ (fun _ y => okS y) 0 (by decide) (RS.next hσ hk p3 hR5 p4 (by decide +kernel)) (by decide) k7.symm) (by omega)).1 (NMR.ok (p10 t _ (fun _ y => okS y) 0 (by decide) (RS.next hσ hk p3 hR5 p4 (by decide +kernel)) (by decide) k7.symm) (by omega)).2.2.2.2 p20 hR22 p21 (by decide +kernel)) (by decide) k24.symm) (by omega)).1 (NMR.ok (p27 t _ (fun _ y => okS y) 1 (by decide) (RS.next (NMR.ok (p10 t _ (fun _ y => okS y) 0 (by decide) (RS.next hσ hk p3 hR5 p4 (by decide +kernel)) (by decide) k7.symm) (by omega)).1 (NMR.ok (p10 t _ (fun _ y => okS y) 0 (by decide) (RS.next hσ hk p3 hR5 p4 (by decide +kernel)) (by decide) k7.symm) (by omega)).2.2.2.2 p20 hR22 p21 (by decide +kernel)) (by decide) k24.symm) (by omega)).2.2.2.2 p40 hR42 p41 (by decide +kernel))) p53 p54 (fun c i => p56 c i rfl) (fun y => by have b1 := (NMR.ok (p10 t _ (fun _ y => okS y) 0 (by decide) (RS.next hσ hk p3 hR5 p4 (by decide +kernel)) (by decide) k7.symm) (by omega)).2.2; have b2 := (NMR.ok (p27 t _ (fun _ y => okS y) 1 (by decide) (RS.next (NMR.ok (p10 t _ (fun _ y => okS y) 0 (by decide) (RS.next hσ hk p3 hR5 p4 (by decide +kernel)) (by decide) k7.symm) (by omega)).1 (NMR.ok (p10 t _ (fun _ y => okS y) 0 (by decide) (RS.next hσ hk p3 hR5 p4 (by decide +kernel)) (by decide) k7.symm) (by omega)).2.2.2.2 p20 hR22 p21 (by decide +kernel)) (by decide) k24.symm) (by omega)).2.2; exact Or.inl ⟨by omega, by omega, by omega, by omega⟩))))), ((((((((LFr.rf _ _).tr p4 (by decide +kernel)).tr p11 (by decide +kernel)).tr p21 (by decide +kernel)).tr p28 (by decide +kernel)).tr p41 (by decide +kernel)).tr p46 (by decide +kernel)).tr p56 (by decide +kernel)), (fun t σ hσ hk => KCr.eq (NMR.ko (fun g => (p10 t _ g 0 (by decide) (RS.next hσ hk p3 hR5 p4 (by decide +kernel)) (by decide) k7.symm)) (by omega) _) (KCr.eq (NMR.ko (fun g => (p27 t _ g 1 (by decide) (RS.next (NMR.ok (p10 t _ (fun _ y => okS y) 0 (by decide) (RS.next hσ hk p3 hR5 p4 (by decide +kernel)) (by decide) k7.symm) (by omega)).1 (NMR.ok (p10 t _ (fun _ y => okS y) 0 (by decide) (RS.next hσ hk p3 hR5 p4 (by decide +kernel)) (by decide) k7.symm) (by omega)).2.2.2.2 p20 hR22 p21 (by decide +kernel)) (by decide) k24.symm)) (by omega) _) (KCr.eq (if_neg (by have b1 := (NMR.ok (p10 t _ (fun _ y => okS y) 0 (by decide) (RS.next hσ hk p3 hR5 p4 (by decide +kernel)) (by decide) k7.symm) (by omega)).2.2; have b2 := (NMR.ok (p27 t _ (fun _ y => okS y) 1 (by decide) (RS.next (NMR.ok (p10 t _ (fun _ y => okS y) 0 (by decide) (RS.next hσ hk p3 hR5 p4 (by decide +kernel)) (by decide) k7.symm) (by omega)).1 (NMR.ok (p10 t _ (fun _ y => okS y) 0 (by decide) (RS.next hσ hk p3 hR5 p4 (by decide +kernel)) (by decide) k7.symm) (by omega)).2.2.2.2 p20 hR22 p21 (by decide +kernel)) (by decide) k24.symm) (by omega)).2.2; have y9 := rfl_m (NMR.ok (p27 t _ (fun _ y => okS y) 1 (by decide) (RS.next (NMR.ok (p10 t _ (fun _ y => okS y) 0 (by decide) (RS.next hσ hk p3 hR5 p4 (by decide +kernel)) (by decide) k7.symm) (by omega)).1 (NMR.ok (p10 t _ (fun _ y => okS y) 0 (by decide) (RS.next hσ hk p3 hR5 p4 (by decide +kernel)) (by decide) k7.symm) (by omega)).2.2.2.2 p20 hR22 p21 (by decide +kernel)) (by decide) k24.symm) (by omega)).1 (x := 6 * M14.1 173 13 + M31.1 173 13) (y := (6 * z15 + z32 + 17)) ⟨by omega, by omega⟩ (by omega); exact fun e => e (y9.mp (by omega)))) (KCr.cg (p47 t _ (RS.next (NMR.ok (p27 t _ (fun _ y => okS y) 1 (by decide) (RS.next (NMR.ok (p10 t _ (fun _ y => okS y) 0 (by decide) (RS.next hσ hk p3 hR5 p4 (by decide +kernel)) (by decide) k7.symm) (by omega)).1 (NMR.ok (p10 t _ (fun _ y => okS y) 0 (by decide) (RS.next hσ hk p3 hR5 p4 (by decide +kernel)) (by decide) k7.symm) (by omega)).2.2.2.2 p20 hR22 p21 (by decide +kernel)) (by decide) k24.symm) (by omega)).1 (NMR.ok (p27 t _ (fun _ y => okS y) 1 (by decide) (RS.next (NMR.ok (p10 t _ (fun _ y => okS y) 0 (by decide) (RS.next hσ hk p3 hR5 p4 (by decide +kernel)) (by decide) k7.symm) (by omega)).1 (NMR.ok (p10 t _ (fun _ y => okS y) 0 (by decide) (RS.next hσ hk p3 hR5 p4 (by decide +kernel)) (by decide) k7.symm) (by omega)).2.2.2.2 p20 hR22 p21 (by decide +kernel)) (by decide) k24.symm) (by omega)).2.2.2.2 p40 hR42 p41 (by decide +kernel))) p53 (hR57 173 10 rfl))))), (FEr.pu p48 (((((hR42 173 10 rfl).trans (p30.e (by omega))).trans (hR22 173 10 rfl)).trans (p13.e (by omega))).trans (hR5 173 10 rfl)) (hR57 173 10 rfl) p53)⟩
   refine jx_load c1 hm rfl rfl rfl rfl ?_
   refine jy_ic c1 hm rfl (by decide) ?_
   obtain ⟨z58, k59, lz58, uz58⟩ := hH31.ld (c := 173) (i := 6) (A := 0) (B := 940) (bs_28_3 _ _ (by omega) (by omega))
   obtain ⟨z60, k61, lz60, uz60⟩ := hH31.ld (c := 173) (i := 7) (A := 0) (B := 4) (bs_28_4 _ _ (by omega) (by omega))
   refine jv_i c3 hm rfl pj_X12_bad rfl rfl ⟨_, _, _, rfl, sh_173⟩ rfl ((ct_X12_bad_173q X (by omega) M31 hH31 3 ⟨by omega, by omega⟩).le (by decide)) (fun z62 M68 ⟨hH68, hR68, lz62, uz62, p63, p64, p65, p66, p67⟩ => ?_)
   have hF68 := hF31.tr hR68 (by decide +kernel)
   obtain ⟨z69, k70, lz69, uz69⟩ := hH68.ld (c := 173) (i := 11) (A := 0) (B := 940) (bs_28_6 _ _ (by omega) (by omega))
   obtain ⟨z71, k72, lz71, uz71⟩ := hH68.ld (c := 173) (i := 10) (A := (-2147483648)) (B := 2147483647) (bs_28_5 _ _ (by omega) (by omega))
   exact jx_retz c2 hm rfl rfl ⟨by omega, by omega⟩ ⟨_, rfl, hH68, hF68, by omega, by omega, (fun t σ hσ hk => LRr.eq (NMR.ok (p10 t _ _ 0 (by decide) (RS.next hσ hk p3 hR5 p4 (by decide +kernel)) (by decide) k7.symm) (by omega)).2.1 (LRr.eq (NMR.ok (p27 t _ _ 1 (by decide) (RS.next (NMR.ok (p10 t _ (fun _ y => okS y) 0 (by decide) (RS.next hσ hk p3 hR5 p4 (by decide +kernel)) (by decide) k7.symm) (by omega)).1 (NMR.ok (p10 t _ (fun _ y => okS y) 0 (by decide) (RS.next hσ hk p3 hR5 p4 (by decide +kernel)) (by decide) k7.symm) (by omega)).2.2.2.2 p20 hR22 p21 (by decide +kernel)) (by decide) k24.symm) (by omega)).2.1 (LRr.eq (if_pos (by have b1 := (NMR.ok (p10 t _ (fun _ y => okS y) 0 (by decide) (RS.next hσ hk p3 hR5 p4 (by decide +kernel)) (by decide) k7.symm) (by omega)).2.2; have b2 := (NMR.ok (p27 t _ (fun _ y => okS y) 1 (by decide) (RS.next (NMR.ok (p10 t _ (fun _ y => okS y) 0 (by decide) (RS.next hσ hk p3 hR5 p4 (by decide +kernel)) (by decide) k7.symm) (by omega)).1 (NMR.ok (p10 t _ (fun _ y => okS y) 0 (by decide) (RS.next hσ hk p3 hR5 p4 (by decide +kernel)) (by decide) k7.symm) (by omega)).2.2.2.2 p20 hR22 p21 (by decide +kernel)) (by decide) k24.symm) (by omega)).2.2; have y9 := rfl_m (NMR.ok (p27 t _ (fun _ y => okS y) 1 (by decide) (RS.next (NMR.ok (p10 t _ (fun _ y => okS y) 0 (by decide) (RS.next hσ hk p3 hR5 p4 (by decide +kernel)) (by decide) k7.symm) (by omega)).1 (NMR.ok (p10 t _ (fun _ y => okS y) 0 (by decide) (RS.next hσ hk p3 hR5 p4 (by decide +kernel)) (by decide) k7.symm) (by omega)).2.2.2.2 p20 hR22 p21 (by decide +kernel)) (by decide) k24.symm) (by omega)).1 (x := 6 * M14.1 173 13 + M31.1 173 13) (y := (6 * z15 + z32 + 17)) ⟨by omega, by omega⟩ (by omega); exact fun e => absurd (y9.mpr e) (by omega))) (Or.inr ⟨tF_nn (NMR.ok (p27 t _ (fun _ y => okS y) 1 (by decide) (RS.next (NMR.ok (p10 t _ (fun _ y => okS y) 0 (by decide) (RS.next hσ hk p3 hR5 p4 (by decide +kernel)) (by decide) k7.symm) (by omega)).1 (NMR.ok (p10 t _ (fun _ y => okS y) 0 (by decide) (RS.next hσ hk p3 hR5 p4 (by decide +kernel)) (by decide) k7.symm) (by omega)).2.2.2.2 p20 hR22 p21 (by decide +kernel)) (by decide) k24.symm) (by omega)).1.2.2, by omega, (show _ = kF t _ from (p64).trans (NMR.ok (p27 t _ (fun _ y => okS y) 1 (by decide) (RS.next (NMR.ok (p10 t _ (fun _ y => okS y) 0 (by decide) (RS.next hσ hk p3 hR5 p4 (by decide +kernel)) (by decide) k7.symm) (by omega)).1 (NMR.ok (p10 t _ (fun _ y => okS y) 0 (by decide) (RS.next hσ hk p3 hR5 p4 (by decide +kernel)) (by decide) k7.symm) (by omega)).2.2.2.2 p20 hR22 p21 (by decide +kernel)) (by decide) k24.symm) (by omega)).1.start)⟩)))), ((((((LFr.rf _ _).tr p4 (by decide +kernel)).tr p11 (by decide +kernel)).tr p21 (by decide +kernel)).tr p28 (by decide +kernel)).tr p67 (by decide +kernel)), (fun t σ hσ hk => KCr.eq (NMR.ko (fun g => (p10 t _ g 0 (by decide) (RS.next hσ hk p3 hR5 p4 (by decide +kernel)) (by decide) k7.symm)) (by omega) _) (KCr.eq (NMR.ko (fun g => (p27 t _ g 1 (by decide) (RS.next (NMR.ok (p10 t _ (fun _ y => okS y) 0 (by decide) (RS.next hσ hk p3 hR5 p4 (by decide +kernel)) (by decide) k7.symm) (by omega)).1 (NMR.ok (p10 t _ (fun _ y => okS y) 0 (by decide) (RS.next hσ hk p3 hR5 p4 (by decide +kernel)) (by decide) k7.symm) (by omega)).2.2.2.2 p20 hR22 p21 (by decide +kernel)) (by decide) k24.symm)) (by omega) _) (KCr.eq (if_pos (by have b1 := (NMR.ok (p10 t _ (fun _ y => okS y) 0 (by decide) (RS.next hσ hk p3 hR5 p4 (by decide +kernel)) (by decide) k7.symm) (by omega)).2.2; have b2 := (NMR.ok (p27 t _ (fun _ y => okS y) 1 (by decide) (RS.next (NMR.ok (p10 t _ (fun _ y => okS y) 0 (by decide) (RS.next hσ hk p3 hR5 p4 (by decide +kernel)) (by decide) k7.symm) (by omega)).1 (NMR.ok (p10 t _ (fun _ y => okS y) 0 (by decide) (RS.next hσ hk p3 hR5 p4 (by decide +kernel)) (by decide) k7.symm) (by omega)).2.2.2.2 p20 hR22 p21 (by decide +kernel)) (by decide) k24.symm) (by omega)).2.2; have y9 := rfl_m (NMR.ok (p27 t _ (fun _ y => okS y) 1 (by decide) (RS.next (NMR.ok (p10 t _ (fun _ y => okS y) 0 (by decide) (RS.next hσ hk p3 hR5 p4 (by decide +kernel)) (by decide) k7.symm) (by omega)).1 (NMR.ok (p10 t _ (fun _ y => okS y) 0 (by decide) (RS.next hσ hk p3 hR5 p4 (by decide +kernel)) (by decide) k7.symm) (by omega)).2.2.2.2 p20 hR22 p21 (by decide +kernel)) (by decide) k24.symm) (by omega)).1 (x := 6 * M14.1 173 13 + M31.1 173 13) (y := (6 * z15 + z32 + 17)) ⟨by omega, by omega⟩ (by omega); exact fun e => absurd (y9.mpr e) (by omega))) (KCr.of (by have y9 := (NMR.ok (p27 t _ (fun _ y => okS y) 1 (by decide) (RS.next (NMR.ok (p10 t _ (fun _ y => okS y) 0 (by decide) (RS.next hσ hk p3 hR5 p4 (by decide +kernel)) (by decide) k7.symm) (by omega)).1 (NMR.ok (p10 t _ (fun _ y => okS y) 0 (by decide) (RS.next hσ hk p3 hR5 p4 (by decide +kernel)) (by decide) k7.symm) (by omega)).2.2.2.2 p20 hR22 p21 (by decide +kernel)) (by decide) k24.symm) (by omega)).1.kind; have y8 := (NMR.ok (p27 t _ (fun _ y => okS y) 1 (by decide) (RS.next (NMR.ok (p10 t _ (fun _ y => okS y) 0 (by decide) (RS.next hσ hk p3 hR5 p4 (by decide +kernel)) (by decide) k7.symm) (by omega)).1 (NMR.ok (p10 t _ (fun _ y => okS y) 0 (by decide) (RS.next hσ hk p3 hR5 p4 (by decide +kernel)) (by decide) k7.symm) (by omega)).2.2.2.2 p20 hR22 p21 (by decide +kernel)) (by decide) k24.symm) (by omega)).2.2.2.2; omega))))), (FEr.no (by omega))⟩
  refine jy_ic c1 hm rfl (by decide) ?_
  exact jx_retz c2 hm rfl rfl ⟨by omega, by omega⟩ ⟨_, rfl, hH31, hF31, by omega, by omega, (fun t σ hσ hk => LRr.eq (NMR.ok (p10 t _ _ 0 (by decide) (RS.next hσ hk p3 hR5 p4 (by decide +kernel)) (by decide) k7.symm) (by omega)).2.1 (NMR.bad (p27 t _ _ 1 (by decide) (RS.next (NMR.ok (p10 t _ (fun _ y => okS y) 0 (by decide) (RS.next hσ hk p3 hR5 p4 (by decide +kernel)) (by decide) k7.symm) (by omega)).1 (NMR.ok (p10 t _ (fun _ y => okS y) 0 (by decide) (RS.next hσ hk p3 hR5 p4 (by decide +kernel)) (by decide) k7.symm) (by omega)).2.2.2.2 p20 hR22 p21 (by decide +kernel)) (by decide) k24.symm) (by omega))), (((((LFr.rf _ _).tr p4 (by decide +kernel)).tr p11 (by decide +kernel)).tr p21 (by decide +kernel)).tr p28 (by decide +kernel)), (fun t σ hσ hk => KCr.eq (NMR.ko (fun g => (p10 t _ g 0 (by decide) (RS.next hσ hk p3 hR5 p4 (by decide +kernel)) (by decide) k7.symm)) (by omega) _) (KCr.eq (NMR.kb (p27 t _ (fun _ y => okS y) 1 (by decide) (RS.next (NMR.ok (p10 t _ (fun _ y => okS y) 0 (by decide) (RS.next hσ hk p3 hR5 p4 (by decide +kernel)) (by decide) k7.symm) (by omega)).1 (NMR.ok (p10 t _ (fun _ y => okS y) 0 (by decide) (RS.next hσ hk p3 hR5 p4 (by decide +kernel)) (by decide) k7.symm) (by omega)).2.2.2.2 p20 hR22 p21 (by decide +kernel)) (by decide) k24.symm) (by omega) _) ((p29 t _ (RS.next (NMR.ok (p10 t _ (fun _ y => okS y) 0 (by decide) (RS.next hσ hk p3 hR5 p4 (by decide +kernel)) (by decide) k7.symm) (by omega)).1 (NMR.ok (p10 t _ (fun _ y => okS y) 0 (by decide) (RS.next hσ hk p3 hR5 p4 (by decide +kernel)) (by decide) k7.symm) (by omega)).2.2.2.2 p20 hR22 p21 (by decide +kernel))).vc (by omega)))), (FEr.no (by omega))⟩
 refine jy_ic c1 hm rfl (by decide) ?_
 exact jx_retz c2 hm rfl rfl ⟨by omega, by omega⟩ ⟨_, rfl, hH14, hF14, by omega, by omega, (fun t σ hσ hk => NMR.bad (p10 t _ _ 0 (by decide) (RS.next hσ hk p3 hR5 p4 (by decide +kernel)) (by decide) k7.symm) (by omega)), (((LFr.rf _ _).tr p4 (by decide +kernel)).tr p11 (by decide +kernel)), (fun t σ hσ hk => KCr.eq (NMR.kb (p10 t _ (fun _ y => okS y) 0 (by decide) (RS.next hσ hk p3 hR5 p4 (by decide +kernel)) (by decide) k7.symm) (by omega) _) ((p12 t _ (RS.next hσ hk p3 hR5 p4 (by decide +kernel))).vc (by omega))), (FEr.no (by omega))⟩
def md_X12_readForfeit_173k : List (Nat × (Nat × Nat)) := [(173, (5, 5)), (173, (6, 6)), (173, (7, 7)), (173, (8, 8)), (173, (9, 9)), (173, (10, 10)), (173, (11, 11)), (173, (13, 13)), (176, (1, 1)), (176, (3, 100))]
theorem ct_X12_readForfeit_173k (X : Int) (hX : 0 ≤ X ∧ X ≤ 100000000) (M0 : JM) (hH0 : HI X M0)  : JOk shp PJ 5 159 [.inr (.inr (.inl 173))] M0 (jRi (fun v M' => HI X M' ∧ Fr md_X12_readForfeit_173k M0 M' ∧ 0 ≤ v ∧ v ≤ 1 ∧ (∀ (t : TXT) (σ : PSt), RS M0 t σ → 2 ≤ kK t σ → LRr t (forS t σ) v M') ∧ (LFr ml_X12_readForfeit_173p M0 M') ∧ (∀ (t : TXT) (σ : PSt), RS M0 t σ → 2 ≤ kK t σ → KCr (forK t σ) v M') ∧ (FEr v M0 M'))) := by
 refine ⟨jr_X12_readForfeit, pj_X12_readForfeit, fun F c1 c2 c3 => ?_⟩
 have hm := pj_X12_readForfeit
 change F 0 [some (.inr (.inr (.inl 173))), none] [] M0
 have hF0 : Fr md_X12_readForfeit_173k M0 M0 := Fr.rf _ _
 refine jx_load c1 hm rfl rfl rfl rfl ?_
 refine jy_ic c1 hm rfl (by decide) ?_
 refine jy_bp c1 hm rfl (by decide) ?_
 obtain ⟨z1, k2, lz1, uz1⟩ := hH0.ld (c := 176) (i := 2) (A := 0) (B := 6) (bs_12_0 _ _ (by omega) (by omega))
 obtain ⟨z3, k4, lz3, uz3⟩ := hH0.ld (c := 176) (i := 0) (A := 0) (B := 6) (bs_12_0 _ _ (by omega) (by omega))
 obtain ⟨z5, k6, lz5, uz5⟩ := hH0.ld (c := 176) (i := 1) (A := 0) (B := 6) (bs_12_0 _ _ (by omega) (by omega))
 refine jv_i c3 hm rfl pj_X12_readFirst rfl rfl ⟨_, _, _, rfl, sh_173⟩ rfl ((ct_X12_readFirst_173k X (by omega) M0 hH0 1 ⟨by omega, by omega⟩ 6 ⟨by omega, by omega⟩).le (by decide)) (fun z7 M15 ⟨hH15, hR15, lz7, uz7, p8, p9, p10, p11, p12, p13, p14⟩ => ?_)
 have hF15 := hF0.tr hR15 (by decide +kernel)
 refine jz_ne c1 hm 12 rfl rfl (fun h16 => ?_) (fun h16 => ?_)
 ·
  refine jx_load c1 hm rfl rfl rfl rfl ?_
  refine jx_getr c1 hm rfl sh_173 rfl ?_
  refine jy_ic c1 hm rfl (by decide) ?_
  have k17 : M15.1 176 1 = z5 := (hR15 176 1 (by decide +kernel)).trans k6
  refine jx_iald c1 hm rfl sh_176 ⟨by omega, by omega⟩ k17 ?_
  refine jx_stor c1 hm (L' := [some (.inr (.inr (.inl 173))), some (.inl z5)]) rfl rfl rfl rfl rfl ?_
  refine jx_load c1 hm rfl rfl rfl rfl ?_
  refine jy_bp c1 hm rfl (by decide) ?_
  refine jx_load c1 hm rfl rfl rfl rfl ?_
  refine jy_add c1 hm (z5 + 6) rfl (by omega) ?_
  skip
  refine jv_i c3 hm rfl pj_X12_readNew rfl rfl ⟨_, _, _, rfl, sh_173⟩ rfl ((ct_X12_readNew_173k X (by omega) M15 hH15 (z5 + 6) ⟨by omega, by omega⟩).le (by decide)) (fun z18 M24 ⟨hH24, hR24, lz18, uz18, p19, p20, p21, p22, p23⟩ => ?_)
  have hF24 := hF15.tr hR24 (by decide +kernel)
  refine jz_eq c1 hm 48 rfl rfl (fun h25 => ?_) (fun h25 => ?_)
  ·
   refine jy_ic c1 hm rfl (by decide) ?_
   exact jx_retz c2 hm rfl rfl ⟨by omega, by omega⟩ ⟨_, rfl, hH24, hF24, by omega, by omega, (fun t σ hσ hk => LRr.seqg (p11 t σ hσ hk) (by omega) (fun l1 h1 => LRr.seqz (p19 t _ 1 (by decide) h1 (by rw [(fst_lt hσ.2.2 l1).1]; exact (fst_lt hσ.2.2 l1).2) (by have y9 := h1.2.1.1 1 (by decide); omega)) (by omega))), (((LFr.rf _ _).tr p12 (by decide +kernel)).tr p21 (by decide +kernel)), (fun t σ hσ hk => KCr.seqg (p11 t σ hσ hk) (by omega) (fun l1 h1 => KCr.seqz (p19 t _ 1 (by decide) h1 (by rw [(fst_lt hσ.2.2 l1).1]; exact (fst_lt hσ.2.2 l1).2) (by have y9 := h1.2.1.1 1 (by decide); omega)) (p22 t _ h1) (by omega))), (FEr.no (by omega))⟩
  refine jx_load c1 hm rfl rfl rfl rfl ?_
  refine jy_bp c1 hm rfl (by decide) ?_
  refine jx_load c1 hm rfl rfl rfl rfl ?_
  refine jy_add c1 hm (z5 + 11) rfl (by omega) ?_
  refine jx_load c1 hm rfl rfl rfl rfl ?_
  refine jy_ic c1 hm rfl (by decide) ?_
  refine jy_bp c1 hm rfl (by decide) ?_
  refine jv_i c3 hm rfl pj_X12_readNumber rfl rfl ⟨_, _, _, rfl, sh_173⟩ rfl ((ct_X12_readNumber_173k X (by omega) M24 hH24 0 ⟨by omega, by omega⟩ 20 ⟨by omega, by omega⟩).le (by decide)) (fun z26 M32 ⟨hH32, hR32, lz26, uz26, p27, p28, p29, p30, p31⟩ => ?_)
  have hF32 := hF24.tr hR32 (by decide +kernel)
  obtain ⟨z33, k34, lz33, uz33⟩ := hH32.ld (c := 173) (i := 13) (A := (-2147483648)) (B := 2147483647) (bs_28_7 _ _ (by omega) (by omega))
  refine jv_i c3 hm rfl pj_X12_put rfl rfl ⟨_, _, _, rfl, sh_173⟩ rfl ((ct_X12_put_173p X (by omega) M32 hH32 (z5 + 11) ⟨by omega, by omega⟩ z26 ⟨by omega, by omega⟩ (by rw [show bnd X 176 ((z5 + 11) : Int).toNat = (0, 20) from (bs_12_3 _ _ (by omega) (by omega))]; dsimp only; omega)).le (by decide)) (fun z35 M40 ⟨hH40, hR40, lz35, uz35, p36, p37, p38, p39⟩ => ?_)
  have hF40 := hF32.tr hR40 (by decide +kernel)
  refine jz_ne c1 hm 50 rfl rfl (fun h41 => ?_) (fun h41 => ?_)
  ·
   refine jx_load c1 hm rfl rfl rfl rfl ?_
   refine jx_getr c1 hm rfl sh_173 rfl ?_
   refine jy_ic c1 hm rfl (by decide) ?_
   refine jx_dup2 c1 hm rfl rfl rfl ?_
   have k42 : M40.1 176 1 = z5 := (hR40 176 1 (by decide +kernel)).trans ((hR32 176 1 (by decide +kernel)).trans ((hR24 176 1 (by decide +kernel)).trans k17))
   refine jx_iald c1 hm rfl sh_176 ⟨by omega, by omega⟩ k42 ?_
   refine jy_ic c1 hm rfl (by decide) ?_
   refine jy_add c1 hm (z5 + 1) rfl (by omega) ?_
   obtain ⟨M43, e43, hH43, hF43, k43, n43, q43⟩ := mup hH40 hF40 (c := 176) (i := 1) (v := (z5 + 1)) (A := 0) (B := 6) (bs_12_0 _ _ (by omega) (by omega)) ⟨by omega, by omega⟩ (jin_of 8 rfl ⟨by omega, by omega⟩)
   refine jm_iast c1 hm rfl sh_176 ⟨by omega, by omega⟩ e43 ?_
   refine jy_ic c1 hm rfl (by decide) ?_
   exact jx_retz c2 hm rfl rfl ⟨by omega, by omega⟩ ⟨_, rfl, hH43, hF43, by omega, by omega, (fun t σ hσ hk => LRr.seqg (p11 t σ hσ hk) (by omega) (fun l1 h1 => LRr.seqg (p19 t _ 1 (by decide) h1 (by rw [(fst_lt hσ.2.2 l1).1]; exact (fst_lt hσ.2.2 l1).2) (by have y9 := h1.2.1.1 1 (by decide); omega)) (by omega) (fun l2 h2 => LRr.seqg (LRr.put (p28 t _ h2) p37 (fun c i => p39 c i rfl) (by omega) p36) (by omega) (fun l3 h3 => LRr.o (radd_fin (s := 1) (j := (z5 + 6)) (by decide) h1 (by rw [(fst_lt hσ.2.2 l1).1]; exact (fst_lt hσ.2.2 l1).2) (p20 t _ h1 (by omega)).1 (p20 t _ h1 (by omega)).2.1 l2 (num_e3 h2.2.2 l3) h3 (by have y9 := h1.2.1.1 1 (by decide); omega) ((congrArg Int64.toInt ((p39 181 ((z5 + 6)).toNat rfl).trans (p29 181 ((z5 + 6)).toNat rfl))).trans (p20 t _ h1 (by omega)).2.2) (by omega) n43 q43) (show (-1 : Int) < 0 by decide))))), ((((((LFr.rf _ _).tr p12 (by decide +kernel)).tr p21 (by decide +kernel)).tr p29 (by decide +kernel)).tr p39 (by decide +kernel)).eq q43), (fun t σ hσ hk => KCr.y (by omega)), (FEr.ok (((((n43 173 10 (fun h => absurd h.1 (by decide))).trans (hR40 173 10 rfl)).trans (p31.e (by omega))).trans (p23.e (by omega))).trans (p14.e (by omega))))⟩
  refine jy_ic c1 hm rfl (by decide) ?_
  exact jx_retz c2 hm rfl rfl ⟨by omega, by omega⟩ ⟨_, rfl, hH40, hF40, by omega, by omega, (fun t σ hσ hk => LRr.seqg (p11 t σ hσ hk) (by omega) (fun l1 h1 => LRr.seqg (p19 t _ 1 (by decide) h1 (by rw [(fst_lt hσ.2.2 l1).1]; exact (fst_lt hσ.2.2 l1).2) (by have y9 := h1.2.1.1 1 (by decide); omega)) (by omega) (fun l2 h2 => LRr.seqz (LRr.put (p28 t _ h2) p37 (fun c i => p39 c i rfl) (by omega) p36) (by omega)))), (((((LFr.rf _ _).tr p12 (by decide +kernel)).tr p21 (by decide +kernel)).tr p29 (by decide +kernel)).tr p39 (by decide +kernel)), (fun t σ hσ hk => KCr.seqg (p11 t σ hσ hk) (by omega) (fun l1 h1 => KCr.seqg (p19 t _ 1 (by decide) h1 (by rw [(fst_lt hσ.2.2 l1).1]; exact (fst_lt hσ.2.2 l1).2) (by have y9 := h1.2.1.1 1 (by decide); omega)) (by omega) (fun l2 h2 => (KCr.cg (p30 t _ h2) p36 (hR40 173 10 rfl)).vc (by omega)))), (FEr.no (by omega))⟩
 refine jy_ic c1 hm rfl (by decide) ?_
 exact jx_retz c2 hm rfl rfl ⟨by omega, by omega⟩ ⟨_, rfl, hH15, hF15, by omega, by omega, (fun t σ hσ hk => LRr.seqz (p11 t σ hσ hk) (by omega)), ((LFr.rf _ _).tr p12 (by decide +kernel)), (fun t σ hσ hk => KCr.seqz (p11 t σ hσ hk) (p13 t σ hσ hk) (by omega)), (FEr.no (by omega))⟩
def md_X12_readMan_173k : List (Nat × (Nat × Nat)) := [(173, (5, 5)), (173, (6, 6)), (173, (7, 7)), (173, (8, 8)), (173, (9, 9)), (173, (10, 10)), (173, (11, 11)), (173, (13, 13)), (176, (0, 0)), (176, (3, 100))]
theorem ct_X12_readMan_173k (X : Int) (hX : 0 ≤ X ∧ X ≤ 100000000) (M0 : JM) (hH0 : HI X M0)  : JOk shp PJ 5 162 [.inr (.inr (.inl 173))] M0 (jRi (fun v M' => HI X M' ∧ Fr md_X12_readMan_173k M0 M' ∧ 0 ≤ v ∧ v ≤ 1 ∧ (∀ (t : TXT) (σ : PSt), RS M0 t σ → 2 ≤ kK t σ → LRr t (manS t σ) v M') ∧ (LFr ml_X12_readMan_173p M0 M') ∧ (∀ (t : TXT) (σ : PSt), RS M0 t σ → 2 ≤ kK t σ → KCr (manK t σ) v M') ∧ (FEr v M0 M'))) := by
 refine ⟨jr_X12_readMan, pj_X12_readMan, fun F c1 c2 c3 => ?_⟩
 have hm := pj_X12_readMan
 change F 0 [some (.inr (.inr (.inl 173))), none] [] M0
 have hF0 : Fr md_X12_readMan_173k M0 M0 := Fr.rf _ _
 refine jx_load c1 hm rfl rfl rfl rfl ?_
 refine jy_ic c1 hm rfl (by decide) ?_
 refine jy_bp c1 hm rfl (by decide) ?_
 obtain ⟨z1, k2, lz1, uz1⟩ := hH0.ld (c := 176) (i := 2) (A := 0) (B := 6) (bs_12_0 _ _ (by omega) (by omega))
 obtain ⟨z3, k4, lz3, uz3⟩ := hH0.ld (c := 176) (i := 0) (A := 0) (B := 6) (bs_12_0 _ _ (by omega) (by omega))
 obtain ⟨z5, k6, lz5, uz5⟩ := hH0.ld (c := 176) (i := 1) (A := 0) (B := 6) (bs_12_0 _ _ (by omega) (by omega))
 refine jv_i c3 hm rfl pj_X12_readFirst rfl rfl ⟨_, _, _, rfl, sh_173⟩ rfl ((ct_X12_readFirst_173k X (by omega) M0 hH0 0 ⟨by omega, by omega⟩ 6 ⟨by omega, by omega⟩).le (by decide)) (fun z7 M15 ⟨hH15, hR15, lz7, uz7, p8, p9, p10, p11, p12, p13, p14⟩ => ?_)
 have hF15 := hF0.tr hR15 (by decide +kernel)
 refine jz_ne c1 hm 12 rfl rfl (fun h16 => ?_) (fun h16 => ?_)
 ·
  refine jx_load c1 hm rfl rfl rfl rfl ?_
  refine jx_getr c1 hm rfl sh_173 rfl ?_
  refine jy_ic c1 hm rfl (by decide) ?_
  have k17 : M15.1 176 0 = z3 := (hR15 176 0 (by decide +kernel)).trans k4
  refine jx_iald c1 hm rfl sh_176 ⟨by omega, by omega⟩ k17 ?_
  refine jx_stor c1 hm (L' := [some (.inr (.inr (.inl 173))), some (.inl z3)]) rfl rfl rfl rfl rfl ?_
  refine jx_load c1 hm rfl rfl rfl rfl ?_
  refine jx_load c1 hm rfl rfl rfl rfl ?_
  skip
  refine jv_i c3 hm rfl pj_X12_readNew rfl rfl ⟨_, _, _, rfl, sh_173⟩ rfl ((ct_X12_readNew_173k X (by omega) M15 hH15 z3 ⟨by omega, by omega⟩).le (by decide)) (fun z18 M24 ⟨hH24, hR24, lz18, uz18, p19, p20, p21, p22, p23⟩ => ?_)
  have hF24 := hF15.tr hR24 (by decide +kernel)
  refine jz_eq c1 hm 44 rfl rfl (fun h25 => ?_) (fun h25 => ?_)
  ·
   refine jy_ic c1 hm rfl (by decide) ?_
   exact jx_retz c2 hm rfl rfl ⟨by omega, by omega⟩ ⟨_, rfl, hH24, hF24, by omega, by omega, (fun t σ hσ hk => LRr.seqg (p11 t σ hσ hk) (by omega) (fun l1 h1 => LRr.seqz (p19 t _ 0 (by decide) h1 (by rw [(fst_lt hσ.2.2 l1).1]; exact (fst_lt hσ.2.2 l1).2) (by have y9 := h1.2.1.1 0 (by decide); omega)) (by omega))), (((LFr.rf _ _).tr p12 (by decide +kernel)).tr p21 (by decide +kernel)), (fun t σ hσ hk => KCr.seqg (p11 t σ hσ hk) (by omega) (fun l1 h1 => KCr.seqz (p19 t _ 0 (by decide) h1 (by rw [(fst_lt hσ.2.2 l1).1]; exact (fst_lt hσ.2.2 l1).2) (by have y9 := h1.2.1.1 0 (by decide); omega)) (p22 t _ h1) (by omega))), (FEr.no (by omega))⟩
  refine jx_load c1 hm rfl rfl rfl rfl ?_
  refine jy_ic c1 hm rfl (by decide) ?_
  refine jx_load c1 hm rfl rfl rfl rfl ?_
  refine jy_add c1 hm (z3 + 5) rfl (by omega) ?_
  refine jx_load c1 hm rfl rfl rfl rfl ?_
  refine jy_ic c1 hm rfl (by decide) ?_
  refine jy_bp c1 hm rfl (by decide) ?_
  refine jv_i c3 hm rfl pj_X12_readNumber rfl rfl ⟨_, _, _, rfl, sh_173⟩ rfl ((ct_X12_readNumber_173k X (by omega) M24 hH24 0 ⟨by omega, by omega⟩ 99 ⟨by omega, by omega⟩).le (by decide)) (fun z26 M32 ⟨hH32, hR32, lz26, uz26, p27, p28, p29, p30, p31⟩ => ?_)
  have hF32 := hF24.tr hR32 (by decide +kernel)
  obtain ⟨z33, k34, lz33, uz33⟩ := hH32.ld (c := 173) (i := 13) (A := (-2147483648)) (B := 2147483647) (bs_28_7 _ _ (by omega) (by omega))
  refine jv_i c3 hm rfl pj_X12_put rfl rfl ⟨_, _, _, rfl, sh_173⟩ rfl ((ct_X12_put_173p X (by omega) M32 hH32 (z3 + 5) ⟨by omega, by omega⟩ z26 ⟨by omega, by omega⟩ (by rw [show bnd X 176 ((z3 + 5) : Int).toNat = (0, 99) from (bs_12_2 _ _ (by omega) (by omega))]; dsimp only; omega)).le (by decide)) (fun z35 M40 ⟨hH40, hR40, lz35, uz35, p36, p37, p38, p39⟩ => ?_)
  have hF40 := hF32.tr hR40 (by decide +kernel)
  refine jz_ne c1 hm 46 rfl rfl (fun h41 => ?_) (fun h41 => ?_)
  ·
   refine jx_load c1 hm rfl rfl rfl rfl ?_
   refine jx_getr c1 hm rfl sh_173 rfl ?_
   refine jy_ic c1 hm rfl (by decide) ?_
   refine jx_dup2 c1 hm rfl rfl rfl ?_
   have k42 : M40.1 176 0 = z3 := (hR40 176 0 (by decide +kernel)).trans ((hR32 176 0 (by decide +kernel)).trans ((hR24 176 0 (by decide +kernel)).trans k17))
   refine jx_iald c1 hm rfl sh_176 ⟨by omega, by omega⟩ k42 ?_
   refine jy_ic c1 hm rfl (by decide) ?_
   refine jy_add c1 hm (z3 + 1) rfl (by omega) ?_
   obtain ⟨M43, e43, hH43, hF43, k43, n43, q43⟩ := mup hH40 hF40 (c := 176) (i := 0) (v := (z3 + 1)) (A := 0) (B := 6) (bs_12_0 _ _ (by omega) (by omega)) ⟨by omega, by omega⟩ (jin_of 8 rfl ⟨by omega, by omega⟩)
   refine jm_iast c1 hm rfl sh_176 ⟨by omega, by omega⟩ e43 ?_
   refine jy_ic c1 hm rfl (by decide) ?_
   exact jx_retz c2 hm rfl rfl ⟨by omega, by omega⟩ ⟨_, rfl, hH43, hF43, by omega, by omega, (fun t σ hσ hk => LRr.seqg (p11 t σ hσ hk) (by omega) (fun l1 h1 => LRr.seqg (p19 t _ 0 (by decide) h1 (by rw [(fst_lt hσ.2.2 l1).1]; exact (fst_lt hσ.2.2 l1).2) (by have y9 := h1.2.1.1 0 (by decide); omega)) (by omega) (fun l2 h2 => LRr.seqg (LRr.put (p28 t _ h2) p37 (fun c i => p39 c i rfl) (by omega) p36) (by omega) (fun l3 h3 => LRr.o (radd_fin (s := 0) (j := z3) (by decide) h1 (by rw [(fst_lt hσ.2.2 l1).1]; exact (fst_lt hσ.2.2 l1).2) (p20 t _ h1 (by omega)).1 (p20 t _ h1 (by omega)).2.1 l2 (num_e3 h2.2.2 l3) h3 (by have y9 := h1.2.1.1 0 (by decide); omega) ((congrArg Int64.toInt ((p39 181 (z3).toNat rfl).trans (p29 181 (z3).toNat rfl))).trans (p20 t _ h1 (by omega)).2.2) (by omega) n43 q43) (show (-1 : Int) < 0 by decide))))), ((((((LFr.rf _ _).tr p12 (by decide +kernel)).tr p21 (by decide +kernel)).tr p29 (by decide +kernel)).tr p39 (by decide +kernel)).eq q43), (fun t σ hσ hk => KCr.y (by omega)), (FEr.ok (((((n43 173 10 (fun h => absurd h.1 (by decide))).trans (hR40 173 10 rfl)).trans (p31.e (by omega))).trans (p23.e (by omega))).trans (p14.e (by omega))))⟩
  refine jy_ic c1 hm rfl (by decide) ?_
  exact jx_retz c2 hm rfl rfl ⟨by omega, by omega⟩ ⟨_, rfl, hH40, hF40, by omega, by omega, (fun t σ hσ hk => LRr.seqg (p11 t σ hσ hk) (by omega) (fun l1 h1 => LRr.seqg (p19 t _ 0 (by decide) h1 (by rw [(fst_lt hσ.2.2 l1).1]; exact (fst_lt hσ.2.2 l1).2) (by have y9 := h1.2.1.1 0 (by decide); omega)) (by omega) (fun l2 h2 => LRr.seqz (LRr.put (p28 t _ h2) p37 (fun c i => p39 c i rfl) (by omega) p36) (by omega)))), (((((LFr.rf _ _).tr p12 (by decide +kernel)).tr p21 (by decide +kernel)).tr p29 (by decide +kernel)).tr p39 (by decide +kernel)), (fun t σ hσ hk => KCr.seqg (p11 t σ hσ hk) (by omega) (fun l1 h1 => KCr.seqg (p19 t _ 0 (by decide) h1 (by rw [(fst_lt hσ.2.2 l1).1]; exact (fst_lt hσ.2.2 l1).2) (by have y9 := h1.2.1.1 0 (by decide); omega)) (by omega) (fun l2 h2 => (KCr.cg (p30 t _ h2) p36 (hR40 173 10 rfl)).vc (by omega)))), (FEr.no (by omega))⟩
 refine jy_ic c1 hm rfl (by decide) ?_
 exact jx_retz c2 hm rfl rfl ⟨by omega, by omega⟩ ⟨_, rfl, hH15, hF15, by omega, by omega, (fun t σ hσ hk => LRr.seqz (p11 t σ hσ hk) (by omega)), ((LFr.rf _ _).tr p12 (by decide +kernel)), (fun t σ hσ hk => KCr.seqz (p11 t σ hσ hk) (p13 t σ hσ hk) (by omega)), (FEr.no (by omega))⟩
def md_X12_readLine_173k : List (Nat × (Nat × Nat)) := [(173, (5, 5)), (173, (6, 6)), (173, (7, 7)), (173, (8, 8)), (173, (9, 9)), (173, (10, 10)), (173, (11, 11)), (173, (13, 13)), (173, (24, 24)), (173, (25, 25)), (176, (0, 0)), (176, (1, 1)), (176, (2, 2)), (176, (3, 100))]
theorem ct_X12_readLine_173k (X : Int) (hX : 0 ≤ X ∧ X ≤ 100000000) (M0 : JM) (hH0 : HI X M0)  : JOk shp PJ 6 161 [.inr (.inr (.inl 173))] M0 (jRi (fun v M' => HI X M' ∧ Fr md_X12_readLine_173k M0 M' ∧ 0 ≤ v ∧ v ≤ 1 ∧ (∀ (t : TXT) (σ : PSt), RS M0 t σ → LRr t (lineS t σ) v M') ∧ (LFr ml_X12_readLine_173p M0 M') ∧ (∀ (t : TXT) (σ : PSt), RS M0 t σ → KCr (lineK t σ) v M') ∧ (FEr v M0 M'))) := by
 refine ⟨jr_X12_readLine, pj_X12_readLine, fun F c1 c2 c3 => ?_⟩
 have hm := pj_X12_readLine
 change F 0 [some (.inr (.inr (.inl 173)))] [] M0
 have hF0 : Fr md_X12_readLine_173k M0 M0 := Fr.rf _ _
 obtain ⟨z1, k2, lz1, uz1⟩ := hH0.ld (c := 173) (i := 24) (A := 0) (B := 1) (bs_28_9 _ _ (by omega) (by omega))
 obtain ⟨z3, k4, lz3, uz3⟩ := hH0.ld (c := 173) (i := 25) (A := 0) (B := 1) (bs_28_9 _ _ (by omega) (by omega))
 obtain ⟨z5, k6, lz5, uz5⟩ := hH0.ld (c := 173) (i := 7) (A := 0) (B := 4) (bs_28_4 _ _ (by omega) (by omega))
 refine jx_load c1 hm rfl rfl rfl rfl ?_
 refine jy_ic c1 hm rfl (by decide) ?_
 refine jv_i c3 hm rfl pj_X12_isWord rfl rfl ⟨_, _, _, rfl, sh_173⟩ rfl ((ct_X12_isWord_173p X (by omega) M0 hH0 0 ⟨by omega, by omega⟩).le (by decide)) (fun z7 _ ⟨rfl, lz7, uz7, p8, p9⟩ => ?_)
 refine jz_eq c1 hm 13 rfl rfl (fun h10 => ?_) (fun h10 => ?_)
 ·
  refine jx_load c1 hm rfl rfl rfl rfl ?_
  refine jy_ic c1 hm rfl (by decide) ?_
  refine jv_i c3 hm rfl pj_X12_isWord rfl rfl ⟨_, _, _, rfl, sh_173⟩ rfl ((ct_X12_isWord_173p X (by omega) M0 hH0 1 ⟨by omega, by omega⟩).le (by decide)) (fun z11 _ ⟨rfl, lz11, uz11, p12, p13⟩ => ?_)
  refine jz_eq c1 hm 26 rfl rfl (fun h14 => ?_) (fun h14 => ?_)
  ·
   refine jx_load c1 hm rfl rfl rfl rfl ?_
   refine jy_ic c1 hm rfl (by decide) ?_
   refine jv_i c3 hm rfl pj_X12_isWord rfl rfl ⟨_, _, _, rfl, sh_173⟩ rfl ((ct_X12_isWord_173p X (by omega) M0 hH0 2 ⟨by omega, by omega⟩).le (by decide)) (fun z15 _ ⟨rfl, lz15, uz15, p16, p17⟩ => ?_)
   refine jz_eq c1 hm 39 rfl rfl (fun h18 => ?_) (fun h18 => ?_)
   ·
    refine jx_load c1 hm rfl rfl rfl rfl ?_
    refine jy_ic c1 hm rfl (by decide) ?_
    refine jv_i c3 hm rfl pj_X12_isWord rfl rfl ⟨_, _, _, rfl, sh_173⟩ rfl ((ct_X12_isWord_173p X (by omega) M0 hH0 3 ⟨by omega, by omega⟩).le (by decide)) (fun z19 _ ⟨rfl, lz19, uz19, p20, p21⟩ => ?_)
    refine jz_eq c1 hm 52 rfl rfl (fun h22 => ?_) (fun h22 => ?_)
    ·
     refine jx_load c1 hm rfl rfl rfl rfl ?_
     refine jy_ic c1 hm rfl (by decide) ?_
     refine jv_i c3 hm rfl pj_X12_isWord rfl rfl ⟨_, _, _, rfl, sh_173⟩ rfl ((ct_X12_isWord_173p X (by omega) M0 hH0 4 ⟨by omega, by omega⟩).le (by decide)) (fun z23 _ ⟨rfl, lz23, uz23, p24, p25⟩ => ?_)
     refine jz_eq c1 hm 65 rfl rfl (fun h26 => ?_) (fun h26 => ?_)
     ·
      refine jx_load c1 hm rfl rfl rfl rfl ?_
      refine jy_ic c1 hm rfl (by decide) ?_
      refine jv_i c3 hm rfl pj_X12_isWord rfl rfl ⟨_, _, _, rfl, sh_173⟩ rfl ((ct_X12_isWord_173p X (by omega) M0 hH0 5 ⟨by omega, by omega⟩).le (by decide)) (fun z27 _ ⟨rfl, lz27, uz27, p28, p29⟩ => ?_)
      refine jz_eq c1 hm 108 rfl rfl (fun h30 => ?_) (fun h30 => ?_)
      ·
       refine jx_load c1 hm rfl rfl rfl rfl ?_
       refine jy_bp c1 hm rfl (by decide) ?_
       refine jv_i c3 hm rfl pj_X12_isWord rfl rfl ⟨_, _, _, rfl, sh_173⟩ rfl ((ct_X12_isWord_173p X (by omega) M0 hH0 6 ⟨by omega, by omega⟩).le (by decide)) (fun z31 _ ⟨rfl, lz31, uz31, p32, p33⟩ => ?_)
       refine jz_ne c1 hm 123 rfl rfl (fun h34 => ?_) (fun h34 => ?_)
       ·
        refine jx_load c1 hm rfl rfl rfl rfl ?_
        refine jx_getz c1 hm rfl sh_173 rfl k4 ?_
        refine jz_eq c1 hm 136 rfl rfl (fun h35 => ?_) (fun h35 => ?_)
        ·
         refine jx_load c1 hm rfl rfl rfl rfl ?_
         refine jy_ic c1 hm rfl (by decide) ?_
         obtain ⟨M36, e36, hH36, hF36, k36, n36, q36⟩ := mup hH0 hF0 (c := 173) (i := 25) (v := 1) (A := 0) (B := 1) (bs_28_9 _ _ (by omega) (by omega)) ⟨by omega, by omega⟩ (jin_of 9 rfl ⟨by omega, by omega⟩)
         refine jm_putz c1 hm rfl sh_173 rfl ⟨by omega, by omega⟩ e36 ?_
         refine jx_load c1 hm rfl rfl rfl rfl ?_
         obtain ⟨z37, k38, lz37, uz37⟩ := hH36.ld (c := 173) (i := 5) (A := 0) (B := 940) (bs_28_3 _ _ (by omega) (by omega))
         refine jv_v c3 hm rfl pj_X12_go rfl rfl ⟨_, _, _, rfl, sh_173⟩ rfl ((ct_X12_go_173p X (by omega) M36 hH36 ).le (by decide)) (fun M41 ⟨hH41, hR41, p39, p40⟩ => ?_)
         have hF41 := hF36.tr hR41 (by decide +kernel)
         refine jx_load c1 hm rfl rfl rfl rfl ?_
         refine jy_ic c1 hm rfl (by decide) ?_
         refine jx_load c1 hm rfl rfl rfl rfl ?_
         refine jy_ic c1 hm rfl (by decide) ?_
         refine jy_bp c1 hm rfl (by decide) ?_
         refine jv_i c3 hm rfl pj_X12_readNumber rfl rfl ⟨_, _, _, rfl, sh_173⟩ rfl ((ct_X12_readNumber_173k X (by omega) M41 hH41 0 ⟨by omega, by omega⟩ 9 ⟨by omega, by omega⟩).le (by decide)) (fun z42 M48 ⟨hH48, hR48, lz42, uz42, p43, p44, p45, p46, p47⟩ => ?_)
         have hF48 := hF41.tr hR48 (by decide +kernel)
         obtain ⟨z49, k50, lz49, uz49⟩ := hH48.ld (c := 173) (i := 13) (A := (-2147483648)) (B := 2147483647) (bs_28_7 _ _ (by omega) (by omega))
         refine jv_i c3 hm rfl pj_X12_put rfl rfl ⟨_, _, _, rfl, sh_173⟩ rfl ((ct_X12_put_173p X (by omega) M48 hH48 4 ⟨by omega, by omega⟩ z42 ⟨by omega, by omega⟩ (by rw [show bnd X 176 (4 : Int).toNat = (0, 9) from (bs_12_1 _ _ (by omega) (by omega))]; dsimp only; omega)).le (by decide)) (fun z51 M56 ⟨hH56, hR56, lz51, uz51, p52, p53, p54, p55⟩ => ?_)
         have hF56 := hF48.tr hR56 (by decide +kernel)
         exact jx_retz c2 hm rfl rfl ⟨by omega, by omega⟩ ⟨_, rfl, hH56, hF56, by omega, by omega, (fun t σ hσ => LRr.eq (rl_6 hσ (p9.resolve_left (by omega)) (p13.resolve_left (by omega)) (p17.resolve_left (by omega)) (p21.resolve_left (by omega)) (p25.resolve_left (by omega)) (p29.resolve_left (by omega)) (p32 (by omega))) (LRr.eq (rwm_eq (i := 25) (by decide) hσ (by omega)) (LRr.put (wm_cv (p44 t _ (RS.next (RS.flag (c := 173) (i := 25) (j := 73) hσ n36 q36 (Or.inr (Or.inr (Or.inr ⟨rfl, rfl, rfl, by omega⟩)))) (by have y9 := (WD.y hσ (p32 (by omega)) (by decide)).1; exact (show 2 ≤ kK t σ by omega)) p39 hR41 p40 (by decide +kernel)))) p53 (fun c i => p55 c i rfl) (by decide) p52))), (((((LFr.rf _ _).eq q36).tr p40 (by decide +kernel)).tr p45 (by decide +kernel)).tr p55 (by decide +kernel)), (fun t σ hσ => KCr.eq (lk_6 (WD.y hσ (p32 (by omega)) (by decide))) (KCr.eq (rwmk_n (i := 25) (by decide) hσ (by omega)) (KCr.cg (k := numK t (goS t (setS 73 σ).2)) (p46 t _ (RS.next (RS.flag (c := 173) (i := 25) (j := 73) hσ n36 q36 (Or.inr (Or.inr (Or.inr ⟨rfl, rfl, rfl, by omega⟩)))) (by have y9 := (WD.y hσ (p32 (by omega)) (by decide)).1; exact (show 2 ≤ kK t σ by omega)) p39 hR41 p40 (by decide +kernel))) p52 (hR56 173 10 rfl)))), (FEr.pu p47 ((hR41 173 10 rfl).trans (n36 173 10 (by decide))) (hR56 173 10 rfl) p52)⟩
        refine jx_load c1 hm rfl rfl rfl rfl ?_
        refine jy_ic c1 hm rfl (by decide) ?_
        obtain ⟨z57, k58, lz57, uz57⟩ := hH0.ld (c := 173) (i := 6) (A := 0) (B := 940) (bs_28_3 _ _ (by omega) (by omega))
        refine jv_i c3 hm rfl pj_X12_bad rfl rfl ⟨_, _, _, rfl, sh_173⟩ rfl ((ct_X12_bad_173q X (by omega) M0 hH0 3 ⟨by omega, by omega⟩).le (by decide)) (fun z59 M65 ⟨hH65, hR65, lz59, uz59, p60, p61, p62, p63, p64⟩ => ?_)
        have hF65 := hF0.tr hR65 (by decide +kernel)
        obtain ⟨z66, k67, lz66, uz66⟩ := hH65.ld (c := 173) (i := 11) (A := 0) (B := 940) (bs_28_6 _ _ (by omega) (by omega))
        obtain ⟨z68, k69, lz68, uz68⟩ := hH65.ld (c := 173) (i := 10) (A := (-2147483648)) (B := 2147483647) (bs_28_5 _ _ (by omega) (by omega))
        exact jx_retz c2 hm rfl rfl ⟨by omega, by omega⟩ ⟨_, rfl, hH65, hF65, by omega, by omega, (fun t σ hσ => LRr.eq (rl_6 hσ (p9.resolve_left (by omega)) (p13.resolve_left (by omega)) (p17.resolve_left (by omega)) (p21.resolve_left (by omega)) (p25.resolve_left (by omega)) (p29.resolve_left (by omega)) (p32 (by omega))) (rwm_no (i := 25) (by decide) hσ (by omega) (by omega) p61)), ((LFr.rf _ _).tr p64 (by decide +kernel)), (fun t σ hσ => KCr.eq (lk_6 (WD.y hσ (p32 (by omega)) (by decide))) (KCr.of ((show M65.1 173 10 = 3 by have y9 := (p32 (by omega)).1; omega).trans (rwmk_3 (i := 25) (by decide) hσ (by omega)).symm))), (FEr.no (by omega))⟩
       refine jx_load c1 hm rfl rfl rfl rfl ?_
       refine jy_ic c1 hm rfl (by decide) ?_
       obtain ⟨z70, k71, lz70, uz70⟩ := hH0.ld (c := 173) (i := 6) (A := 0) (B := 940) (bs_28_3 _ _ (by omega) (by omega))
       refine jv_i c3 hm rfl pj_X12_bad rfl rfl ⟨_, _, _, rfl, sh_173⟩ rfl ((ct_X12_bad_173q X (by omega) M0 hH0 1 ⟨by omega, by omega⟩).le (by decide)) (fun z72 M78 ⟨hH78, hR78, lz72, uz72, p73, p74, p75, p76, p77⟩ => ?_)
       have hF78 := hF0.tr hR78 (by decide +kernel)
       obtain ⟨z79, k80, lz79, uz79⟩ := hH78.ld (c := 173) (i := 11) (A := 0) (B := 940) (bs_28_6 _ _ (by omega) (by omega))
       obtain ⟨z81, k82, lz81, uz81⟩ := hH78.ld (c := 173) (i := 10) (A := (-2147483648)) (B := 2147483647) (bs_28_5 _ _ (by omega) (by omega))
       exact jx_retz c2 hm rfl rfl ⟨by omega, by omega⟩ ⟨_, rfl, hH78, hF78, by omega, by omega, (fun t σ hσ => LRr.no (rl_no hσ (p9.resolve_left (by omega)) (p13.resolve_left (by omega)) (p17.resolve_left (by omega)) (p21.resolve_left (by omega)) (p25.resolve_left (by omega)) (p29.resolve_left (by omega)) (p33.resolve_left (by omega))) hσ (by omega) p74), ((LFr.rf _ _).tr p77 (by decide +kernel)), (fun t σ hσ => KCr.of ((show M78.1 173 10 = 1 by omega).trans (lrk_no hσ (p9.resolve_left (by omega)) (p13.resolve_left (by omega)) (p17.resolve_left (by omega)) (p21.resolve_left (by omega)) (p25.resolve_left (by omega)) (p29.resolve_left (by omega)) (p33.resolve_left (by omega))).symm)), (FEr.no (by omega))⟩
      refine jx_load c1 hm rfl rfl rfl rfl ?_
      refine jx_getz c1 hm rfl sh_173 rfl k2 ?_
      refine jz_eq c1 hm 86 rfl rfl (fun h83 => ?_) (fun h83 => ?_)
      ·
       refine jx_load c1 hm rfl rfl rfl rfl ?_
       refine jy_ic c1 hm rfl (by decide) ?_
       obtain ⟨M84, e84, hH84, hF84, k84, n84, q84⟩ := mup hH0 hF0 (c := 173) (i := 24) (v := 1) (A := 0) (B := 1) (bs_28_9 _ _ (by omega) (by omega)) ⟨by omega, by omega⟩ (jin_of 8 rfl ⟨by omega, by omega⟩)
       refine jm_putz c1 hm rfl sh_173 rfl ⟨by omega, by omega⟩ e84 ?_
       refine jx_load c1 hm rfl rfl rfl rfl ?_
       obtain ⟨z85, k86, lz85, uz85⟩ := hH84.ld (c := 173) (i := 5) (A := 0) (B := 940) (bs_28_3 _ _ (by omega) (by omega))
       refine jv_v c3 hm rfl pj_X12_go rfl rfl ⟨_, _, _, rfl, sh_173⟩ rfl ((ct_X12_go_173p X (by omega) M84 hH84 ).le (by decide)) (fun M89 ⟨hH89, hR89, p87, p88⟩ => ?_)
       have hF89 := hF84.tr hR89 (by decide +kernel)
       refine jx_load c1 hm rfl rfl rfl rfl ?_
       refine jy_ic c1 hm rfl (by decide) ?_
       refine jx_load c1 hm rfl rfl rfl rfl ?_
       refine jy_ic c1 hm rfl (by decide) ?_
       refine jy_bp c1 hm rfl (by decide) ?_
       refine jv_i c3 hm rfl pj_X12_readNumber rfl rfl ⟨_, _, _, rfl, sh_173⟩ rfl ((ct_X12_readNumber_173k X (by omega) M89 hH89 0 ⟨by omega, by omega⟩ 9 ⟨by omega, by omega⟩).le (by decide)) (fun z90 M96 ⟨hH96, hR96, lz90, uz90, p91, p92, p93, p94, p95⟩ => ?_)
       have hF96 := hF89.tr hR96 (by decide +kernel)
       obtain ⟨z97, k98, lz97, uz97⟩ := hH96.ld (c := 173) (i := 13) (A := (-2147483648)) (B := 2147483647) (bs_28_7 _ _ (by omega) (by omega))
       refine jv_i c3 hm rfl pj_X12_put rfl rfl ⟨_, _, _, rfl, sh_173⟩ rfl ((ct_X12_put_173p X (by omega) M96 hH96 3 ⟨by omega, by omega⟩ z90 ⟨by omega, by omega⟩ (by rw [show bnd X 176 (3 : Int).toNat = (0, 9) from (bs_12_1 _ _ (by omega) (by omega))]; dsimp only; omega)).le (by decide)) (fun z99 M104 ⟨hH104, hR104, lz99, uz99, p100, p101, p102, p103⟩ => ?_)
       have hF104 := hF96.tr hR104 (by decide +kernel)
       exact jx_retz c2 hm rfl rfl ⟨by omega, by omega⟩ ⟨_, rfl, hH104, hF104, by omega, by omega, (fun t σ hσ => LRr.eq (rl_5 hσ (p9.resolve_left (by omega)) (p13.resolve_left (by omega)) (p17.resolve_left (by omega)) (p21.resolve_left (by omega)) (p25.resolve_left (by omega)) (p28 (by omega))) (LRr.eq (rwm_eq (i := 24) (by decide) hσ (by omega)) (LRr.put (wm_cv (p92 t _ (RS.next (RS.flag (c := 173) (i := 24) (j := 72) hσ n84 q84 (Or.inr (Or.inr (Or.inl ⟨rfl, rfl, rfl, by omega⟩)))) (by have y9 := (WD.y hσ (p28 (by omega)) (by decide)).1; exact (show 2 ≤ kK t σ by omega)) p87 hR89 p88 (by decide +kernel)))) p101 (fun c i => p103 c i rfl) (by decide) p100))), (((((LFr.rf _ _).eq q84).tr p88 (by decide +kernel)).tr p93 (by decide +kernel)).tr p103 (by decide +kernel)), (fun t σ hσ => KCr.eq (lk_5 (WD.y hσ (p28 (by omega)) (by decide))) (KCr.eq (rwmk_n (i := 24) (by decide) hσ (by omega)) (KCr.cg (k := numK t (goS t (setS 72 σ).2)) (p94 t _ (RS.next (RS.flag (c := 173) (i := 24) (j := 72) hσ n84 q84 (Or.inr (Or.inr (Or.inl ⟨rfl, rfl, rfl, by omega⟩)))) (by have y9 := (WD.y hσ (p28 (by omega)) (by decide)).1; exact (show 2 ≤ kK t σ by omega)) p87 hR89 p88 (by decide +kernel))) p100 (hR104 173 10 rfl)))), (FEr.pu p95 ((hR89 173 10 rfl).trans (n84 173 10 (by decide))) (hR104 173 10 rfl) p100)⟩
      refine jx_load c1 hm rfl rfl rfl rfl ?_
      refine jy_ic c1 hm rfl (by decide) ?_
      obtain ⟨z105, k106, lz105, uz105⟩ := hH0.ld (c := 173) (i := 6) (A := 0) (B := 940) (bs_28_3 _ _ (by omega) (by omega))
      refine jv_i c3 hm rfl pj_X12_bad rfl rfl ⟨_, _, _, rfl, sh_173⟩ rfl ((ct_X12_bad_173q X (by omega) M0 hH0 3 ⟨by omega, by omega⟩).le (by decide)) (fun z107 M113 ⟨hH113, hR113, lz107, uz107, p108, p109, p110, p111, p112⟩ => ?_)
      have hF113 := hF0.tr hR113 (by decide +kernel)
      obtain ⟨z114, k115, lz114, uz114⟩ := hH113.ld (c := 173) (i := 11) (A := 0) (B := 940) (bs_28_6 _ _ (by omega) (by omega))
      obtain ⟨z116, k117, lz116, uz116⟩ := hH113.ld (c := 173) (i := 10) (A := (-2147483648)) (B := 2147483647) (bs_28_5 _ _ (by omega) (by omega))
      exact jx_retz c2 hm rfl rfl ⟨by omega, by omega⟩ ⟨_, rfl, hH113, hF113, by omega, by omega, (fun t σ hσ => LRr.eq (rl_5 hσ (p9.resolve_left (by omega)) (p13.resolve_left (by omega)) (p17.resolve_left (by omega)) (p21.resolve_left (by omega)) (p25.resolve_left (by omega)) (p28 (by omega))) (rwm_no (i := 24) (by decide) hσ (by omega) (by omega) p109)), ((LFr.rf _ _).tr p112 (by decide +kernel)), (fun t σ hσ => KCr.eq (lk_5 (WD.y hσ (p28 (by omega)) (by decide))) (KCr.of ((show M113.1 173 10 = 3 by have y9 := (p28 (by omega)).1; omega).trans (rwmk_3 (i := 24) (by decide) hσ (by omega)).symm))), (FEr.no (by omega))⟩
     refine jx_load c1 hm rfl rfl rfl rfl ?_
     refine jv_i c3 hm rfl pj_X12_readOwes rfl rfl ⟨_, _, _, rfl, sh_173⟩ rfl ((ct_X12_readOwes_173k X (by omega) M0 hH0 ).le (by decide)) (fun z118 M123 ⟨hH123, hR123, lz118, uz118, p119, p120, p121, p122⟩ => ?_)
     have hF123 := hF0.tr hR123 (by decide +kernel)
     exact jx_retz c2 hm rfl rfl ⟨by omega, by omega⟩ ⟨_, rfl, hH123, hF123, by omega, by omega, (fun t σ hσ => LRr.eq (rl_4 hσ (p9.resolve_left (by omega)) (p13.resolve_left (by omega)) (p17.resolve_left (by omega)) (p21.resolve_left (by omega)) (p24 (by omega))) (p119 t σ hσ (by have y9 := (WD.y hσ (p24 (by omega)) (by decide)).1; omega))), ((LFr.rf _ _).tr p120 (by decide +kernel)), (fun t σ hσ => KCr.eq (lk_4 (WD.y hσ (p24 (by omega)) (by decide))) (p121 t σ hσ (by have y9 := (WD.y hσ (p24 (by omega)) (by decide)).1; omega))), p122⟩
    refine jx_load c1 hm rfl rfl rfl rfl ?_
    refine jv_i c3 hm rfl pj_X12_readGood rfl rfl ⟨_, _, _, rfl, sh_173⟩ rfl ((ct_X12_readGood_173k X (by omega) M0 hH0 ).le (by decide)) (fun z124 M129 ⟨hH129, hR129, lz124, uz124, p125, p126, p127, p128⟩ => ?_)
    have hF129 := hF0.tr hR129 (by decide +kernel)
    exact jx_retz c2 hm rfl rfl ⟨by omega, by omega⟩ ⟨_, rfl, hH129, hF129, by omega, by omega, (fun t σ hσ => LRr.eq (rl_3 hσ (p9.resolve_left (by omega)) (p13.resolve_left (by omega)) (p17.resolve_left (by omega)) (p20 (by omega))) (p125 t σ hσ (by have y9 := (WD.y hσ (p20 (by omega)) (by decide)).1; omega))), ((LFr.rf _ _).tr p126 (by decide +kernel)), (fun t σ hσ => KCr.eq (lk_3 (WD.y hσ (p20 (by omega)) (by decide))) (p127 t σ hσ (by have y9 := (WD.y hσ (p20 (by omega)) (by decide)).1; omega))), p128⟩
   refine jx_load c1 hm rfl rfl rfl rfl ?_
   refine jv_i c3 hm rfl pj_X12_readMinds rfl rfl ⟨_, _, _, rfl, sh_173⟩ rfl ((ct_X12_readMinds_173k X (by omega) M0 hH0 ).le (by decide)) (fun z130 M135 ⟨hH135, hR135, lz130, uz130, p131, p132, p133, p134⟩ => ?_)
   have hF135 := hF0.tr hR135 (by decide +kernel)
   exact jx_retz c2 hm rfl rfl ⟨by omega, by omega⟩ ⟨_, rfl, hH135, hF135, by omega, by omega, (fun t σ hσ => LRr.eq (rl_2 hσ (p9.resolve_left (by omega)) (p13.resolve_left (by omega)) (p16 (by omega))) (p131 t σ hσ (by have y9 := (WD.y hσ (p16 (by omega)) (by decide)).1; omega))), ((LFr.rf _ _).tr p132 (by decide +kernel)), (fun t σ hσ => KCr.eq (lk_2 (WD.y hσ (p16 (by omega)) (by decide))) (p133 t σ hσ (by have y9 := (WD.y hσ (p16 (by omega)) (by decide)).1; omega))), p134⟩
  refine jx_load c1 hm rfl rfl rfl rfl ?_
  refine jv_i c3 hm rfl pj_X12_readForfeit rfl rfl ⟨_, _, _, rfl, sh_173⟩ rfl ((ct_X12_readForfeit_173k X (by omega) M0 hH0 ).le (by decide)) (fun z136 M141 ⟨hH141, hR141, lz136, uz136, p137, p138, p139, p140⟩ => ?_)
  have hF141 := hF0.tr hR141 (by decide +kernel)
  exact jx_retz c2 hm rfl rfl ⟨by omega, by omega⟩ ⟨_, rfl, hH141, hF141, by omega, by omega, (fun t σ hσ => LRr.eq (rl_1 hσ (p9.resolve_left (by omega)) (p12 (by omega))) (p137 t σ hσ (by have y9 := (WD.y hσ (p12 (by omega)) (by decide)).1; omega))), ((LFr.rf _ _).tr p138 (by decide +kernel)), (fun t σ hσ => KCr.eq (lk_1 (WD.y hσ (p12 (by omega)) (by decide))) (p139 t σ hσ (by have y9 := (WD.y hσ (p12 (by omega)) (by decide)).1; omega))), p140⟩
 refine jx_load c1 hm rfl rfl rfl rfl ?_
 refine jv_i c3 hm rfl pj_X12_readMan rfl rfl ⟨_, _, _, rfl, sh_173⟩ rfl ((ct_X12_readMan_173k X (by omega) M0 hH0 ).le (by decide)) (fun z142 M147 ⟨hH147, hR147, lz142, uz142, p143, p144, p145, p146⟩ => ?_)
 have hF147 := hF0.tr hR147 (by decide +kernel)
 exact jx_retz c2 hm rfl rfl ⟨by omega, by omega⟩ ⟨_, rfl, hH147, hF147, by omega, by omega, (fun t σ hσ => LRr.eq (rl_0 hσ  (p8 (by omega))) (p143 t σ hσ (by have y9 := (WD.y hσ (p8 (by omega)) (by decide)).1; omega))), ((LFr.rf _ _).tr p144 (by decide +kernel)), (fun t σ hσ => KCr.eq (lk_0 (WD.y hσ (p8 (by omega)) (by decide))) (p145 t σ hσ (by have y9 := (WD.y hσ (p8 (by omega)) (by decide)).1; omega))), p146⟩
def md_X12_readEnd_173k : List (Nat × (Nat × Nat)) := [(173, (5, 5)), (173, (6, 6)), (173, (7, 7)), (173, (8, 8)), (173, (9, 9)), (173, (10, 10)), (173, (11, 11))]
theorem ct_X12_readEnd_173k (X : Int) (hX : 0 ≤ X ∧ X ≤ 100000000) (M0 : JM) (hH0 : HI X M0)  : JOk shp PJ 3 157 [.inr (.inr (.inl 173))] M0 (jRi (fun v M' => HI X M' ∧ Fr md_X12_readEnd_173k M0 M' ∧ 0 ≤ v ∧ v ≤ 1 ∧ (∀ (t : TXT) (σ : PSt), RS M0 t σ → LRr t (endS t σ) v M') ∧ (LFr ml_X12_readEnd_173p M0 M') ∧ (∀ (t : TXT) (σ : PSt), RS M0 t σ → KCr 1 v M') ∧ (FEr v M0 M'))) := by
 refine ⟨jr_X12_readEnd, pj_X12_readEnd, fun F c1 c2 c3 => ?_⟩
 have hm := pj_X12_readEnd
 change F 0 [some (.inr (.inr (.inl 173)))] [] M0
 have hF0 : Fr md_X12_readEnd_173k M0 M0 := Fr.rf _ _
 refine jx_load c1 hm rfl rfl rfl rfl ?_
 refine jy_bp c1 hm rfl (by decide) ?_
 obtain ⟨z1, k2, lz1, uz1⟩ := hH0.ld (c := 173) (i := 9) (A := (-2147483648)) (B := 2147483647) (bs_28_5 _ _ (by omega) (by omega))
 obtain ⟨z3, k4, lz3, uz3⟩ := hH0.ld (c := 173) (i := 7) (A := 0) (B := 4) (bs_28_4 _ _ (by omega) (by omega))
 refine jv_i c3 hm rfl pj_X12_isSign rfl rfl ⟨_, _, _, rfl, sh_173⟩ rfl ((ct_X12_isSign_173p X (by omega) M0 hH0 59 ⟨by omega, by omega⟩).le (by decide)) (fun z5 _ ⟨rfl, lz5, uz5, p6, p7⟩ => ?_)
 refine jz_ne c1 hm 15 rfl rfl (fun h8 => ?_) (fun h8 => ?_)
 ·
  refine jx_load c1 hm rfl rfl rfl rfl ?_
  obtain ⟨z9, k10, lz9, uz9⟩ := hH0.ld (c := 173) (i := 5) (A := 0) (B := 940) (bs_28_3 _ _ (by omega) (by omega))
  refine jv_v c3 hm rfl pj_X12_go rfl rfl ⟨_, _, _, rfl, sh_173⟩ rfl ((ct_X12_go_173p X (by omega) M0 hH0 ).le (by decide)) (fun M13 ⟨hH13, hR13, p11, p12⟩ => ?_)
  have hF13 := hF0.tr hR13 (by decide +kernel)
  refine jy_ic c1 hm rfl (by decide) ?_
  exact jx_retz c2 hm rfl rfl ⟨by omega, by omega⟩ ⟨_, rfl, hH13, hF13, by omega, by omega, (fun t σ hσ => rend_go hσ (by omega) (by omega) rfl p11 hR13 p12 (by decide +kernel)), ((LFr.rf _ _).tr p12 (by decide +kernel)), (fun t σ hσ => KCr.y (by omega)), (FEr.ok (hR13 173 10 rfl))⟩
 refine jx_load c1 hm rfl rfl rfl rfl ?_
 refine jy_ic c1 hm rfl (by decide) ?_
 obtain ⟨z14, k15, lz14, uz14⟩ := hH0.ld (c := 173) (i := 6) (A := 0) (B := 940) (bs_28_3 _ _ (by omega) (by omega))
 refine jv_i c3 hm rfl pj_X12_bad rfl rfl ⟨_, _, _, rfl, sh_173⟩ rfl ((ct_X12_bad_173q X (by omega) M0 hH0 1 ⟨by omega, by omega⟩).le (by decide)) (fun z16 M22 ⟨hH22, hR22, lz16, uz16, p17, p18, p19, p20, p21⟩ => ?_)
 have hF22 := hF0.tr hR22 (by decide +kernel)
 obtain ⟨z23, k24, lz23, uz23⟩ := hH22.ld (c := 173) (i := 11) (A := 0) (B := 940) (bs_28_6 _ _ (by omega) (by omega))
 obtain ⟨z25, k26, lz25, uz25⟩ := hH22.ld (c := 173) (i := 10) (A := (-2147483648)) (B := 2147483647) (bs_28_5 _ _ (by omega) (by omega))
 exact jx_retz c2 hm rfl rfl ⟨by omega, by omega⟩ ⟨_, rfl, hH22, hF22, by omega, by omega, (fun t σ hσ => rend_no hσ (by omega) (by omega) (by omega)), ((LFr.rf _ _).tr p21 (by decide +kernel)), (fun t σ hσ => KCr.of (by omega)), (FEr.no (by omega))⟩
def md_X12_duchy_173k : List (Nat × (Nat × Nat)) := [(173, (0, 0)), (173, (2, 2)), (173, (3, 3)), (173, (4, 4)), (173, (5, 5)), (173, (6, 6)), (173, (7, 7)), (173, (8, 8)), (173, (9, 9)), (173, (10, 10)), (173, (11, 11)), (173, (13, 13)), (173, (23, 23)), (173, (24, 24)), (173, (25, 25)), (175, (0, 100)), (175, (101, 475)), (176, (0, 100))]
theorem ct_X12_duchy_173k (X : Int) (hX : 0 ≤ X ∧ X ≤ 100000000) (M0 : JM) (hH0 : HI X M0) (hp0 : SOK M0) : JOk shp PJ 7 99 [.inr (.inr (.inl 173))] M0 (jRi (fun v M' => HI X M' ∧ Fr md_X12_duchy_173k M0 M' ∧ (-941) ≤ v ∧ v ≤ 470 ∧ (SOK M') ∧ (v < 0 ∨ M'.1 175 234 = 0) ∧ (v = duS (uR M0) (M0.1 173 2)) ∧ (M'.1 173 2 = 0) ∧ (0 ≤ v → HN M' 175 0 180 0 (fnS (uR M0) (M0.1 173 2))) ∧ (v < 0 → ∀ σ : PSt, HN M0 175 0 180 0 σ → HN M' 175 0 180 0 σ) ∧ (LKs [180, 181] M0 M') ∧ (M'.1 173 10 = dkS (uR M0) (M0.1 173 2)))) := by
 refine ⟨jr_X12_duchy, pj_X12_duchy, fun F c1 c2 c3 => ?_⟩
 have hm := pj_X12_duchy
 change F 0 [some (.inr (.inr (.inl 173))), none, none] [] M0
 have hF0 : Fr md_X12_duchy_173k M0 M0 := Fr.rf _ _
 obtain ⟨z1, k2, lz1, uz1⟩ := hH0.ld (c := 173) (i := 2) (A := 0) (B := 940) (bs_28_1 _ _ (by omega) (by omega))
 refine jx_load c1 hm rfl rfl rfl rfl ?_
 refine jy_sp c1 hm rfl (by decide) ?_
 refine jv_v c3 hm rfl pj_X12_begin rfl rfl ⟨_, _, _, rfl, sh_173⟩ rfl (((ct_X12_begin_173k X (by omega) M0 hH0 900 ⟨by omega, by omega⟩).lkv (by decide +kernel) rfl).le (by decide)) (fun M7 ⟨⟨hH7, hR7, p3, p4, p5, p6⟩, hL7⟩ => ?_)
 have hF7 := hF0.tr hR7 (by decide +kernel)
 obtain ⟨z8, k9, lz8, uz8⟩ := hH7.ld (c := 173) (i := 2) (A := 0) (B := 940) (bs_28_1 _ _ (by omega) (by omega))
 obtain ⟨z10, k11, lz10, uz10⟩ := hH7.ld (c := 173) (i := 10) (A := (-2147483648)) (B := 2147483647) (bs_28_5 _ _ (by omega) (by omega))
 refine jy_ic c1 hm rfl (by decide) ?_
 refine jx_stor c1 hm (L' := [some (.inr (.inr (.inl 173))), some (.inl 0), none]) rfl rfl rfl rfl rfl ?_
 have W20 : ∀ (n21 : Nat) (b12 : Int) (hb12 : 0 ≤ b12 ∧ b12 ≤ 101) (M13 : JM) (hH13 : HI (X) M13) (hF13 : Fr md_X12_duchy_173k M0 M13) (k14 : M13.1 173 2 = z8) (k15 : M13.1 173 10 = z10) (hE : ∀ j : Nat, M13.1 175 j = M0.1 175 j) (hfz : FLP 176 0 b12 M13) (hrt : RTk M13 (uR M0, (M0.1 173 2, 900)) 0) (hlx : LKs [181] M0 M13), (-b12 + 101) < (n21 : Int) → F 9 [some (.inr (.inr (.inl 173))), some (.inl b12), none] [] M13 := by
  intro n21
  induction n21 with
  | zero => intros; omega
  | succ n21 ihW20 =>
   intro b12 hb12 M13 hH13 hF13 k14 k15 hE hfz hrt hlx hrW20
   refine jx_load c1 hm rfl rfl rfl rfl ?_
   skip
   refine jy_bp c1 hm rfl (by decide) ?_
   refine jc_ge c1 hm 28 rfl rfl (fun h22 => ?_) (fun h22 => ?_)
   ·
    refine jy_ic c1 hm rfl (by decide) ?_
    refine jx_stor c1 hm (L' := [some (.inr (.inr (.inl 173))), some (.inl 0), none]) rfl rfl rfl rfl rfl ?_
    have W31 : ∀ (n32 : Nat) (b23 : Int) (hb23 : 0 ≤ b23 ∧ b23 ≤ 36) (M24 : JM) (hH24 : HI (X) M24) (hF24 : Fr md_X12_duchy_173k M0 M24) (k25 : M24.1 173 2 = z8) (k26 : M24.1 173 10 = z10) (hE : ∀ j : Nat, M24.1 175 j = M0.1 175 j) (hrz : RZ M24 b23) (hrt : RTk M24 (uR M0, (M0.1 173 2, 900)) 0) (hlx : LKs [181] M0 M24), (-b23 + 36) < (n32 : Int) → F 30 [some (.inr (.inr (.inl 173))), some (.inl b23), none] [] M24 := by
     intro n32
     induction n32 with
     | zero => intros; omega
     | succ n32 ihW31 =>
      intro b23 hb23 M24 hH24 hF24 k25 k26 hE hrz hrt hlx hrW31
      refine jx_load c1 hm rfl rfl rfl rfl ?_
      skip
      refine jy_bp c1 hm rfl (by decide) ?_
      refine jc_ge c1 hm 52 rfl rfl (fun h33 => ?_) (fun h33 => ?_)
      ·
       refine jx_load c1 hm rfl rfl rfl rfl ?_
       refine jx_getr c1 hm rfl sh_173 rfl ?_
       refine jy_ic c1 hm rfl (by decide) ?_
       refine jy_ic c1 hm rfl (by decide) ?_
       obtain ⟨M34, e34, hH34, hF34, k34, n34, q34⟩ := mup hH24 hF24 (c := 176) (i := 3) (v := 1) (A := 0) (B := 9) (bs_12_1 _ _ (by omega) (by omega)) ⟨by omega, by omega⟩ (jin_of 17 rfl ⟨by omega, by omega⟩)
       refine jm_iast c1 hm rfl sh_176 ⟨by omega, by omega⟩ e34 ?_
       refine jx_load c1 hm rfl rfl rfl rfl ?_
       refine jx_getr c1 hm rfl sh_173 rfl ?_
       refine jy_ic c1 hm rfl (by decide) ?_
       refine jy_ic c1 hm rfl (by decide) ?_
       obtain ⟨M35, e35, hH35, hF35, k35, n35, q35⟩ := mup hH34 hF34 (c := 176) (i := 4) (v := 1) (A := 0) (B := 9) (bs_12_1 _ _ (by omega) (by omega)) ⟨by omega, by omega⟩ (jin_of 17 rfl ⟨by omega, by omega⟩)
       refine jm_iast c1 hm rfl sh_176 ⟨by omega, by omega⟩ e35 ?_
       refine jx_load c1 hm rfl rfl rfl rfl ?_
       refine jy_ic c1 hm rfl (by decide) ?_
       obtain ⟨M36, e36, hH36, hF36, k36, n36, q36⟩ := mup hH35 hF35 (c := 173) (i := 24) (v := 0) (A := 0) (B := 1) (bs_28_9 _ _ (by omega) (by omega)) ⟨by omega, by omega⟩ (jin_of 13 rfl ⟨by omega, by omega⟩)
       refine jm_putz c1 hm rfl sh_173 rfl ⟨by omega, by omega⟩ e36 ?_
       refine jx_load c1 hm rfl rfl rfl rfl ?_
       refine jy_ic c1 hm rfl (by decide) ?_
       obtain ⟨M37, e37, hH37, hF37, k37, n37, q37⟩ := mup hH36 hF36 (c := 173) (i := 25) (v := 0) (A := 0) (B := 1) (bs_28_9 _ _ (by omega) (by omega)) ⟨by omega, by omega⟩ (jin_of 14 rfl ⟨by omega, by omega⟩)
       refine jm_putz c1 hm rfl sh_173 rfl ⟨by omega, by omega⟩ e37 ?_
       refine jy_ic c1 hm rfl (by decide) ?_
       refine jx_stor c1 hm (L' := [some (.inr (.inr (.inl 173))), some (.inl 0), none]) rfl rfl rfl rfl rfl ?_
       have k38 : M37.1 173 10 = z10 := (n37 173 10 (by decide)).trans ((n36 173 10 (by decide)).trans ((n35 173 10 (fun h => absurd h.1 (by decide))).trans ((n34 173 10 (fun h => absurd h.1 (by decide))).trans k26)))
       have W49 : ∀ (n50 : Nat) (b39 : Int) (hb39 : 0 ≤ b39 ∧ b39 ≤ 471) (M40 : JM) (hH40 : HI (X) M40) (hF40 : Fr md_X12_duchy_173k M0 M40) (k42 : M40.1 173 2 = z8) (h43 : 0 ≤ b39 ∧ b39 ≤ 470) (hE : ∀ j : Nat, M40.1 175 j = M0.1 175 j) (hrl : RLr (uR M0, (M0.1 173 2, 900)) M40 b39) (hrf : RLrF (uR M0, (M0.1 173 2, 900)) M40 b39) (hlx : LKs [181] M0 M40) (hkr : RLrk (uR M0, (M0.1 173 2, 900)) M40 b39), 471 - b39 < (n50 : Int) → F 78 [some (.inr (.inr (.inl 173))), some (.inl b39), none] [] M40 := by
        intro n50
        induction n50 with
        | zero => intros; omega
        | succ n50 ihW49 =>
         intro b39 hb39 M40 hH40 hF40 k42 h43 hE hrl hrf hlx hkr hrW49
         refine jx_load c1 hm rfl rfl rfl rfl ?_
         skip
         obtain ⟨z51, k52, lz51, uz51⟩ := hH40.ld (c := 173) (i := 7) (A := 0) (B := 4) (bs_28_4 _ _ (by omega) (by omega))
         refine jx_geti c1 hm rfl sh_173 rfl k52 ?_
         refine jz_eq c1 hm 112 rfl rfl (fun h53 => ?_) (fun h53 => ?_)
         ·
          refine jy_ic c1 hm rfl (by decide) ?_
          have hdu := RLr.fin hrl (by omega)
          have hfn := RLrF.fin hrf (by omega)
          obtain ⟨z54, k55, lz54, uz54⟩ := hH40.ld (c := 173) (i := 10) (A := (-2147483648)) (B := 2147483647) (bs_28_5 _ _ (by omega) (by omega))
          have hkf := RLrk.fin hkr (by omega)
          refine jx_stor c1 hm (L' := [some (.inr (.inr (.inl 173))), some (.inl b39), some (.inl 0)]) rfl rfl rfl rfl rfl ?_
          have W63 : ∀ (n64 : Nat) (b56 : Int) (hb56 : 0 ≤ b56 ∧ b56 ≤ 36) (M57 : JM) (hH57 : HI (X) M57) (hF57 : Fr md_X12_duchy_173k M0 M57) (k58 : M57.1 173 2 = z8) (k59 : M57.1 173 7 = z51) (k60 : M57.1 173 10 = z54) (hfn : HN M57 176 0 181 0 (allQ (uR M0, (M0.1 173 2, 900)) 1000 st0)) (hlx : LKs [181] M0 M57), (-b56 + 36) < (n64 : Int) → F 114 [some (.inr (.inr (.inl 173))), some (.inl b39), some (.inl b56)] [] M57 := by
           intro n64
           induction n64 with
           | zero => intros; omega
           | succ n64 ihW63 =>
            intro b56 hb56 M57 hH57 hF57 k58 k59 k60 hfn hlx hrW63
            refine jx_load c1 hm rfl rfl rfl rfl ?_
            refine jy_bp c1 hm rfl (by decide) ?_
            refine jc_ge c1 hm 160 rfl rfl (fun h65 => ?_) (fun h65 => ?_)
            ·
             refine jy_ic c1 hm rfl (by decide) ?_
             refine jx_stor c1 hm (L' := [some (.inr (.inr (.inl 173))), some (.inl b39), some (.inl 0)]) rfl rfl rfl rfl rfl ?_
             have W74 : ∀ (n75 : Nat) (b66 : Int) (hb66 : 0 ≤ b66 ∧ b66 ≤ 101) (M67 : JM) (hH67 : HI (X) M67) (hF67 : Fr md_X12_duchy_173k M0 M67) (k68 : M67.1 173 2 = z8) (k69 : M67.1 173 7 = z51) (k70 : M67.1 173 10 = z54) (hfn : HN M67 176 0 181 0 (allQ (uR M0, (M0.1 173 2, 900)) 1000 st0)) (hcn : ∀ j : Nat, (j : Int) < b66 → M67.1 175 j = M67.1 176 j) (hlx : LKs [181] M0 M67), (-b66 + 101) < (n75 : Int) → F 162 [some (.inr (.inr (.inl 173))), some (.inl b39), some (.inl b66)] [] M67 := by
              intro n75
              induction n75 with
              | zero => intros; omega
              | succ n75 ihW74 =>
               intro b66 hb66 M67 hH67 hF67 k68 k69 k70 hfn hcn hlx hrW74
               refine jx_load c1 hm rfl rfl rfl rfl ?_
               refine jy_bp c1 hm rfl (by decide) ?_
               refine jc_ge c1 hm 186 rfl rfl (fun h76 => ?_) (fun h76 => ?_)
               ·
                refine jy_ic c1 hm rfl (by decide) ?_
                refine jx_stor c1 hm (L' := [some (.inr (.inr (.inl 173))), some (.inl b39), some (.inl 0)]) rfl rfl rfl rfl rfl ?_
                have W86 : ∀ (n87 : Nat) (b77 : Int) (hb77 : 0 ≤ b77 ∧ b77 ≤ 18) (M78 : JM) (hH78 : HI (X) M78) (hF78 : Fr md_X12_duchy_173k M0 M78) (k79 : M78.1 173 2 = z8) (k80 : M78.1 173 7 = z51) (k81 : M78.1 173 10 = z54) (hfn : HN M78 176 0 181 0 (allQ (uR M0, (M0.1 173 2, 900)) 1000 st0)) (hc3 : ∀ j : Nat, j < 3 → M78.1 175 j = M78.1 176 j) (hnm : ∀ k : Nat, (k : Int) < b77 → M78.2 180 k = M78.2 181 k) (hlx : LKs [180, 181] M0 M78), (-b77 + 18) < (n87 : Int) → F 188 [some (.inr (.inr (.inl 173))), some (.inl b39), some (.inl b77)] [] M78 := by
                 intro n87
                 induction n87 with
                 | zero => intros; omega
                 | succ n87 ihW86 =>
                  intro b77 hb77 M78 hH78 hF78 k79 k80 k81 hfn hc3 hnm hlx hrW86
                  refine jx_load c1 hm rfl rfl rfl rfl ?_
                  refine jy_bp c1 hm rfl (by decide) ?_
                  refine jc_ge c1 hm 212 rfl rfl (fun h88 => ?_) (fun h88 => ?_)
                  ·
                   refine jx_load c1 hm rfl rfl rfl rfl ?_
                   refine jv_v c3 hm rfl pj_X12_startSo rfl rfl ⟨_, _, _, rfl, sh_173⟩ rfl (((ct_X12_startSo_173 X (by omega) M78 hH78 ).lkv (by decide +kernel) rfl).le (by decide)) (fun M90 ⟨⟨hH90, hR90, p89⟩, hL90⟩ => ?_)
                   have hF90 := hF78.tr hR90 (by decide +kernel)
                   obtain ⟨z91, k92, lz91, uz91⟩ := hH90.ld (c := 175) (i := 234) (A := (-2147483648)) (B := 2147483647) (bs_11_11 _ _ (by omega) (by omega))
                   refine jx_load c1 hm rfl rfl rfl rfl ?_
                   refine jy_ic c1 hm rfl (by decide) ?_
                   obtain ⟨M93, e93, hH93, hF93, k93, n93, q93⟩ := mup hH90 hF90 (c := 173) (i := 23) (v := 0) (A := 0) (B := 8) (bs_28_8 _ _ (by omega) (by omega)) ⟨by omega, by omega⟩ (jin_of 12 rfl ⟨by omega, by omega⟩)
                   refine jm_puti c1 hm rfl sh_173 rfl e93 ?_
                   refine jx_load c1 hm rfl rfl rfl rfl ?_
                   have k94 : M93.1 173 2 = z8 := (n93 173 2 (by decide)).trans ((hR90 173 2 (by decide +kernel)).trans k79)
                   have k95 : M93.1 173 10 = z54 := (n93 173 10 (by decide)).trans ((hR90 173 10 (by decide +kernel)).trans k81)
                   have k96 : M93.1 175 234 = z91 := (n93 175 234 (fun h => absurd h.1 (by decide))).trans k92
                   exact jx_reti c2 hm rfl rfl ⟨_, rfl, hH93, hF93, by omega, by omega, (Or.inl (by omega)), (by omega), (by show _ = allS (uR M0, (M0.1 173 2, 900)) 1000 0 st0; omega), (by omega), (fun _ => HN.cp hfn (fun j hj => by rw [Nat.zero_add]; exact ((n93 175 j (fun h => absurd h.1 (by decide))).trans (hR90 175 j (jin_lo (b := 5) (by decide +kernel) (by omega)))).trans (hc3 j hj)) (fun k hk => by rw [Nat.zero_add]; exact ((q93 180 k).trans (hL90 180 k (by decide +kernel))).trans (hnm k (by omega)))), (fun y => absurd y (by omega)), ((hlx.lk hL90).eq q93), (by show _ = allK (uR M0, (M0.1 173 2, 900)) 1000 st0; omega)⟩
                  refine jx_load c1 hm rfl rfl rfl rfl ?_
                  refine jx_getr c1 hm rfl sh_173 rfl ?_
                  refine jx_load c1 hm rfl rfl rfl rfl ?_
                  refine jx_load c1 hm rfl rfl rfl rfl ?_
                  refine jx_getr c1 hm rfl sh_173 rfl ?_
                  refine jx_load c1 hm rfl rfl rfl rfl ?_
                  obtain ⟨w97, kw97⟩ : ∃ w, M78.2 181 (b77).toNat = w := ⟨_, rfl⟩
                  have bw97 : LB w97.toInt := kw97 ▸ hH78.2.1 181 _ rfl
                  refine jx_lald c1 hm rfl sh_181 ⟨by omega, by omega⟩ kw97 ?_
                  skip
                  obtain ⟨M98, e98, hH98, hF98, n98, k98, g98⟩ := mul hH78 hF78 (c := 180) (i := (b77).toNat) (v := w97) (fun _ => bw97)
                  refine jm_last c1 hm rfl sh_180 ⟨by omega, by omega⟩ e98 ?_
                  refine jx_iinc c1 hm (v := (b77 + 1)) (L' := [some (.inr (.inr (.inl 173))), some (.inl b39), some (.inl (b77 + 1))]) rfl rfl (by omega) (by omega) rfl ?_
                  refine jx_goto c1 hm 188 rfl rfl ?_
                  have k99 : M98.1 173 2 = z8 := (n98 173 2).trans k79
                  have k100 : M98.1 173 7 = z51 := (n98 173 7).trans k80
                  have k101 : M98.1 173 10 = z54 := (n98 173 10).trans k81
                  exact ihW86 (b77 + 1) (by omega) M98 hH98 hF98 k99 k100 k101 (HN.cp hfn (fun j hj => (n98 176 (0 + j))) (fun k hk => (g98 181 (0 + k) (fun h => absurd h.1 (by decide))))) (fun j hj => ((n98 175 j).trans ((hc3 j hj).trans (n98 176 j).symm))) (fun k hk => if c9 : (k : Int) < b77 then (g98 180 k (by omega)).trans ((hnm k c9).trans (g98 181 k (fun h => absurd h.1 (by decide))).symm) else (by have e9 : k = (b77).toNat := (by omega); subst e9; exact k98.trans ((g98 181 _ (fun h => absurd h.1 (by decide))).trans kw97).symm)) (hlx.st g98 (Or.inr rfl)) (by omega)
                exact W86 (18 + 1 : Int).toNat 0 (by omega) M67 hH67 hF67 k68 k69 k70 hfn (fun j hj => hcn j (by omega)) (fun k hk => by omega) (LKs.up hlx rfl) (by omega)
               refine jx_load c1 hm rfl rfl rfl rfl ?_
               refine jx_getr c1 hm rfl sh_173 rfl ?_
               refine jx_load c1 hm rfl rfl rfl rfl ?_
               refine jx_load c1 hm rfl rfl rfl rfl ?_
               refine jx_getr c1 hm rfl sh_173 rfl ?_
               refine jx_load c1 hm rfl rfl rfl rfl ?_
               obtain ⟨z102, k103, lz102, uz102⟩ := hH67.any (by omega) (by omega) 176 (b66).toNat
               refine jx_iald c1 hm rfl sh_176 ⟨by omega, by omega⟩ k103 ?_
               skip
               obtain ⟨M104, e104, hH104, hF104, k104, n104, q104⟩ := mupc hH67 hF67 hH67 (c := 175) (i := (b66).toNat) (c1 := 176) (i1 := (b66).toNat) (v := z102) k103 (crd (by omega)) (jin_of 15 rfl ⟨by omega, by omega⟩)
               refine jm_iast c1 hm rfl sh_175 ⟨by omega, by omega⟩ e104 ?_
               refine jx_iinc c1 hm (v := (b66 + 1)) (L' := [some (.inr (.inr (.inl 173))), some (.inl b39), some (.inl (b66 + 1))]) rfl rfl (by omega) (by omega) rfl ?_
               refine jx_goto c1 hm 162 rfl rfl ?_
               have k105 : M104.1 173 2 = z8 := (n104 173 2 (fun h => absurd h.1 (by decide))).trans k68
               have k106 : M104.1 173 7 = z51 := (n104 173 7 (fun h => absurd h.1 (by decide))).trans k69
               have k107 : M104.1 173 10 = z54 := (n104 173 10 (fun h => absurd h.1 (by decide))).trans k70
               exact ihW74 (b66 + 1) (by omega) M104 hH104 hF104 k105 k106 k107 (HN.cp hfn (fun j hj => (n104 176 (0 + j) (fun h => absurd h.1 (by decide)))) (fun k hk => (q104 181 (0 + k)))) (fun j hj => if c9 : (j : Int) < b66 then (n104 175 j (by omega)).trans ((hcn j c9).trans (n104 176 j (fun h => absurd h.1 (by decide))).symm) else (by have e9 : j = (b66).toNat := (by omega); subst e9; exact k104.trans ((n104 176 _ (fun h => absurd h.1 (by decide))).trans k103).symm)) (hlx.eq q104) (by omega)
             exact W74 (101 + 1 : Int).toNat 0 (by omega) M57 hH57 hF57 k58 k59 k60 hfn (fun j hj => by omega) hlx (by omega)
            refine jx_load c1 hm rfl rfl rfl rfl ?_
            refine jx_getr c1 hm rfl sh_173 rfl ?_
            refine jy_bp c1 hm rfl (by decide) ?_
            refine jx_load c1 hm rfl rfl rfl rfl ?_
            refine jy_add c1 hm (b56 + 17) rfl (by omega) ?_
            obtain ⟨z108, k109, lz108, uz108⟩ := hH57.ld (c := 176) (i := ((b56 + 17)).toNat) (A := (-1)) (B := 20) (bs_12_4 _ _ (by omega) (by omega))
            refine jx_iald c1 hm rfl sh_176 ⟨by omega, by omega⟩ k109 ?_
            refine jy_ic c1 hm rfl (by decide) ?_
            refine jc_ne c1 hm 154 rfl rfl (fun h110 => ?_) (fun h110 => ?_)
            ·
             refine jx_iinc c1 hm (v := (b56 + 1)) (L' := [some (.inr (.inr (.inl 173))), some (.inl b39), some (.inl (b56 + 1))]) rfl rfl (by omega) (by omega) rfl ?_
             refine jx_goto c1 hm 114 rfl rfl ?_
             exact ihW63 (b56 + 1) (by omega) M57 hH57 hF57 k58 k59 k60 (HN.cp hfn (fun j hj => rfl) (fun k hk => rfl)) hlx (by omega)
            refine jx_load c1 hm rfl rfl rfl rfl ?_
            refine jx_getr c1 hm rfl sh_173 rfl ?_
            refine jy_bp c1 hm rfl (by decide) ?_
            refine jx_load c1 hm rfl rfl rfl rfl ?_
            refine jy_add c1 hm (b56 + 17) rfl (by omega) ?_
            refine jx_load c1 hm rfl rfl rfl rfl ?_
            refine jx_getr c1 hm rfl sh_173 rfl ?_
            refine jy_bp c1 hm rfl (by decide) ?_
            refine jx_load c1 hm rfl rfl rfl rfl ?_
            refine jy_bp c1 hm rfl (by decide) ?_
            refine jy_rem c1 hm rfl ⟨by omega, by omega, by omega, by omega⟩ (fun z111 ez111 lz111 uz111 => ?_)
            refine jy_add c1 hm (z111 + 11) rfl (by omega) ?_
            obtain ⟨z112, k113, lz112, uz112⟩ := hH57.ld (c := 176) (i := ((z111 + 11)).toNat) (A := 0) (B := 20) (bs_12_3 _ _ (by omega) (by omega))
            refine jx_iald c1 hm rfl sh_176 ⟨by omega, by omega⟩ k113 ?_
            obtain ⟨M114, e114, hH114, hF114, k114, n114, q114⟩ := mup hH57 hF57 (c := 176) (i := ((b56 + 17)).toNat) (v := z112) (A := (-1)) (B := 20) (bs_12_4 _ _ (by omega) (by omega)) ⟨by omega, by omega⟩ (jin_of 17 rfl ⟨by omega, by omega⟩)
            refine jm_iast c1 hm rfl sh_176 ⟨by omega, by omega⟩ e114 ?_
            refine jx_iinc c1 hm (v := (b56 + 1)) (L' := [some (.inr (.inr (.inl 173))), some (.inl b39), some (.inl (b56 + 1))]) rfl rfl (by omega) (by omega) rfl ?_
            refine jx_goto c1 hm 114 rfl rfl ?_
            have k115 : M114.1 173 2 = z8 := (n114 173 2 (fun h => absurd h.1 (by decide))).trans k58
            have k116 : M114.1 173 7 = z51 := (n114 173 7 (fun h => absurd h.1 (by decide))).trans k59
            have k117 : M114.1 173 10 = z54 := (n114 173 10 (fun h => absurd h.1 (by decide))).trans k60
            exact ihW63 (b56 + 1) (by omega) M114 hH114 hF114 k115 k116 k117 (HN.cp hfn (fun j hj => (n114 176 (0 + j) (fun e => absurd e.2 (by omega)))) (fun k hk => (q114 181 (0 + k)))) (hlx.eq q114) (by omega)
          exact W63 (36 + 1 : Int).toNat 0 (by omega) M40 hH40 hF40 k42 k52 k55 hfn hlx (by omega)
         refine jx_load c1 hm rfl rfl rfl rfl ?_
         refine jv_i c3 hm rfl pj_X12_readLine rfl rfl ⟨_, _, _, rfl, sh_173⟩ rfl ((ct_X12_readLine_173k X (by omega) M40 hH40 ).le (by decide)) (fun z118 M123 ⟨hH123, hR123, lz118, uz118, p119, p120, p121, p122⟩ => ?_)
         have hF123 := hF40.tr hR123 (by decide +kernel)
         refine jz_eq c1 hm 99 rfl rfl (fun h124 => ?_) (fun h124 => ?_)
         ·
          refine jy_ic c1 hm rfl (by decide) ?_
          refine jx_load c1 hm rfl rfl rfl rfl ?_
          obtain ⟨z125, k126, lz125, uz125⟩ := hH123.ld (c := 173) (i := 11) (A := 0) (B := 940) (bs_28_6 _ _ (by omega) (by omega))
          refine jx_geti c1 hm rfl sh_173 rfl k126 ?_
          refine jy_sub c1 hm (-z125 - 1) rfl (by omega) ?_
          have k127 : M123.1 173 2 = z8 := (hR123 173 2 (by decide +kernel)).trans k42
          obtain ⟨z128, k129, lz128, uz128⟩ := hH123.ld (c := 173) (i := 10) (A := (-2147483648)) (B := 2147483647) (bs_28_5 _ _ (by omega) (by omega))
          obtain ⟨z130, k131, lz130, uz130⟩ := hH123.ld (c := 175) (i := 234) (A := (-2147483648)) (B := 2147483647) (bs_11_11 _ _ (by omega) (by omega))
          exact jx_reti c2 hm rfl rfl ⟨_, rfl, hH123, hF123, by omega, by omega, (SOK.cg hp0 (fun j _ _ => (fun j => ((hR123 175 j rfl).trans (hE j))) j)), (by omega), (by have y9 := RLr.no (M' := M123) hrl (by omega) (fun σ hσ => LRr.seqz (p119 _ σ hσ) (by omega)); show _ = allS (uR M0, (M0.1 173 2, 900)) 1000 0 st0; omega), (by omega), (fun y => absurd y (by omega)), (fun _ σ hσ => HN.cp hσ (fun j hj => (fun j => ((hR123 175 j rfl).trans (hE j))) _) (fun k hk => (LFr.lks hlx p120 (by decide +kernel)) _ _ (by decide +kernel) rfl)), (LKs.up (LFr.lks hlx p120 (by decide +kernel)) rfl), (RLrk.no hkr (by omega) (fun σ hσ => LRr.seqz (p119 _ σ hσ) (by omega)) (fun σ hσ => KCr.seqz (p119 _ σ hσ) (p121 _ σ hσ) (by omega)))⟩
         refine jx_load c1 hm rfl rfl rfl rfl ?_
         refine jv_i c3 hm rfl pj_X12_readEnd rfl rfl ⟨_, _, _, rfl, sh_173⟩ rfl (((ct_X12_readEnd_173k X (by omega) M123 hH123 ).lki (by decide +kernel) rfl).le (by decide)) (fun z132 M137 ⟨⟨hH137, hR137, lz132, uz132, p133, p134, p135, p136⟩, hL137⟩ => ?_)
         have hF137 := hF123.tr hR137 (by decide +kernel)
         refine jz_ne c1 hm 106 rfl rfl (fun h138 => ?_) (fun h138 => ?_)
         ·
          refine jx_iinc c1 hm (v := (b39 + 1)) (L' := [some (.inr (.inr (.inl 173))), some (.inl (b39 + 1)), none]) rfl rfl (by omega) (by omega) rfl ?_
          have hrl9 := RLr.go hrl (by omega) (fun σ hσ => LRr.seqg (p119 _ σ hσ) (by omega) (fun l1 h1 => LRr.u (p133 _ _ h1) (by omega)))
          have hbd9 := RLr.bd hrl9
          have hrf9 := RLrF.go hrf (by omega) (fun σ hσ => LRr.seqg (p119 _ σ hσ) (by omega) (fun l1 h1 => LRr.u (p133 _ _ h1) (by omega)))
          have hkr9 := RLrk.go hkr (by omega) (fun σ hσ => LRr.seqg (p119 _ σ hσ) (by omega) (fun l1 h1 => LRr.u (p133 _ _ h1) (by omega))) ((p136.e (by omega)).trans (p122.e (by omega)))
          refine jx_goto c1 hm 78 rfl rfl ?_
          have k146 : M137.1 173 2 = z8 := (hR137 173 2 (by decide +kernel)).trans ((hR123 173 2 (by decide +kernel)).trans k42)
          exact ihW49 (b39 + 1) (by omega) M137 hH137 hF137 k146 (by omega) (fun j => (((hR137 175 j rfl).trans (hR123 175 j rfl)).trans (hE j))) hrl9 hrf9 ((LFr.lks hlx p120 (by decide +kernel)).lk hL137) hkr9 (by omega)
         refine jy_ic c1 hm rfl (by decide) ?_
         refine jx_load c1 hm rfl rfl rfl rfl ?_
         obtain ⟨z139, k140, lz139, uz139⟩ := hH137.ld (c := 173) (i := 11) (A := 0) (B := 940) (bs_28_6 _ _ (by omega) (by omega))
         refine jx_geti c1 hm rfl sh_173 rfl k140 ?_
         refine jy_sub c1 hm (-z139 - 1) rfl (by omega) ?_
         have k141 : M137.1 173 2 = z8 := (hR137 173 2 (by decide +kernel)).trans ((hR123 173 2 (by decide +kernel)).trans k42)
         obtain ⟨z142, k143, lz142, uz142⟩ := hH137.ld (c := 173) (i := 10) (A := (-2147483648)) (B := 2147483647) (bs_28_5 _ _ (by omega) (by omega))
         obtain ⟨z144, k145, lz144, uz144⟩ := hH137.ld (c := 175) (i := 234) (A := (-2147483648)) (B := 2147483647) (bs_11_11 _ _ (by omega) (by omega))
         exact jx_reti c2 hm rfl rfl ⟨_, rfl, hH137, hF137, by omega, by omega, (SOK.cg hp0 (fun j _ _ => (fun j => (((hR137 175 j rfl).trans (hR123 175 j rfl)).trans (hE j))) j)), (by omega), (by have y9 := RLr.no (M' := M137) hrl (by omega) (fun σ hσ => LRr.seqg (p119 _ σ hσ) (by omega) (fun l1 h1 => LRr.z (p133 _ _ h1) (by omega))); show _ = allS (uR M0, (M0.1 173 2, 900)) 1000 0 st0; omega), (by omega), (fun y => absurd y (by omega)), (fun _ σ hσ => HN.cp hσ (fun j hj => (fun j => (((hR137 175 j rfl).trans (hR123 175 j rfl)).trans (hE j))) _) (fun k hk => ((LFr.lks hlx p120 (by decide +kernel)).lk hL137) _ _ (by decide +kernel) rfl)), (LKs.up ((LFr.lks hlx p120 (by decide +kernel)).lk hL137) rfl), (RLrk.no hkr (by omega) (fun σ hσ => LRr.seqg (p119 _ σ hσ) (by omega) (fun l1 h1 => LRr.z (p133 _ _ h1) (by omega))) (fun σ hσ => KCr.seqg (p119 _ σ hσ) (by omega) (fun l1 h1 => (p135 _ _ h1).vc (by omega))))⟩
       have k41 : M37.1 173 2 = z8 := (n37 173 2 (by decide)).trans ((n36 173 2 (by decide)).trans ((n35 173 2 (fun h => absurd h.1 (by decide))).trans ((n34 173 2 (fun h => absurd h.1 (by decide))).trans k25)))
       exact W49 (471 - 0 + 1 : Int).toNat 0 (by omega) M37 hH37 hF37 k41 (by omega) (fun j => (((((n37 175 j (fun h => absurd h.1 (by decide))).trans (n36 175 j (fun h => absurd h.1 (by decide)))).trans (n35 175 j (fun h => absurd h.1 (by decide)))).trans (n34 175 j (fun h => absurd h.1 (by decide)))).trans (hE j))) (RLr.start (RTk.cg hrt (fun j => ((((n37 174 j (fun h => absurd h.1 (by decide))).trans (n36 174 j (fun h => absurd h.1 (by decide)))).trans (n35 174 j (fun h => absurd h.1 (by decide)))).trans (n34 174 j (fun h => absurd h.1 (by decide))))) (fun j hj => ((((n37 173 j (by omega)).trans (n36 173 j (by omega))).trans (n35 173 j (fun h => absurd h.1 (by decide)))).trans (n34 173 j (fun h => absurd h.1 (by decide))))) (((((q37 173 12).trans (q36 173 12)).trans (q35 173 12)).trans (q34 173 12)))) (RZ.cg hrz (by omega) (fun j hj => ((((n37 176 j (fun h => absurd h.1 (by decide))).trans (n36 176 j (fun h => absurd h.1 (by decide)))).trans (n35 176 j (by omega))).trans (n34 176 j (by omega))))) ((n37 173 24 (by decide)).trans k36) k37 ⟨by show 0 ≤ M0.1 173 2; omega, by show M0.1 173 2 ≤ 940; omega⟩ (by show (0 : Int) ≤ 900; decide)) (RLrF.start (RTk.cg hrt (fun j => ((((n37 174 j (fun h => absurd h.1 (by decide))).trans (n36 174 j (fun h => absurd h.1 (by decide)))).trans (n35 174 j (fun h => absurd h.1 (by decide)))).trans (n34 174 j (fun h => absurd h.1 (by decide))))) (fun j hj => ((((n37 173 j (by omega)).trans (n36 173 j (by omega))).trans (n35 173 j (fun h => absurd h.1 (by decide)))).trans (n34 173 j (fun h => absurd h.1 (by decide))))) (((((q37 173 12).trans (q36 173 12)).trans (q35 173 12)).trans (q34 173 12)))) (RZ.cg hrz (by omega) (fun j hj => ((((n37 176 j (fun h => absurd h.1 (by decide))).trans (n36 176 j (fun h => absurd h.1 (by decide)))).trans (n35 176 j (by omega))).trans (n34 176 j (by omega))))) ((n37 173 24 (by decide)).trans k36) k37 ⟨by show 0 ≤ M0.1 173 2; omega, by show M0.1 173 2 ≤ 940; omega⟩ (by show (0 : Int) ≤ 900; decide)) ((((hlx.eq q34).eq q35).eq q36).eq q37) (RLrk.start (RTk.cg hrt (fun j => ((((n37 174 j (fun h => absurd h.1 (by decide))).trans (n36 174 j (fun h => absurd h.1 (by decide)))).trans (n35 174 j (fun h => absurd h.1 (by decide)))).trans (n34 174 j (fun h => absurd h.1 (by decide))))) (fun j hj => ((((n37 173 j (by omega)).trans (n36 173 j (by omega))).trans (n35 173 j (fun h => absurd h.1 (by decide)))).trans (n34 173 j (fun h => absurd h.1 (by decide))))) (((((q37 173 12).trans (q36 173 12)).trans (q35 173 12)).trans (q34 173 12)))) (RZ.cg hrz (by omega) (fun j hj => ((((n37 176 j (fun h => absurd h.1 (by decide))).trans (n36 176 j (fun h => absurd h.1 (by decide)))).trans (n35 176 j (by omega))).trans (n34 176 j (by omega))))) ((n37 173 24 (by decide)).trans k36) k37 ⟨by show 0 ≤ M0.1 173 2; omega, by show M0.1 173 2 ≤ 940; omega⟩ (by show (0 : Int) ≤ 900; decide) (by omega)) (by omega)
      refine jx_load c1 hm rfl rfl rfl rfl ?_
      refine jx_getr c1 hm rfl sh_173 rfl ?_
      refine jy_bp c1 hm rfl (by decide) ?_
      refine jx_load c1 hm rfl rfl rfl rfl ?_
      refine jy_add c1 hm (b23 + 17) rfl (by omega) ?_
      refine jy_ic c1 hm rfl (by decide) ?_
      obtain ⟨M147, e147, hH147, hF147, k147, n147, q147⟩ := mup hH24 hF24 (c := 176) (i := ((b23 + 17)).toNat) (v := (-1)) (A := (-1)) (B := 20) (bs_12_4 _ _ (by omega) (by omega)) ⟨by omega, by omega⟩ (jin_of 17 rfl ⟨by omega, by omega⟩)
      refine jm_iast c1 hm rfl sh_176 ⟨by omega, by omega⟩ e147 ?_
      refine jx_iinc c1 hm (v := (b23 + 1)) (L' := [some (.inr (.inr (.inl 173))), some (.inl (b23 + 1)), none]) rfl rfl (by omega) (by omega) rfl ?_
      refine jx_goto c1 hm 30 rfl rfl ?_
      have k148 : M147.1 173 2 = z8 := (n147 173 2 (fun h => absurd h.1 (by decide))).trans k25
      have k149 : M147.1 173 10 = z10 := (n147 173 10 (fun h => absurd h.1 (by decide))).trans k26
      exact ihW31 (b23 + 1) (by omega) M147 hH147 hF147 k148 k149 (fun j => ((n147 175 j (fun h => absurd h.1 (by decide))).trans (hE j))) (RZ.st hrz ⟨by omega, by omega⟩ (by omega) k147 n147) (RTk.cg hrt (fun j => (n147 174 j (fun h => absurd h.1 (by decide)))) (fun j hj => (n147 173 j (fun h => absurd h.1 (by decide)))) ((q147 173 12))) (hlx.eq q147) (by omega)
    exact W31 (36 + 1 : Int).toNat 0 (by omega) M13 hH13 hF13 k14 k15 (fun j => (hE j)) (RZ.start (FLP.le hfz (by omega))) hrt hlx (by omega)
   refine jx_load c1 hm rfl rfl rfl rfl ?_
   refine jx_getr c1 hm rfl sh_173 rfl ?_
   refine jx_load c1 hm rfl rfl rfl rfl ?_
   refine jy_ic c1 hm rfl (by decide) ?_
   obtain ⟨M150, e150, hH150, hF150, k150, n150, q150⟩ := mup hH13 hF13 (c := 176) (i := (b12).toNat) (v := 0) (A := (bnd (X) 176 (b12).toNat).1) (B := (bnd (X) 176 (b12).toNat).2) rfl (czr _) (jin_of 17 rfl ⟨by omega, by omega⟩)
   refine jm_iast c1 hm rfl sh_176 ⟨by omega, by omega⟩ e150 ?_
   refine jx_iinc c1 hm (v := (b12 + 1)) (L' := [some (.inr (.inr (.inl 173))), some (.inl (b12 + 1)), none]) rfl rfl (by omega) (by omega) rfl ?_
   refine jx_goto c1 hm 9 rfl rfl ?_
   have k151 : M150.1 173 2 = z8 := (n150 173 2 (fun h => absurd h.1 (by decide))).trans k14
   have k152 : M150.1 173 10 = z10 := (n150 173 10 (fun h => absurd h.1 (by decide))).trans k15
   exact ihW20 (b12 + 1) (by omega) M150 hH150 hF150 k151 k152 (fun j => ((n150 175 j (fun h => absurd h.1 (by decide))).trans (hE j))) (FLP.st hfz (by omega) k150 n150) (RTk.cg hrt (fun j => (n150 174 j (fun h => absurd h.1 (by decide)))) (fun j hj => (n150 173 j (fun h => absurd h.1 (by decide)))) ((q150 173 12))) (hlx.eq q150) (by omega)
 exact W20 (101 + 1 : Int).toNat 0 (by omega) M7 hH7 hF7 k9 k11 (fun j => (hR7 175 j rfl)) FLP.start p3 ((LKs.rf [181] M0).lk hL7) (by omega)
