/-! Contracts that tell kinds of faults (by wip/q/wlk.py). -/
def md_X2_takesFirstWord_27_1k : List (Nat × (Nat × Nat)) := [(1, (4, 4)), (1, (5, 5)), (1, (6, 6)), (1, (7, 7)), (1, (9, 9)), (1, (12, 12)), (1, (13, 13))]
theorem ct_X2_takesFirstWord_27_1k (X : Int) (hX : 0 ≤ X ∧ X ≤ 100000000) (M0 : JM) (hH0 : HI X M0) (a0 : Int) (ha0 : 0 ≤ a0 ∧ a0 ≤ 2) : JOk shp PJ 3 232 [.inr (.inr (.inl 27)), .inr (.inr (.inl 1)), .inl a0] M0 (jRi (fun v M' => HI X M' ∧ Fr md_X2_takesFirstWord_27_1k M0 M' ∧ 0 ≤ v ∧ v ≤ 1 ∧ (∀ (t : TXT) (σ : PSt), CS M0 t σ → 2 ≤ kK t σ → LRc t (firstS t a0.toNat σ) v M') ∧ (LFr ml_X2_takesFirstWord_27_1p M0 M') ∧ (∀ (t : TXT) (σ : PSt), CS M0 t σ → KCc 4 v M'))) := by
 refine ⟨jr_X2_takesFirstWord, pj_X2_takesFirstWord, fun F c1 c2 c3 => ?_⟩
 have hm := pj_X2_takesFirstWord
 change F 0 [some (.inr (.inr (.inl 27))), some (.inr (.inr (.inl 1))), some (.inl a0)] [] M0
 have hF0 : Fr md_X2_takesFirstWord_27_1k M0 M0 := Fr.rf _ _
 refine jx_load c1 hm rfl rfl rfl rfl ?_
 refine jx_getr c1 hm rfl sh_27 rfl ?_
 refine jx_load c1 hm rfl rfl rfl rfl ?_
 obtain ⟨z1, k2, lz1, uz1⟩ := hH0.ld (c := 28) (i := (a0).toNat) (A := 0) (B := 6) rfl
 refine jx_iald c1 hm rfl sh_28 ⟨by omega, by omega⟩ k2 ?_
 refine jy_bp c1 hm rfl (by decide) ?_
 refine jc_lt c1 hm 21 rfl rfl (fun h3 => ?_) (fun h3 => ?_)
 ·
  refine jx_load c1 hm rfl rfl rfl rfl ?_
  obtain ⟨z4, k5, lz4, uz4⟩ := hH0.ld (c := 1) (i := 2) (A := 0) (B := 940) (bs_19_1 _ _ (by omega) (by omega))
  obtain ⟨z6, k7, lz6, uz6⟩ := hH0.ld (c := 1) (i := 4) (A := 0) (B := 940) (bs_19_3 _ _ (by omega) (by omega))
  refine jv_v c3 hm rfl pj_X10_next rfl rfl ⟨_, _, _, rfl, sh_1⟩ rfl ((ct_X10_next_1p X (by omega) M0 hH0 ).le (by decide)) (fun M10 ⟨hH10, hR10, p8, p9⟩ => ?_)
  have hF10 := hF0.tr hR10 (by decide +kernel)
  refine jy_ic c1 hm rfl (by decide) ?_
  exact jx_retz c2 hm rfl rfl ⟨by omega, by omega⟩ ⟨_, rfl, hH10, hF10, by omega, by omega, (fun t σ hσ hk => fst_go hσ hk (by omega) (by omega) rfl p8 (hR10 1 12 rfl) hR10 p9 (by decide +kernel)), ((LFr.rf _ _).tr p9 (by decide +kernel)), (fun t σ hσ => KCc.y (by omega))⟩
 refine jx_load c1 hm rfl rfl rfl rfl ?_
 refine jy_ic c1 hm rfl (by decide) ?_
 refine jx_load c1 hm rfl rfl rfl rfl ?_
 obtain ⟨z11, k12, lz11, uz11⟩ := hH0.ld (c := 1) (i := 5) (A := 0) (B := 940) (bs_19_3 _ _ (by omega) (by omega))
 refine jx_geti c1 hm rfl sh_1 rfl k12 ?_
 refine jv_i c3 hm rfl pj_X10_fails rfl rfl ⟨_, _, _, rfl, sh_1⟩ rfl ((ct_X10_fails_1p X (by omega) M0 hH0 4 ⟨by omega, by omega⟩ z11 ⟨by omega, by omega⟩).le (by decide)) (fun z13 M19 ⟨hH19, hR19, lz13, uz13, p14, p15, p16, p17, p18⟩ => ?_)
 have hF19 := hF0.tr hR19 (by decide +kernel)
 obtain ⟨z20, k21, lz20, uz20⟩ := hH19.ld (c := 1) (i := 12) (A := 0) (B := 4) (bs_19_8 _ _ (by omega) (by omega))
 obtain ⟨z22, k23, lz22, uz22⟩ := hH19.ld (c := 1) (i := 13) (A := 0) (B := 940) (bs_19_9 _ _ (by omega) (by omega))
 exact jx_retz c2 hm rfl rfl ⟨by omega, by omega⟩ ⟨_, rfl, hH19, hF19, by omega, by omega, (fun t σ hσ hk => fst_no hσ (by omega) (by omega) (by omega) (by omega) (by omega)), ((LFr.rf _ _).tr p18 (by decide +kernel)), (fun t σ hσ => KCc.of (by omega))⟩
def md_X10_takesNewName_1_27k : List (Nat × (Nat × Nat)) := [(1, (4, 4)), (1, (5, 5)), (1, (6, 6)), (1, (7, 7)), (1, (9, 9)), (1, (12, 12)), (1, (13, 13))]
theorem ct_X10_takesNewName_1_27k (X : Int) (hX : 0 ≤ X ∧ X ≤ 100000000) (M0 : JM) (hH0 : HI X M0)  : JOk shp PJ 3 22 [.inr (.inr (.inl 1)), .inr (.inr (.inl 27))] M0 (jRi (fun v M' => HI X M' ∧ Fr md_X10_takesNewName_1_27k M0 M' ∧ 0 ≤ v ∧ v ≤ 1 ∧ (∀ (t : TXT) (σ : PSt) (s : Nat), s < 3 → CS M0 t σ → σ.2.1 s < 6 → LRc t (newS t s σ) v M') ∧ (∀ (t : TXT) (σ : PSt), CS M0 t σ → v = 1 → kK t σ = 2 ∧ fndS σ (kV t σ) < 0 ∧ (M'.2 1 10).toInt = cw (kV t σ)) ∧ (LFr ml_X10_takesNewName_1_27p M0 M') ∧ (∀ (t : TXT) (σ : PSt), CS M0 t σ → KCc (nmK t σ) v M'))) := by
 refine ⟨jr_X10_takesNewName, pj_X10_takesNewName, fun F c1 c2 c3 => ?_⟩
 have hm := pj_X10_takesNewName
 change F 0 [some (.inr (.inr (.inl 1))), some (.inr (.inr (.inl 27)))] [] M0
 have hF0 : Fr md_X10_takesNewName_1_27k M0 M0 := Fr.rf _ _
 refine jx_load c1 hm rfl rfl rfl rfl ?_
 obtain ⟨z1, k2, lz1, uz1⟩ := hH0.ld (c := 1) (i := 6) (A := 0) (B := 4) (bs_19_4 _ _ (by omega) (by omega))
 refine jx_geti c1 hm rfl sh_1 rfl k2 ?_
 refine jy_ic c1 hm rfl (by decide) ?_
 refine jc_ne c1 hm 16 rfl rfl (fun h3 => ?_) (fun h3 => ?_)
 ·
  refine jx_load c1 hm rfl rfl rfl rfl ?_
  refine jy_ic c1 hm rfl (by decide) ?_
  refine jx_load c1 hm rfl rfl rfl rfl ?_
  obtain ⟨z4, k5, lz4, uz4⟩ := hH0.ld (c := 1) (i := 5) (A := 0) (B := 940) (bs_19_3 _ _ (by omega) (by omega))
  refine jx_geti c1 hm rfl sh_1 rfl k5 ?_
  refine jv_i c3 hm rfl pj_X10_fails rfl rfl ⟨_, _, _, rfl, sh_1⟩ rfl ((ct_X10_fails_1p X (by omega) M0 hH0 1 ⟨by omega, by omega⟩ z4 ⟨by omega, by omega⟩).le (by decide)) (fun z6 M12 ⟨hH12, hR12, lz6, uz6, p7, p8, p9, p10, p11⟩ => ?_)
  have hF12 := hF0.tr hR12 (by decide +kernel)
  obtain ⟨z13, k14, lz13, uz13⟩ := hH12.ld (c := 1) (i := 12) (A := 0) (B := 4) (bs_19_8 _ _ (by omega) (by omega))
  obtain ⟨z15, k16, lz15, uz15⟩ := hH12.ld (c := 1) (i := 13) (A := 0) (B := 940) (bs_19_9 _ _ (by omega) (by omega))
  exact jx_retz c2 hm rfl rfl ⟨by omega, by omega⟩ ⟨_, rfl, hH12, hF12, by omega, by omega, (fun t σ s hs hσ hc => new_no hσ (Or.inl (by omega)) (by omega) (by omega) (by omega)), (fun t σ hσ y => absurd y (by omega)), ((LFr.rf _ _).tr p11 (by decide +kernel)), (fun t σ hσ => KCc.of ((show M12.1 1 12 = 1 by omega).trans (nmK_1 (fun q => absurd (hσ.isn.mp q) (by omega))).symm))⟩
 refine jx_load c1 hm rfl rfl rfl rfl ?_
 obtain ⟨z17, k18, lz17, uz17⟩ := hH0.ld (c := 1) (i := 7) (A := (-1)) (B := 23) (bs_19_5 _ _ (by omega) (by omega))
 refine jx_geti c1 hm rfl sh_1 rfl k18 ?_
 refine jy_ic c1 hm rfl (by decide) ?_
 refine jc_eq c1 hm 26 rfl rfl (fun h19 => ?_) (fun h19 => ?_)
 ·
  refine jx_load c1 hm rfl rfl rfl rfl ?_
  refine jx_load c1 hm rfl rfl rfl rfl ?_
  obtain ⟨w20, kw20⟩ : ∃ w, M0.2 1 8 = w := ⟨_, rfl⟩
  refine jx_getl c1 hm rfl sh_1 rfl kw20 ?_
  skip
  refine jv_i c3 hm rfl pj_X2_placeOf rfl rfl ⟨_, _, _, rfl, sh_27⟩ rfl ((ct_X2_placeOf_27p X (by omega) M0 hH0 w20).le (by decide)) (fun z21 _ ⟨rfl, lz21, uz21, p22⟩ => ?_)
  skip
  refine jy_ic c1 hm rfl (by decide) ?_
  refine jc_eq c1 hm 48 rfl rfl (fun h23 => ?_) (fun h23 => ?_)
  ·
   refine jx_load c1 hm rfl rfl rfl rfl ?_
   refine jx_load c1 hm rfl rfl rfl rfl ?_
   refine jx_getl c1 hm rfl sh_1 rfl kw20 ?_
   skip
   obtain ⟨M24, e24, hH24, hF24, n24, k24, g24⟩ := mul hH0 hF0 (c := 1) (i := 10) (v := w20) (fun h => absurd h (by decide))
   refine jm_putl c1 hm rfl sh_1 rfl e24 ?_
   refine jx_load c1 hm rfl rfl rfl rfl ?_
   obtain ⟨z25, k26, lz25, uz25⟩ := hH24.ld (c := 1) (i := 2) (A := 0) (B := 940) (bs_19_1 _ _ (by omega) (by omega))
   obtain ⟨z27, k28, lz27, uz27⟩ := hH24.ld (c := 1) (i := 4) (A := 0) (B := 940) (bs_19_3 _ _ (by omega) (by omega))
   refine jv_v c3 hm rfl pj_X10_next rfl rfl ⟨_, _, _, rfl, sh_1⟩ rfl ((ct_X10_next_1p X (by omega) M24 hH24 ).le (by decide)) (fun M31 ⟨hH31, hR31, p29, p30⟩ => ?_)
   have hF31 := hF24.tr hR31 (by decide +kernel)
   refine jy_ic c1 hm rfl (by decide) ?_
   exact jx_retz c2 hm rfl rfl ⟨by omega, by omega⟩ ⟨_, rfl, hH31, hF31, by omega, by omega, (fun t σ s hs hσ hc => new_go hσ hs hc (by omega) (by omega) (by have y9 := p22 t σ hσ.2.2.1 hσ.2.2.2 _ (hσ.wkk (hσ.kind.2.2.1.mp (by omega))) ((congrArg Int64.toInt kw20).symm.trans (hσ.word (hσ.kind.2.2.1.mp (by omega)))); omega) (CS.putl hσ n24 g24) rfl p29 (hR31 1 12 rfl) hR31 p30 (by decide +kernel)), (fun t σ hσ _ => ⟨(hσ.kind.2.2.1.mp (by omega)), by have y9 := p22 t σ hσ.2.2.1 hσ.2.2.2 _ (hσ.wkk (hσ.kind.2.2.1.mp (by omega))) ((congrArg Int64.toInt kw20).symm.trans (hσ.word (hσ.kind.2.2.1.mp (by omega)))); omega, by rw [p30 1 10 rfl, k24, ← kw20]; exact hσ.word (hσ.kind.2.2.1.mp (by omega))⟩), (((LFr.rf _ _).st g24 rfl).tr p30 (by decide +kernel)), (fun t σ hσ => KCc.y (by omega))⟩
  refine jx_load c1 hm rfl rfl rfl rfl ?_
  refine jy_ic c1 hm rfl (by decide) ?_
  refine jx_load c1 hm rfl rfl rfl rfl ?_
  obtain ⟨z32, k33, lz32, uz32⟩ := hH0.ld (c := 1) (i := 5) (A := 0) (B := 940) (bs_19_3 _ _ (by omega) (by omega))
  refine jx_geti c1 hm rfl sh_1 rfl k33 ?_
  refine jv_i c3 hm rfl pj_X10_fails rfl rfl ⟨_, _, _, rfl, sh_1⟩ rfl ((ct_X10_fails_1p X (by omega) M0 hH0 3 ⟨by omega, by omega⟩ z32 ⟨by omega, by omega⟩).le (by decide)) (fun z34 M40 ⟨hH40, hR40, lz34, uz34, p35, p36, p37, p38, p39⟩ => ?_)
  have hF40 := hF0.tr hR40 (by decide +kernel)
  obtain ⟨z41, k42, lz41, uz41⟩ := hH40.ld (c := 1) (i := 12) (A := 0) (B := 4) (bs_19_8 _ _ (by omega) (by omega))
  obtain ⟨z43, k44, lz43, uz43⟩ := hH40.ld (c := 1) (i := 13) (A := 0) (B := 940) (bs_19_9 _ _ (by omega) (by omega))
  exact jx_retz c2 hm rfl rfl ⟨by omega, by omega⟩ ⟨_, rfl, hH40, hF40, by omega, by omega, (fun t σ s hs hσ hc => new_no hσ (Or.inr (by have y9 := p22 t σ hσ.2.2.1 hσ.2.2.2 _ (hσ.wkk (hσ.kind.2.2.1.mp (by omega))) ((congrArg Int64.toInt kw20).symm.trans (hσ.word (hσ.kind.2.2.1.mp (by omega)))); omega)) (by omega) (by omega) (by omega)), (fun t σ hσ y => absurd y (by omega)), ((LFr.rf _ _).tr p39 (by decide +kernel)), (fun t σ hσ => KCc.of ((show M40.1 1 12 = 3 by omega).trans (nmK_3 (hσ.isn.mpr ⟨by omega, by omega⟩)).symm))⟩
 refine jx_load c1 hm rfl rfl rfl rfl ?_
 refine jy_ic c1 hm rfl (by decide) ?_
 refine jx_load c1 hm rfl rfl rfl rfl ?_
 obtain ⟨z45, k46, lz45, uz45⟩ := hH0.ld (c := 1) (i := 5) (A := 0) (B := 940) (bs_19_3 _ _ (by omega) (by omega))
 refine jx_geti c1 hm rfl sh_1 rfl k46 ?_
 refine jv_i c3 hm rfl pj_X10_fails rfl rfl ⟨_, _, _, rfl, sh_1⟩ rfl ((ct_X10_fails_1p X (by omega) M0 hH0 1 ⟨by omega, by omega⟩ z45 ⟨by omega, by omega⟩).le (by decide)) (fun z47 M53 ⟨hH53, hR53, lz47, uz47, p48, p49, p50, p51, p52⟩ => ?_)
 have hF53 := hF0.tr hR53 (by decide +kernel)
 obtain ⟨z54, k55, lz54, uz54⟩ := hH53.ld (c := 1) (i := 12) (A := 0) (B := 4) (bs_19_8 _ _ (by omega) (by omega))
 obtain ⟨z56, k57, lz56, uz56⟩ := hH53.ld (c := 1) (i := 13) (A := 0) (B := 940) (bs_19_9 _ _ (by omega) (by omega))
 exact jx_retz c2 hm rfl rfl ⟨by omega, by omega⟩ ⟨_, rfl, hH53, hF53, by omega, by omega, (fun t σ s hs hσ hc => new_no hσ (Or.inl (by omega)) (by omega) (by omega) (by omega)), (fun t σ hσ y => absurd y (by omega)), ((LFr.rf _ _).tr p52 (by decide +kernel)), (fun t σ hσ => KCc.of ((show M53.1 1 12 = 1 by omega).trans (nmK_1 (fun q => absurd (hσ.isn.mp q) (by omega))).symm))⟩
def md_X10_takesNumber_1k : List (Nat × (Nat × Nat)) := [(1, (4, 4)), (1, (5, 5)), (1, (6, 6)), (1, (7, 7)), (1, (9, 9)), (1, (11, 11)), (1, (12, 12)), (1, (13, 13))]
theorem ct_X10_takesNumber_1k (X : Int) (hX : 0 ≤ X ∧ X ≤ 100000000) (M0 : JM) (hH0 : HI X M0) (a0 : Int) (ha0 : 0 ≤ a0 ∧ a0 ≤ 1) (a1 : Int) (ha1 : 0 ≤ a1 ∧ a1 ≤ 999) : JOk shp PJ 3 23 [.inr (.inr (.inl 1)), .inl a0, .inl a1] M0 (jRi (fun v M' => HI X M' ∧ Fr md_X10_takesNumber_1k M0 M' ∧ 0 ≤ v ∧ v ≤ 1 ∧ (v = 1 → a0 ≤ M'.1 1 11 ∧ M'.1 1 11 ≤ a1) ∧ (∀ (t : TXT) (σ : PSt), CS M0 t σ → LRc t (numS t a0 a1 σ) v M') ∧ (∀ (t : TXT) (σ : PSt), CS M0 t σ → v = 1 → M'.1 1 11 = kV t σ) ∧ (LFr ml_X10_takesNumber_1p M0 M') ∧ (∀ (t : TXT) (σ : PSt), CS M0 t σ → KCc (numK t σ) v M'))) := by
 refine ⟨jr_X10_takesNumber, pj_X10_takesNumber, fun F c1 c2 c3 => ?_⟩
 have hm := pj_X10_takesNumber
 change F 0 [some (.inr (.inr (.inl 1))), some (.inl a0), some (.inl a1)] [] M0
 have hF0 : Fr md_X10_takesNumber_1k M0 M0 := Fr.rf _ _
 refine jx_load c1 hm rfl rfl rfl rfl ?_
 obtain ⟨z1, k2, lz1, uz1⟩ := hH0.ld (c := 1) (i := 6) (A := 0) (B := 4) (bs_19_4 _ _ (by omega) (by omega))
 refine jx_geti c1 hm rfl sh_1 rfl k2 ?_
 refine jy_ic c1 hm rfl (by decide) ?_
 refine jc_eq c1 hm 18 rfl rfl (fun h3 => ?_) (fun h3 => ?_)
 ·
  refine jx_load c1 hm rfl rfl rfl rfl ?_
  obtain ⟨z4, k5, lz4, uz4⟩ := hH0.ld (c := 1) (i := 9) (A := (-2147483648)) (B := 2147483647) (bs_19_6 _ _ (by omega) (by omega))
  refine jx_geti c1 hm rfl sh_1 rfl k5 ?_
  refine jx_load c1 hm rfl rfl rfl rfl ?_
  refine jc_lt c1 hm 34 rfl rfl (fun h6 => ?_) (fun h6 => ?_)
  ·
   refine jx_load c1 hm rfl rfl rfl rfl ?_
   refine jy_ic c1 hm rfl (by decide) ?_
   refine jx_load c1 hm rfl rfl rfl rfl ?_
   obtain ⟨z7, k8, lz7, uz7⟩ := hH0.ld (c := 1) (i := 5) (A := 0) (B := 940) (bs_19_3 _ _ (by omega) (by omega))
   refine jx_geti c1 hm rfl sh_1 rfl k8 ?_
   refine jv_i c3 hm rfl pj_X10_fails rfl rfl ⟨_, _, _, rfl, sh_1⟩ rfl ((ct_X10_fails_1p X (by omega) M0 hH0 2 ⟨by omega, by omega⟩ z7 ⟨by omega, by omega⟩).le (by decide)) (fun z9 M15 ⟨hH15, hR15, lz9, uz9, p10, p11, p12, p13, p14⟩ => ?_)
   have hF15 := hF0.tr hR15 (by decide +kernel)
   obtain ⟨z16, k17, lz16, uz16⟩ := hH15.ld (c := 1) (i := 12) (A := 0) (B := 4) (bs_19_8 _ _ (by omega) (by omega))
   obtain ⟨z18, k19, lz18, uz18⟩ := hH15.ld (c := 1) (i := 13) (A := 0) (B := 940) (bs_19_9 _ _ (by omega) (by omega))
   obtain ⟨z20, k21, lz20, uz20⟩ := hH15.ld (c := 1) (i := 11) (A := 0) (B := 999) (bs_19_7 _ _ (by omega) (by omega))
   exact jx_retz c2 hm rfl rfl ⟨by omega, by omega⟩ ⟨_, rfl, hH15, hF15, by omega, by omega, (by omega), (fun t σ hσ => num_no hσ (by omega) (by omega) (by omega) (by omega)), (fun t σ hσ y => absurd y (by omega)), ((LFr.rf _ _).tr p14 (by decide +kernel)), (fun t σ hσ => KCc.of (by have y9 := hσ.kind; unfold numK; split <;> omega))⟩
  refine jx_load c1 hm rfl rfl rfl rfl ?_
  refine jx_geti c1 hm rfl sh_1 rfl k5 ?_
  refine jx_load c1 hm rfl rfl rfl rfl ?_
  refine jc_le c1 hm 44 rfl rfl (fun h22 => ?_) (fun h22 => ?_)
  ·
   refine jx_load c1 hm rfl rfl rfl rfl ?_
   refine jx_load c1 hm rfl rfl rfl rfl ?_
   refine jx_geti c1 hm rfl sh_1 rfl k5 ?_
   skip
   obtain ⟨M23, e23, hH23, hF23, k23, n23, q23⟩ := mup hH0 hF0 (c := 1) (i := 11) (v := z4) (A := 0) (B := 999) (bs_19_7 _ _ (by omega) (by omega)) ⟨by omega, by omega⟩ (jin_of 5 rfl ⟨by omega, by omega⟩)
   refine jm_puti c1 hm rfl sh_1 rfl e23 ?_
   refine jx_load c1 hm rfl rfl rfl rfl ?_
   obtain ⟨z24, k25, lz24, uz24⟩ := hH23.ld (c := 1) (i := 2) (A := 0) (B := 940) (bs_19_1 _ _ (by omega) (by omega))
   obtain ⟨z26, k27, lz26, uz26⟩ := hH23.ld (c := 1) (i := 4) (A := 0) (B := 940) (bs_19_3 _ _ (by omega) (by omega))
   refine jv_v c3 hm rfl pj_X10_next rfl rfl ⟨_, _, _, rfl, sh_1⟩ rfl ((ct_X10_next_1p X (by omega) M23 hH23 ).le (by decide)) (fun M30 ⟨hH30, hR30, p28, p29⟩ => ?_)
   have hF30 := hF23.tr hR30 (by decide +kernel)
   refine jy_ic c1 hm rfl (by decide) ?_
   have k31 : M30.1 1 11 = z4 := (hR30 1 11 (by decide +kernel)).trans k23
   exact jx_retz c2 hm rfl rfl ⟨by omega, by omega⟩ ⟨_, rfl, hH30, hF30, by omega, by omega, (by omega), (fun t σ hσ => num_go hσ (by omega) ⟨by omega, by omega⟩ (CS.put rfl hσ n23 q23) rfl p28 (hR30 1 12 rfl) hR30 p29 (by decide +kernel)), (fun t σ hσ _ => ((hR30 1 11 rfl).trans k23).trans (k5.symm.trans (hσ.val (by have y9 := hσ.kind; omega)))), (((LFr.rf _ _).eq q23).tr p29 (by decide +kernel)), (fun t σ hσ => KCc.y (by omega))⟩
  refine jx_load c1 hm rfl rfl rfl rfl ?_
  refine jy_ic c1 hm rfl (by decide) ?_
  refine jx_load c1 hm rfl rfl rfl rfl ?_
  obtain ⟨z32, k33, lz32, uz32⟩ := hH0.ld (c := 1) (i := 5) (A := 0) (B := 940) (bs_19_3 _ _ (by omega) (by omega))
  refine jx_geti c1 hm rfl sh_1 rfl k33 ?_
  refine jv_i c3 hm rfl pj_X10_fails rfl rfl ⟨_, _, _, rfl, sh_1⟩ rfl ((ct_X10_fails_1p X (by omega) M0 hH0 2 ⟨by omega, by omega⟩ z32 ⟨by omega, by omega⟩).le (by decide)) (fun z34 M40 ⟨hH40, hR40, lz34, uz34, p35, p36, p37, p38, p39⟩ => ?_)
  have hF40 := hF0.tr hR40 (by decide +kernel)
  obtain ⟨z41, k42, lz41, uz41⟩ := hH40.ld (c := 1) (i := 12) (A := 0) (B := 4) (bs_19_8 _ _ (by omega) (by omega))
  obtain ⟨z43, k44, lz43, uz43⟩ := hH40.ld (c := 1) (i := 13) (A := 0) (B := 940) (bs_19_9 _ _ (by omega) (by omega))
  obtain ⟨z45, k46, lz45, uz45⟩ := hH40.ld (c := 1) (i := 11) (A := 0) (B := 999) (bs_19_7 _ _ (by omega) (by omega))
  exact jx_retz c2 hm rfl rfl ⟨by omega, by omega⟩ ⟨_, rfl, hH40, hF40, by omega, by omega, (by omega), (fun t σ hσ => num_no hσ (by omega) (by omega) (by omega) (by omega)), (fun t σ hσ y => absurd y (by omega)), ((LFr.rf _ _).tr p39 (by decide +kernel)), (fun t σ hσ => KCc.of (by have y9 := hσ.kind; unfold numK; split <;> omega))⟩
 refine jx_load c1 hm rfl rfl rfl rfl ?_
 refine jy_ic c1 hm rfl (by decide) ?_
 refine jx_load c1 hm rfl rfl rfl rfl ?_
 obtain ⟨z47, k48, lz47, uz47⟩ := hH0.ld (c := 1) (i := 5) (A := 0) (B := 940) (bs_19_3 _ _ (by omega) (by omega))
 refine jx_geti c1 hm rfl sh_1 rfl k48 ?_
 refine jv_i c3 hm rfl pj_X10_fails rfl rfl ⟨_, _, _, rfl, sh_1⟩ rfl ((ct_X10_fails_1p X (by omega) M0 hH0 1 ⟨by omega, by omega⟩ z47 ⟨by omega, by omega⟩).le (by decide)) (fun z49 M55 ⟨hH55, hR55, lz49, uz49, p50, p51, p52, p53, p54⟩ => ?_)
 have hF55 := hF0.tr hR55 (by decide +kernel)
 obtain ⟨z56, k57, lz56, uz56⟩ := hH55.ld (c := 1) (i := 12) (A := 0) (B := 4) (bs_19_8 _ _ (by omega) (by omega))
 obtain ⟨z58, k59, lz58, uz58⟩ := hH55.ld (c := 1) (i := 13) (A := 0) (B := 940) (bs_19_9 _ _ (by omega) (by omega))
 obtain ⟨z60, k61, lz60, uz60⟩ := hH55.ld (c := 1) (i := 11) (A := 0) (B := 999) (bs_19_7 _ _ (by omega) (by omega))
 exact jx_retz c2 hm rfl rfl ⟨by omega, by omega⟩ ⟨_, rfl, hH55, hF55, by omega, by omega, (by omega), (fun t σ hσ => num_no hσ (by omega) (by omega) (by omega) (by omega)), (fun t σ hσ y => absurd y (by omega)), ((LFr.rf _ _).tr p54 (by decide +kernel)), (fun t σ hσ => KCc.of (by have y9 := hσ.kind; unfold numK; split <;> omega))⟩
def md_X2_readMan_27_1k : List (Nat × (Nat × Nat)) := [(1, (4, 4)), (1, (5, 5)), (1, (6, 6)), (1, (7, 7)), (1, (9, 9)), (1, (11, 11)), (1, (12, 12)), (1, (13, 13)), (28, (0, 2)), (30, (0, 5)), (35, (0, 5))]
theorem ct_X2_readMan_27_1k (X : Int) (hX : 0 ≤ X ∧ X ≤ 100000000) (M0 : JM) (hH0 : HI X M0)  : JOk shp PJ 4 226 [.inr (.inr (.inl 27)), .inr (.inr (.inl 1))] M0 (jRi (fun v M' => HI X M' ∧ Fr md_X2_readMan_27_1k M0 M' ∧ 0 ≤ v ∧ v ≤ 1 ∧ (∀ (t : TXT) (σ : PSt), CS M0 t σ → 2 ≤ kK t σ → LRc t (manS t σ) v M') ∧ (LFr ml_X2_readMan_27_1p M0 M') ∧ (∀ (t : TXT) (σ : PSt), CS M0 t σ → 2 ≤ kK t σ → KCc (manK t σ) v M'))) := by
 refine ⟨jr_X2_readMan, pj_X2_readMan, fun F c1 c2 c3 => ?_⟩
 have hm := pj_X2_readMan
 change F 0 [some (.inr (.inr (.inl 27))), some (.inr (.inr (.inl 1))), none] [] M0
 have hF0 : Fr md_X2_readMan_27_1k M0 M0 := Fr.rf _ _
 refine jx_load c1 hm rfl rfl rfl rfl ?_
 refine jx_load c1 hm rfl rfl rfl rfl ?_
 refine jy_ic c1 hm rfl (by decide) ?_
 refine jv_i c3 hm rfl pj_X2_takesFirstWord rfl rfl ⟨_, _, _, rfl, sh_27⟩ rfl ((ct_X2_takesFirstWord_27_1k X (by omega) M0 hH0 0 ⟨by omega, by omega⟩).le (by decide)) (fun z1 M5 ⟨hH5, hR5, lz1, uz1, p2, p3, p4⟩ => ?_)
 have hF5 := hF0.tr hR5 (by decide +kernel)
 refine jz_eq c1 hm 27 rfl rfl (fun h6 => ?_) (fun h6 => ?_)
 ·
  refine jy_ic c1 hm rfl (by decide) ?_
  exact jx_retz c2 hm rfl rfl ⟨by omega, by omega⟩ ⟨_, rfl, hH5, hF5, by omega, by omega, (fun t σ hσ hk => LRc.seqz (p2 t σ hσ hk) (by omega)), ((LFr.rf _ _).tr p3 (by decide +kernel)), (fun t σ hσ hk => KCc.seqz (p2 t σ hσ hk) (p4 t σ hσ) (by omega))⟩
 refine jx_load c1 hm rfl rfl rfl rfl ?_
 refine jx_load c1 hm rfl rfl rfl rfl ?_
 refine jv_i c3 hm rfl pj_X10_takesNewName rfl rfl ⟨_, _, _, rfl, sh_1⟩ rfl ((ct_X10_takesNewName_1_27k X (by omega) M5 hH5 ).le (by decide)) (fun z7 M12 ⟨hH12, hR12, lz7, uz7, p8, p9, p10, p11⟩ => ?_)
 have hF12 := hF5.tr hR12 (by decide +kernel)
 refine jz_eq c1 hm 27 rfl rfl (fun h13 => ?_) (fun h13 => ?_)
 ·
  refine jy_ic c1 hm rfl (by decide) ?_
  exact jx_retz c2 hm rfl rfl ⟨by omega, by omega⟩ ⟨_, rfl, hH12, hF12, by omega, by omega, (fun t σ hσ hk => LRc.seqg (p2 t σ hσ hk) (by omega) (fun l1 h1 => LRc.seqz (p8 t _ 0 (by decide) h1 (by rw [(fst_lt hσ.2.2.2 l1).1]; exact (fst_lt hσ.2.2.2 l1).2)) (by omega))), (((LFr.rf _ _).tr p3 (by decide +kernel)).tr p10 (by decide +kernel)), (fun t σ hσ hk => KCc.seqg (p2 t σ hσ hk) (by omega) (fun l1 h1 => KCc.seqz (p8 t _ 0 (by decide) h1 (by rw [(fst_lt hσ.2.2.2 l1).1]; exact (fst_lt hσ.2.2.2 l1).2)) (p11 t _ h1) (by omega)))⟩
 refine jx_load c1 hm rfl rfl rfl rfl ?_
 refine jy_ic c1 hm rfl (by decide) ?_
 refine jy_bp c1 hm rfl (by decide) ?_
 refine jv_i c3 hm rfl pj_X10_takesNumber rfl rfl ⟨_, _, _, rfl, sh_1⟩ rfl ((ct_X10_takesNumber_1k X (by omega) M12 hH12 0 ⟨by omega, by omega⟩ 99 ⟨by omega, by omega⟩).le (by decide)) (fun z14 M20 ⟨hH20, hR20, lz14, uz14, p15, p16, p17, p18, p19⟩ => ?_)
 have hF20 := hF12.tr hR20 (by decide +kernel)
 obtain ⟨z21, k22, lz21, uz21⟩ := hH20.ld (c := 1) (i := 11) (A := 0) (B := 999) (bs_19_7 _ _ (by omega) (by omega))
 refine jz_ne c1 hm 29 rfl rfl (fun h23 => ?_) (fun h23 => ?_)
 ·
  refine jx_load c1 hm rfl rfl rfl rfl ?_
  refine jy_ic c1 hm rfl (by decide) ?_
  refine jx_load c1 hm rfl rfl rfl rfl ?_
  obtain ⟨w24, kw24⟩ : ∃ w, M20.2 1 10 = w := ⟨_, rfl⟩
  refine jx_getl c1 hm rfl sh_1 rfl kw24 ?_
  skip
  refine jv_i c3 hm rfl pj_X2_addName rfl rfl ⟨_, _, _, rfl, sh_27⟩ rfl ((ct_X2_addName_27p X (by omega) M20 hH20 0 ⟨by omega, by omega⟩ w24).le (by decide)) (fun z25 M28 ⟨hH28, hR28, lz25, uz25, p26, p27⟩ => ?_)
  have hF28 := hF20.tr hR28 (by decide +kernel)
  refine jx_stor c1 hm (L' := [some (.inr (.inr (.inl 27))), some (.inr (.inr (.inl 1))), some (.inl z25)]) rfl rfl rfl rfl rfl ?_
  refine jx_load c1 hm rfl rfl rfl rfl ?_
  refine jx_getr c1 hm rfl sh_27 rfl ?_
  refine jx_load c1 hm rfl rfl rfl rfl ?_
  refine jx_load c1 hm rfl rfl rfl rfl ?_
  have k29 : M28.1 1 11 = z21 := (hR28 1 11 (by decide +kernel)).trans k22
  refine jx_geti c1 hm rfl sh_1 rfl k29 ?_
  obtain ⟨M30, e30, hH30, hF30, k30, n30, q30⟩ := mup hH28 hF28 (c := 30) (i := (z25).toNat) (v := z21) (A := 0) (B := 99) rfl ⟨by omega, by omega⟩ (jin_of 9 rfl ⟨by omega, by omega⟩)
  refine jm_iast c1 hm rfl sh_30 ⟨by omega, by omega⟩ e30 ?_
  refine jx_load c1 hm rfl rfl rfl rfl ?_
  refine jx_getr c1 hm rfl sh_27 rfl ?_
  refine jx_getr c1 hm rfl sh_34 rfl ?_
  refine jx_load c1 hm rfl rfl rfl rfl ?_
  refine jx_load c1 hm rfl rfl rfl rfl ?_
  have k31 : M30.1 1 11 = z21 := (n30 1 11 (fun h => absurd h.1 (by decide))).trans k29
  refine jx_geti c1 hm rfl sh_1 rfl k31 ?_
  obtain ⟨M32, e32, hH32, hF32, k32, n32, q32⟩ := mup hH30 hF30 (c := 35) (i := (z25).toNat) (v := z21) (A := (-2147483648)) (B := 2147483647) rfl ⟨by omega, by omega⟩ (jin_of 10 rfl ⟨by omega, by omega⟩)
  refine jm_iast c1 hm rfl sh_35 ⟨by omega, by omega⟩ e32 ?_
  refine jy_ic c1 hm rfl (by decide) ?_
  exact jx_retz c2 hm rfl rfl ⟨by omega, by omega⟩ ⟨_, rfl, hH32, hF32, by omega, by omega, (fun t σ hσ hk => LRc.seqg (p2 t σ hσ hk) (by omega) (fun l1 h1 => LRc.seqg (p8 t _ 0 (by decide) h1 (by rw [(fst_lt hσ.2.2.2 l1).1]; exact (fst_lt hσ.2.2.2 l1).2)) (by omega) (fun l2 h2 => LRc.seqg (p16 t _ h2) (by omega) (fun l3 h3 => LRc.o (CS.st (CS.st (add_fin (by decide) h1 (by rw [(fst_lt hσ.2.2.2 l1).1]; exact (fst_lt hσ.2.2.2 l1).2) (p9 t _ h1 (by omega)).1 (p9 t _ h1 (by omega)).2.1 l2 (num_e3 h2.2.2.2 l3) h3 (by rw [← kw24, (p18 1 10 rfl)]; exact (p9 t _ h1 (by omega)).2.2) (p26 (add_cnt (s := 0) (by decide) h1 (by rw [(fst_lt hσ.2.2.2 l1).1]; exact (fst_lt hσ.2.2.2 l1).2) l2 (num_e3 h2.2.2.2 l3) h3)).2) n30 q30 rfl) n32 q32 rfl) (show (-1 : Int) < 0 by decide))))), (((((((LFr.rf _ _).tr p3 (by decide +kernel)).tr p10 (by decide +kernel)).tr p18 (by decide +kernel)).tr p27 (by decide +kernel)).eq q30).eq q32), (fun t σ hσ hk => KCc.y (by omega))⟩
 refine jy_ic c1 hm rfl (by decide) ?_
 exact jx_retz c2 hm rfl rfl ⟨by omega, by omega⟩ ⟨_, rfl, hH20, hF20, by omega, by omega, (fun t σ hσ hk => LRc.seqg (p2 t σ hσ hk) (by omega) (fun l1 h1 => LRc.seqg (p8 t _ 0 (by decide) h1 (by rw [(fst_lt hσ.2.2.2 l1).1]; exact (fst_lt hσ.2.2.2 l1).2)) (by omega) (fun l2 h2 => LRc.seqz (p16 t _ h2) (by omega)))), ((((LFr.rf _ _).tr p3 (by decide +kernel)).tr p10 (by decide +kernel)).tr p18 (by decide +kernel)), (fun t σ hσ hk => KCc.seqg (p2 t σ hσ hk) (by omega) (fun l1 h1 => KCc.seqg (p8 t _ 0 (by decide) h1 (by rw [(fst_lt hσ.2.2.2 l1).1]; exact (fst_lt hσ.2.2.2 l1).2)) (by omega) (fun l2 h2 => (p19 t _ h2).vc (by omega))))⟩
def md_X2_readForfeit_27_1k : List (Nat × (Nat × Nat)) := [(1, (4, 4)), (1, (5, 5)), (1, (6, 6)), (1, (7, 7)), (1, (9, 9)), (1, (11, 11)), (1, (12, 12)), (1, (13, 13)), (28, (0, 2)), (31, (0, 5))]
theorem ct_X2_readForfeit_27_1k (X : Int) (hX : 0 ≤ X ∧ X ≤ 100000000) (M0 : JM) (hH0 : HI X M0)  : JOk shp PJ 4 222 [.inr (.inr (.inl 27)), .inr (.inr (.inl 1))] M0 (jRi (fun v M' => HI X M' ∧ Fr md_X2_readForfeit_27_1k M0 M' ∧ 0 ≤ v ∧ v ≤ 1 ∧ (∀ (t : TXT) (σ : PSt), CS M0 t σ → 2 ≤ kK t σ → LRc t (forS t σ) v M') ∧ (LFr ml_X2_readForfeit_27_1p M0 M') ∧ (∀ (t : TXT) (σ : PSt), CS M0 t σ → 2 ≤ kK t σ → KCc (forK t σ) v M'))) := by
 refine ⟨jr_X2_readForfeit, pj_X2_readForfeit, fun F c1 c2 c3 => ?_⟩
 have hm := pj_X2_readForfeit
 change F 0 [some (.inr (.inr (.inl 27))), some (.inr (.inr (.inl 1)))] [] M0
 have hF0 : Fr md_X2_readForfeit_27_1k M0 M0 := Fr.rf _ _
 refine jx_load c1 hm rfl rfl rfl rfl ?_
 refine jx_load c1 hm rfl rfl rfl rfl ?_
 refine jy_ic c1 hm rfl (by decide) ?_
 refine jv_i c3 hm rfl pj_X2_takesFirstWord rfl rfl ⟨_, _, _, rfl, sh_27⟩ rfl ((ct_X2_takesFirstWord_27_1k X (by omega) M0 hH0 1 ⟨by omega, by omega⟩).le (by decide)) (fun z1 M5 ⟨hH5, hR5, lz1, uz1, p2, p3, p4⟩ => ?_)
 have hF5 := hF0.tr hR5 (by decide +kernel)
 refine jz_eq c1 hm 27 rfl rfl (fun h6 => ?_) (fun h6 => ?_)
 ·
  refine jy_ic c1 hm rfl (by decide) ?_
  exact jx_retz c2 hm rfl rfl ⟨by omega, by omega⟩ ⟨_, rfl, hH5, hF5, by omega, by omega, (fun t σ hσ hk => LRc.seqz (p2 t σ hσ hk) (by omega)), ((LFr.rf _ _).tr p3 (by decide +kernel)), (fun t σ hσ hk => KCc.seqz (p2 t σ hσ hk) (p4 t σ hσ) (by omega))⟩
 refine jx_load c1 hm rfl rfl rfl rfl ?_
 refine jx_load c1 hm rfl rfl rfl rfl ?_
 refine jv_i c3 hm rfl pj_X10_takesNewName rfl rfl ⟨_, _, _, rfl, sh_1⟩ rfl ((ct_X10_takesNewName_1_27k X (by omega) M5 hH5 ).le (by decide)) (fun z7 M12 ⟨hH12, hR12, lz7, uz7, p8, p9, p10, p11⟩ => ?_)
 have hF12 := hF5.tr hR12 (by decide +kernel)
 refine jz_eq c1 hm 27 rfl rfl (fun h13 => ?_) (fun h13 => ?_)
 ·
  refine jy_ic c1 hm rfl (by decide) ?_
  exact jx_retz c2 hm rfl rfl ⟨by omega, by omega⟩ ⟨_, rfl, hH12, hF12, by omega, by omega, (fun t σ hσ hk => LRc.seqg (p2 t σ hσ hk) (by omega) (fun l1 h1 => LRc.seqz (p8 t _ 1 (by decide) h1 (by rw [(fst_lt hσ.2.2.2 l1).1]; exact (fst_lt hσ.2.2.2 l1).2)) (by omega))), (((LFr.rf _ _).tr p3 (by decide +kernel)).tr p10 (by decide +kernel)), (fun t σ hσ hk => KCc.seqg (p2 t σ hσ hk) (by omega) (fun l1 h1 => KCc.seqz (p8 t _ 1 (by decide) h1 (by rw [(fst_lt hσ.2.2.2 l1).1]; exact (fst_lt hσ.2.2.2 l1).2)) (p11 t _ h1) (by omega)))⟩
 refine jx_load c1 hm rfl rfl rfl rfl ?_
 refine jy_ic c1 hm rfl (by decide) ?_
 refine jy_bp c1 hm rfl (by decide) ?_
 refine jv_i c3 hm rfl pj_X10_takesNumber rfl rfl ⟨_, _, _, rfl, sh_1⟩ rfl ((ct_X10_takesNumber_1k X (by omega) M12 hH12 0 ⟨by omega, by omega⟩ 20 ⟨by omega, by omega⟩).le (by decide)) (fun z14 M20 ⟨hH20, hR20, lz14, uz14, p15, p16, p17, p18, p19⟩ => ?_)
 have hF20 := hF12.tr hR20 (by decide +kernel)
 obtain ⟨z21, k22, lz21, uz21⟩ := hH20.ld (c := 1) (i := 11) (A := 0) (B := 999) (bs_19_7 _ _ (by omega) (by omega))
 refine jz_ne c1 hm 29 rfl rfl (fun h23 => ?_) (fun h23 => ?_)
 ·
  refine jx_load c1 hm rfl rfl rfl rfl ?_
  refine jx_getr c1 hm rfl sh_27 rfl ?_
  refine jx_load c1 hm rfl rfl rfl rfl ?_
  refine jy_ic c1 hm rfl (by decide) ?_
  refine jx_load c1 hm rfl rfl rfl rfl ?_
  obtain ⟨w24, kw24⟩ : ∃ w, M20.2 1 10 = w := ⟨_, rfl⟩
  refine jx_getl c1 hm rfl sh_1 rfl kw24 ?_
  skip
  refine jv_i c3 hm rfl pj_X2_addName rfl rfl ⟨_, _, _, rfl, sh_27⟩ rfl ((ct_X2_addName_27p X (by omega) M20 hH20 1 ⟨by omega, by omega⟩ w24).le (by decide)) (fun z25 M28 ⟨hH28, hR28, lz25, uz25, p26, p27⟩ => ?_)
  have hF28 := hF20.tr hR28 (by decide +kernel)
  refine jx_load c1 hm rfl rfl rfl rfl ?_
  have k29 : M28.1 1 11 = z21 := (hR28 1 11 (by decide +kernel)).trans k22
  refine jx_geti c1 hm rfl sh_1 rfl k29 ?_
  obtain ⟨M30, e30, hH30, hF30, k30, n30, q30⟩ := mup hH28 hF28 (c := 31) (i := (z25).toNat) (v := z21) (A := 0) (B := 20) rfl ⟨by omega, by omega⟩ (jin_of 9 rfl ⟨by omega, by omega⟩)
  refine jm_iast c1 hm rfl sh_31 ⟨by omega, by omega⟩ e30 ?_
  refine jy_ic c1 hm rfl (by decide) ?_
  exact jx_retz c2 hm rfl rfl ⟨by omega, by omega⟩ ⟨_, rfl, hH30, hF30, by omega, by omega, (fun t σ hσ hk => LRc.seqg (p2 t σ hσ hk) (by omega) (fun l1 h1 => LRc.seqg (p8 t _ 1 (by decide) h1 (by rw [(fst_lt hσ.2.2.2 l1).1]; exact (fst_lt hσ.2.2.2 l1).2)) (by omega) (fun l2 h2 => LRc.seqg (p16 t _ h2) (by omega) (fun l3 h3 => LRc.o (CS.st (add_fin (by decide) h1 (by rw [(fst_lt hσ.2.2.2 l1).1]; exact (fst_lt hσ.2.2.2 l1).2) (p9 t _ h1 (by omega)).1 (p9 t _ h1 (by omega)).2.1 l2 (num_e3 h2.2.2.2 l3) h3 (by rw [← kw24, (p18 1 10 rfl)]; exact (p9 t _ h1 (by omega)).2.2) (p26 (add_cnt (s := 1) (by decide) h1 (by rw [(fst_lt hσ.2.2.2 l1).1]; exact (fst_lt hσ.2.2.2 l1).2) l2 (num_e3 h2.2.2.2 l3) h3)).2) n30 q30 rfl) (show (-1 : Int) < 0 by decide))))), ((((((LFr.rf _ _).tr p3 (by decide +kernel)).tr p10 (by decide +kernel)).tr p18 (by decide +kernel)).tr p27 (by decide +kernel)).eq q30), (fun t σ hσ hk => KCc.y (by omega))⟩
 refine jy_ic c1 hm rfl (by decide) ?_
 exact jx_retz c2 hm rfl rfl ⟨by omega, by omega⟩ ⟨_, rfl, hH20, hF20, by omega, by omega, (fun t σ hσ hk => LRc.seqg (p2 t σ hσ hk) (by omega) (fun l1 h1 => LRc.seqg (p8 t _ 1 (by decide) h1 (by rw [(fst_lt hσ.2.2.2 l1).1]; exact (fst_lt hσ.2.2.2 l1).2)) (by omega) (fun l2 h2 => LRc.seqz (p16 t _ h2) (by omega)))), ((((LFr.rf _ _).tr p3 (by decide +kernel)).tr p10 (by decide +kernel)).tr p18 (by decide +kernel)), (fun t σ hσ hk => KCc.seqg (p2 t σ hσ hk) (by omega) (fun l1 h1 => KCc.seqg (p8 t _ 1 (by decide) h1 (by rw [(fst_lt hσ.2.2.2 l1).1]; exact (fst_lt hσ.2.2.2 l1).2)) (by omega) (fun l2 h2 => (p19 t _ h2).vc (by omega))))⟩
def md_X10_takesName_1_27k : List (Nat × (Nat × Nat)) := [(1, (4, 4)), (1, (5, 5)), (1, (6, 6)), (1, (7, 7)), (1, (9, 9)), (1, (11, 11)), (1, (12, 12)), (1, (13, 13))]
theorem ct_X10_takesName_1_27k (X : Int) (hX : 0 ≤ X ∧ X ≤ 100000000) (M0 : JM) (hH0 : HI X M0) (a0 : Int) (ha0 : 0 ≤ a0 ∧ a0 ≤ 2) : JOk shp PJ 3 21 [.inr (.inr (.inl 1)), .inr (.inr (.inl 27)), .inl a0] M0 (jRi (fun v M' => HI X M' ∧ Fr md_X10_takesName_1_27k M0 M' ∧ 0 ≤ v ∧ v ≤ 1 ∧ (v = 1 → M'.1 1 11 ≤ 5) ∧ (∀ (t : TXT) (σ : PSt) (g : Int → PSt → RES), CS M0 t σ → NMP t a0 g σ v M') ∧ (LFr ml_X10_takesName_1_27p M0 M') ∧ (∀ (t : TXT) (σ : PSt), CS M0 t σ → KCc (nmK t σ) v M'))) := by
 refine ⟨jr_X10_takesName, pj_X10_takesName, fun F c1 c2 c3 => ?_⟩
 have hm := pj_X10_takesName
 change F 0 [some (.inr (.inr (.inl 1))), some (.inr (.inr (.inl 27))), some (.inl a0), none] [] M0
 have hF0 : Fr md_X10_takesName_1_27k M0 M0 := Fr.rf _ _
 refine jx_load c1 hm rfl rfl rfl rfl ?_
 obtain ⟨z1, k2, lz1, uz1⟩ := hH0.ld (c := 1) (i := 6) (A := 0) (B := 4) (bs_19_4 _ _ (by omega) (by omega))
 refine jx_geti c1 hm rfl sh_1 rfl k2 ?_
 refine jy_ic c1 hm rfl (by decide) ?_
 refine jc_ne c1 hm 16 rfl rfl (fun h3 => ?_) (fun h3 => ?_)
 ·
  refine jx_load c1 hm rfl rfl rfl rfl ?_
  refine jy_ic c1 hm rfl (by decide) ?_
  refine jx_load c1 hm rfl rfl rfl rfl ?_
  obtain ⟨z4, k5, lz4, uz4⟩ := hH0.ld (c := 1) (i := 5) (A := 0) (B := 940) (bs_19_3 _ _ (by omega) (by omega))
  refine jx_geti c1 hm rfl sh_1 rfl k5 ?_
  refine jv_i c3 hm rfl pj_X10_fails rfl rfl ⟨_, _, _, rfl, sh_1⟩ rfl ((ct_X10_fails_1p X (by omega) M0 hH0 1 ⟨by omega, by omega⟩ z4 ⟨by omega, by omega⟩).le (by decide)) (fun z6 M12 ⟨hH12, hR12, lz6, uz6, p7, p8, p9, p10, p11⟩ => ?_)
  have hF12 := hF0.tr hR12 (by decide +kernel)
  obtain ⟨z13, k14, lz13, uz13⟩ := hH12.ld (c := 1) (i := 12) (A := 0) (B := 4) (bs_19_8 _ _ (by omega) (by omega))
  obtain ⟨z15, k16, lz15, uz15⟩ := hH12.ld (c := 1) (i := 13) (A := 0) (B := 940) (bs_19_9 _ _ (by omega) (by omega))
  obtain ⟨z17, k18, lz17, uz17⟩ := hH12.ld (c := 1) (i := 11) (A := 0) (B := 999) (bs_19_7 _ _ (by omega) (by omega))
  exact jx_retz c2 hm rfl rfl ⟨by omega, by omega⟩ ⟨_, rfl, hH12, hF12, by omega, by omega, (by omega), (fun t σ g hσ => nam_no hσ (Or.inl (by omega)) (by omega) (by omega) (by omega)), ((LFr.rf _ _).tr p11 (by decide +kernel)), (fun t σ hσ => KCc.of ((show M12.1 1 12 = 1 by omega).trans (nmK_1 (fun q => absurd (hσ.isn.mp q) (by omega))).symm))⟩
 refine jx_load c1 hm rfl rfl rfl rfl ?_
 obtain ⟨z19, k20, lz19, uz19⟩ := hH0.ld (c := 1) (i := 7) (A := (-1)) (B := 23) (bs_19_5 _ _ (by omega) (by omega))
 refine jx_geti c1 hm rfl sh_1 rfl k20 ?_
 refine jy_ic c1 hm rfl (by decide) ?_
 refine jc_eq c1 hm 26 rfl rfl (fun h21 => ?_) (fun h21 => ?_)
 ·
  refine jx_load c1 hm rfl rfl rfl rfl ?_
  refine jx_load c1 hm rfl rfl rfl rfl ?_
  obtain ⟨w22, kw22⟩ : ∃ w, M0.2 1 8 = w := ⟨_, rfl⟩
  refine jx_getl c1 hm rfl sh_1 rfl kw22 ?_
  skip
  refine jv_i c3 hm rfl pj_X2_placeOf rfl rfl ⟨_, _, _, rfl, sh_27⟩ rfl ((ct_X2_placeOf_27p X (by omega) M0 hH0 w22).le (by decide)) (fun z23 _ ⟨rfl, lz23, uz23, p24⟩ => ?_)
  skip
  refine jx_stor c1 hm (L' := [some (.inr (.inr (.inl 1))), some (.inr (.inr (.inl 27))), some (.inl a0), some (.inl z23)]) rfl rfl rfl rfl rfl ?_
  refine jx_load c1 hm rfl rfl rfl rfl ?_
  refine jy_ic c1 hm rfl (by decide) ?_
  refine jc_eq c1 hm 48 rfl rfl (fun h25 => ?_) (fun h25 => ?_)
  ·
   refine jx_load c1 hm rfl rfl rfl rfl ?_
   refine jy_ic c1 hm rfl (by decide) ?_
   refine jx_load c1 hm rfl rfl rfl rfl ?_
   obtain ⟨z26, k27, lz26, uz26⟩ := hH0.ld (c := 1) (i := 5) (A := 0) (B := 940) (bs_19_3 _ _ (by omega) (by omega))
   refine jx_geti c1 hm rfl sh_1 rfl k27 ?_
   refine jv_i c3 hm rfl pj_X10_fails rfl rfl ⟨_, _, _, rfl, sh_1⟩ rfl ((ct_X10_fails_1p X (by omega) M0 hH0 3 ⟨by omega, by omega⟩ z26 ⟨by omega, by omega⟩).le (by decide)) (fun z28 M34 ⟨hH34, hR34, lz28, uz28, p29, p30, p31, p32, p33⟩ => ?_)
   have hF34 := hF0.tr hR34 (by decide +kernel)
   obtain ⟨z35, k36, lz35, uz35⟩ := hH34.ld (c := 1) (i := 12) (A := 0) (B := 4) (bs_19_8 _ _ (by omega) (by omega))
   obtain ⟨z37, k38, lz37, uz37⟩ := hH34.ld (c := 1) (i := 13) (A := 0) (B := 940) (bs_19_9 _ _ (by omega) (by omega))
   obtain ⟨z39, k40, lz39, uz39⟩ := hH34.ld (c := 1) (i := 11) (A := 0) (B := 999) (bs_19_7 _ _ (by omega) (by omega))
   exact jx_retz c2 hm rfl rfl ⟨by omega, by omega⟩ ⟨_, rfl, hH34, hF34, by omega, by omega, (by omega), (fun t σ g hσ => nam_no hσ (Or.inr (by have y9 := p24 t σ hσ.2.2.1 hσ.2.2.2 _ (hσ.wkk (hσ.kind.2.2.1.mp (by omega))) ((congrArg Int64.toInt kw22).symm.trans (hσ.word (hσ.kind.2.2.1.mp (by omega)))); omega)) (by omega) (by omega) (by omega)), ((LFr.rf _ _).tr p33 (by decide +kernel)), (fun t σ hσ => KCc.of ((show M34.1 1 12 = 3 by omega).trans (nmK_3 (hσ.isn.mpr ⟨by omega, by omega⟩)).symm))⟩
  refine jx_load c1 hm rfl rfl rfl rfl ?_
  refine jy_bp c1 hm rfl (by decide) ?_
  refine jy_div c1 hm rfl ⟨by omega, by omega, by omega, by omega⟩ (fun z41 ez41 lz41 uz41 => ?_)
  refine jx_load c1 hm rfl rfl rfl rfl ?_
  refine jc_eq c1 hm 58 rfl rfl (fun h42 => ?_) (fun h42 => ?_)
  ·
   refine jx_load c1 hm rfl rfl rfl rfl ?_
   refine jx_load c1 hm rfl rfl rfl rfl ?_
   refine jy_bp c1 hm rfl (by decide) ?_
   refine jy_rem c1 hm rfl ⟨by omega, by omega, by omega, by omega⟩ (fun z43 ez43 lz43 uz43 => ?_)
   obtain ⟨M44, e44, hH44, hF44, k44, n44, q44⟩ := mup hH0 hF0 (c := 1) (i := 11) (v := z43) (A := 0) (B := 999) (bs_19_7 _ _ (by omega) (by omega)) ⟨by omega, by omega⟩ (jin_of 5 rfl ⟨by omega, by omega⟩)
   refine jm_puti c1 hm rfl sh_1 rfl e44 ?_
   refine jx_load c1 hm rfl rfl rfl rfl ?_
   obtain ⟨z45, k46, lz45, uz45⟩ := hH44.ld (c := 1) (i := 2) (A := 0) (B := 940) (bs_19_1 _ _ (by omega) (by omega))
   obtain ⟨z47, k48, lz47, uz47⟩ := hH44.ld (c := 1) (i := 4) (A := 0) (B := 940) (bs_19_3 _ _ (by omega) (by omega))
   refine jv_v c3 hm rfl pj_X10_next rfl rfl ⟨_, _, _, rfl, sh_1⟩ rfl ((ct_X10_next_1p X (by omega) M44 hH44 ).le (by decide)) (fun M51 ⟨hH51, hR51, p49, p50⟩ => ?_)
   have hF51 := hF44.tr hR51 (by decide +kernel)
   refine jy_ic c1 hm rfl (by decide) ?_
   have k52 : M51.1 1 11 = z43 := (hR51 1 11 (by decide +kernel)).trans k44
   exact jx_retz c2 hm rfl rfl ⟨by omega, by omega⟩ ⟨_, rfl, hH51, hF51, by omega, by omega, (by omega), (fun t σ g hσ => nam_go hσ (by omega) (by omega) (p24 t σ hσ.2.2.1 hσ.2.2.2 _ (hσ.wkk (hσ.kind.2.2.1.mp (by omega))) ((congrArg Int64.toInt kw22).symm.trans (hσ.word (hσ.kind.2.2.1.mp (by omega))))) (by omega) (by omega) (CS.put rfl hσ n44 q44) rfl ((hR51 1 11 rfl).trans (by omega)) p49 (hR51 1 12 rfl) hR51 p50 (by decide +kernel)), (((LFr.rf _ _).eq q44).tr p50 (by decide +kernel)), (fun t σ hσ => KCc.y (by omega))⟩
  refine jx_load c1 hm rfl rfl rfl rfl ?_
  refine jy_ic c1 hm rfl (by decide) ?_
  refine jx_load c1 hm rfl rfl rfl rfl ?_
  obtain ⟨z53, k54, lz53, uz53⟩ := hH0.ld (c := 1) (i := 5) (A := 0) (B := 940) (bs_19_3 _ _ (by omega) (by omega))
  refine jx_geti c1 hm rfl sh_1 rfl k54 ?_
  refine jv_i c3 hm rfl pj_X10_fails rfl rfl ⟨_, _, _, rfl, sh_1⟩ rfl ((ct_X10_fails_1p X (by omega) M0 hH0 3 ⟨by omega, by omega⟩ z53 ⟨by omega, by omega⟩).le (by decide)) (fun z55 M61 ⟨hH61, hR61, lz55, uz55, p56, p57, p58, p59, p60⟩ => ?_)
  have hF61 := hF0.tr hR61 (by decide +kernel)
  obtain ⟨z62, k63, lz62, uz62⟩ := hH61.ld (c := 1) (i := 12) (A := 0) (B := 4) (bs_19_8 _ _ (by omega) (by omega))
  obtain ⟨z64, k65, lz64, uz64⟩ := hH61.ld (c := 1) (i := 13) (A := 0) (B := 940) (bs_19_9 _ _ (by omega) (by omega))
  obtain ⟨z66, k67, lz66, uz66⟩ := hH61.ld (c := 1) (i := 11) (A := 0) (B := 999) (bs_19_7 _ _ (by omega) (by omega))
  exact jx_retz c2 hm rfl rfl ⟨by omega, by omega⟩ ⟨_, rfl, hH61, hF61, by omega, by omega, (by omega), (fun t σ g hσ => nam_no hσ (Or.inr (by have y9 := p24 t σ hσ.2.2.1 hσ.2.2.2 _ (hσ.wkk (hσ.kind.2.2.1.mp (by omega))) ((congrArg Int64.toInt kw22).symm.trans (hσ.word (hσ.kind.2.2.1.mp (by omega)))); omega)) (by omega) (by omega) (by omega)), ((LFr.rf _ _).tr p60 (by decide +kernel)), (fun t σ hσ => KCc.of ((show M61.1 1 12 = 3 by omega).trans (nmK_3 (hσ.isn.mpr ⟨by omega, by omega⟩)).symm))⟩
 refine jx_load c1 hm rfl rfl rfl rfl ?_
 refine jy_ic c1 hm rfl (by decide) ?_
 refine jx_load c1 hm rfl rfl rfl rfl ?_
 obtain ⟨z68, k69, lz68, uz68⟩ := hH0.ld (c := 1) (i := 5) (A := 0) (B := 940) (bs_19_3 _ _ (by omega) (by omega))
 refine jx_geti c1 hm rfl sh_1 rfl k69 ?_
 refine jv_i c3 hm rfl pj_X10_fails rfl rfl ⟨_, _, _, rfl, sh_1⟩ rfl ((ct_X10_fails_1p X (by omega) M0 hH0 1 ⟨by omega, by omega⟩ z68 ⟨by omega, by omega⟩).le (by decide)) (fun z70 M76 ⟨hH76, hR76, lz70, uz70, p71, p72, p73, p74, p75⟩ => ?_)
 have hF76 := hF0.tr hR76 (by decide +kernel)
 obtain ⟨z77, k78, lz77, uz77⟩ := hH76.ld (c := 1) (i := 12) (A := 0) (B := 4) (bs_19_8 _ _ (by omega) (by omega))
 obtain ⟨z79, k80, lz79, uz79⟩ := hH76.ld (c := 1) (i := 13) (A := 0) (B := 940) (bs_19_9 _ _ (by omega) (by omega))
 obtain ⟨z81, k82, lz81, uz81⟩ := hH76.ld (c := 1) (i := 11) (A := 0) (B := 999) (bs_19_7 _ _ (by omega) (by omega))
 exact jx_retz c2 hm rfl rfl ⟨by omega, by omega⟩ ⟨_, rfl, hH76, hF76, by omega, by omega, (by omega), (fun t σ g hσ => nam_no hσ (Or.inl (by omega)) (by omega) (by omega) (by omega)), ((LFr.rf _ _).tr p75 (by decide +kernel)), (fun t σ hσ => KCc.of ((show M76.1 1 12 = 1 by omega).trans (nmK_1 (fun q => absurd (hσ.isn.mp q) (by omega))).symm))⟩
def md_X2_readMinds_27_1k : List (Nat × (Nat × Nat)) := [(1, (4, 4)), (1, (5, 5)), (1, (6, 6)), (1, (7, 7)), (1, (9, 9)), (1, (11, 11)), (1, (12, 12)), (1, (13, 13)), (32, (0, 35))]
theorem ct_X2_readMinds_27_1k (X : Int) (hX : 0 ≤ X ∧ X ≤ 100000000) (M0 : JM) (hH0 : HI X M0)  : JOk shp PJ 4 228 [.inr (.inr (.inl 27)), .inr (.inr (.inl 1))] M0 (jRi (fun v M' => HI X M' ∧ Fr md_X2_readMinds_27_1k M0 M' ∧ 0 ≤ v ∧ v ≤ 1 ∧ (∀ (t : TXT) (σ : PSt), CS M0 t σ → 2 ≤ kK t σ → LRc t (minS t σ) v M') ∧ (LFr ml_X2_readMinds_27_1p M0 M') ∧ (∀ (t : TXT) (σ : PSt), CS M0 t σ → 2 ≤ kK t σ → KCc (minK t σ) v M'))) := by
 refine ⟨jr_X2_readMinds, pj_X2_readMinds, fun F c1 c2 c3 => ?_⟩
 have hm := pj_X2_readMinds
 change F 0 [some (.inr (.inr (.inl 27))), some (.inr (.inr (.inl 1))), none, none, none] [] M0
 have hF0 : Fr md_X2_readMinds_27_1k M0 M0 := Fr.rf _ _
 refine jx_load c1 hm rfl rfl rfl rfl ?_
 obtain ⟨z1, k2, lz1, uz1⟩ := hH0.ld (c := 1) (i := 2) (A := 0) (B := 940) (bs_19_1 _ _ (by omega) (by omega))
 obtain ⟨z3, k4, lz3, uz3⟩ := hH0.ld (c := 1) (i := 4) (A := 0) (B := 940) (bs_19_3 _ _ (by omega) (by omega))
 refine jv_v c3 hm rfl pj_X10_next rfl rfl ⟨_, _, _, rfl, sh_1⟩ rfl ((ct_X10_next_1p X (by omega) M0 hH0 ).le (by decide)) (fun M7 ⟨hH7, hR7, p5, p6⟩ => ?_)
 have hF7 := hF0.tr hR7 (by decide +kernel)
 refine jx_load c1 hm rfl rfl rfl rfl ?_
 refine jx_load c1 hm rfl rfl rfl rfl ?_
 refine jy_ic c1 hm rfl (by decide) ?_
 refine jv_i c3 hm rfl pj_X10_takesName rfl rfl ⟨_, _, _, rfl, sh_1⟩ rfl ((ct_X10_takesName_1_27k X (by omega) M7 hH7 0 ⟨by omega, by omega⟩).le (by decide)) (fun z8 M13 ⟨hH13, hR13, lz8, uz8, p9, p10, p11, p12⟩ => ?_)
 have hF13 := hF7.tr hR13 (by decide +kernel)
 obtain ⟨z14, k15, lz14, uz14⟩ := hH13.ld (c := 1) (i := 11) (A := 0) (B := 999) (bs_19_7 _ _ (by omega) (by omega))
 refine jz_ne c1 hm 15 rfl rfl (fun h16 => ?_) (fun h16 => ?_)
 ·
  refine jx_load c1 hm rfl rfl rfl rfl ?_
  refine jx_geti c1 hm rfl sh_1 rfl k15 ?_
  refine jx_stor c1 hm (L' := [some (.inr (.inr (.inl 27))), some (.inr (.inr (.inl 1))), some (.inl z14), none, none]) rfl rfl rfl rfl rfl ?_
  refine jx_load c1 hm rfl rfl rfl rfl ?_
  obtain ⟨z17, k18, lz17, uz17⟩ := hH13.ld (c := 1) (i := 5) (A := 0) (B := 940) (bs_19_3 _ _ (by omega) (by omega))
  refine jx_geti c1 hm rfl sh_1 rfl k18 ?_
  refine jx_stor c1 hm (L' := [some (.inr (.inr (.inl 27))), some (.inr (.inr (.inl 1))), some (.inl z14), some (.inl z17), none]) rfl rfl rfl rfl rfl ?_
  refine jx_load c1 hm rfl rfl rfl rfl ?_
  refine jx_load c1 hm rfl rfl rfl rfl ?_
  refine jy_ic c1 hm rfl (by decide) ?_
  refine jv_i c3 hm rfl pj_X10_takesName rfl rfl ⟨_, _, _, rfl, sh_1⟩ rfl ((ct_X10_takesName_1_27k X (by omega) M13 hH13 1 ⟨by omega, by omega⟩).le (by decide)) (fun z19 M24 ⟨hH24, hR24, lz19, uz19, p20, p21, p22, p23⟩ => ?_)
  have hF24 := hF13.tr hR24 (by decide +kernel)
  obtain ⟨z25, k26, lz25, uz25⟩ := hH24.ld (c := 1) (i := 11) (A := 0) (B := 999) (bs_19_7 _ _ (by omega) (by omega))
  refine jz_ne c1 hm 36 rfl rfl (fun h27 => ?_) (fun h27 => ?_)
  ·
   refine jx_load c1 hm rfl rfl rfl rfl ?_
   refine jy_bp c1 hm rfl (by decide) ?_
   refine jy_mul c1 hm (6 * z14) rfl (by omega) ?_
   refine jx_load c1 hm rfl rfl rfl rfl ?_
   refine jx_geti c1 hm rfl sh_1 rfl k26 ?_
   refine jy_add c1 hm (6 * z14 + z25) rfl (by omega) ?_
   refine jx_stor c1 hm (L' := [some (.inr (.inr (.inl 27))), some (.inr (.inr (.inl 1))), some (.inl z14), some (.inl z17), some (.inl (6 * z14 + z25))]) rfl rfl rfl rfl rfl ?_
   skip
   refine jx_load c1 hm rfl rfl rfl rfl ?_
   refine jx_getr c1 hm rfl sh_27 rfl ?_
   refine jx_load c1 hm rfl rfl rfl rfl ?_
   obtain ⟨z28, k29, lz28, uz28⟩ := hH24.ld (c := 32) (i := ((6 * z14 + z25)).toNat) (A := (-1)) (B := 20) rfl
   refine jx_iald c1 hm rfl sh_32 ⟨by omega, by omega⟩ k29 ?_
   refine jy_ic c1 hm rfl (by decide) ?_
   refine jc_eq c1 hm 65 rfl rfl (fun h30 => ?_) (fun h30 => ?_)
   ·
    refine jx_load c1 hm rfl rfl rfl rfl ?_
    refine jy_ic c1 hm rfl (by decide) ?_
    refine jy_bp c1 hm rfl (by decide) ?_
    refine jv_i c3 hm rfl pj_X10_takesNumber rfl rfl ⟨_, _, _, rfl, sh_1⟩ rfl ((ct_X10_takesNumber_1k X (by omega) M24 hH24 0 ⟨by omega, by omega⟩ 20 ⟨by omega, by omega⟩).le (by decide)) (fun z31 M37 ⟨hH37, hR37, lz31, uz31, p32, p33, p34, p35, p36⟩ => ?_)
    have hF37 := hF24.tr hR37 (by decide +kernel)
    obtain ⟨z38, k39, lz38, uz38⟩ := hH37.ld (c := 1) (i := 11) (A := 0) (B := 999) (bs_19_7 _ _ (by omega) (by omega))
    refine jz_ne c1 hm 77 rfl rfl (fun h40 => ?_) (fun h40 => ?_)
    ·
     refine jx_load c1 hm rfl rfl rfl rfl ?_
     refine jx_getr c1 hm rfl sh_27 rfl ?_
     refine jx_load c1 hm rfl rfl rfl rfl ?_
     refine jx_load c1 hm rfl rfl rfl rfl ?_
     refine jx_geti c1 hm rfl sh_1 rfl k39 ?_
     obtain ⟨M41, e41, hH41, hF41, k41, n41, q41⟩ := mup hH37 hF37 (c := 32) (i := ((6 * z14 + z25)).toNat) (v := z38) (A := (-1)) (B := 20) rfl ⟨by omega, by omega⟩ (jin_of 8 rfl ⟨by omega, by omega⟩)
     refine jm_iast c1 hm rfl sh_32 ⟨by omega, by omega⟩ e41 ?_
     refine jy_ic c1 hm rfl (by decide) ?_
     exact jx_retz c2 hm rfl rfl ⟨by omega, by omega⟩ ⟨_, rfl, hH41, hF41, by omega, by omega, (fun t σ hσ hk => LRc.eq (NMP.ok (p10 t _ _ (hσ.next hk p5 (hR7 1 12 rfl) hR7 p6 (by decide +kernel))) (by omega)).2.1 (LRc.eq (NMP.ok (p21 t _ _ (NMP.ok (p10 t _ (fun _ y => okS y) (hσ.next hk p5 (hR7 1 12 rfl) hR7 p6 (by decide +kernel))) (by omega)).1) (by omega)).2.1 (LRc.eq (if_neg (by have b1 := (NMP.ok (p10 t _ (fun _ y => okS y) (hσ.next hk p5 (hR7 1 12 rfl) hR7 p6 (by decide +kernel))) (by omega)).2.2; have b2 := (NMP.ok (p21 t _ (fun _ y => okS y) (NMP.ok (p10 t _ (fun _ y => okS y) (hσ.next hk p5 (hR7 1 12 rfl) hR7 p6 (by decide +kernel))) (by omega)).1) (by omega)).2.2; have y9 := fl_m (NMP.ok (p21 t _ (fun _ y => okS y) (NMP.ok (p10 t _ (fun _ y => okS y) (hσ.next hk p5 (hR7 1 12 rfl) hR7 p6 (by decide +kernel))) (by omega)).1) (by omega)).1 (x := 6 * M13.1 1 11 + M24.1 1 11) ⟨by omega, by omega⟩; rw [show (6 * M13.1 1 11 + M24.1 1 11).toNat = ((6 * z14 + z25)).toNat by omega] at y9 ⊢; exact fun e => e (y9.mp (by omega)))) (LRc.seqg (p33 t _ (NMP.ok (p21 t _ (fun _ y => okS y) (NMP.ok (p10 t _ (fun _ y => okS y) (hσ.next hk p5 (hR7 1 12 rfl) hR7 p6 (by decide +kernel))) (by omega)).1) (by omega)).1) (by omega) (fun l4 h4 => LRc.o (CS.flag h4 n41 q41 (by have b1 := (NMP.ok (p10 t _ (fun _ y => okS y) (hσ.next hk p5 (hR7 1 12 rfl) hR7 p6 (by decide +kernel))) (by omega)).2.2; have b2 := (NMP.ok (p21 t _ (fun _ y => okS y) (NMP.ok (p10 t _ (fun _ y => okS y) (hσ.next hk p5 (hR7 1 12 rfl) hR7 p6 (by decide +kernel))) (by omega)).1) (by omega)).2.2; omega)) (show (-1 : Int) < 0 by decide)))))), ((((((LFr.rf _ _).tr p6 (by decide +kernel)).tr p11 (by decide +kernel)).tr p22 (by decide +kernel)).tr p35 (by decide +kernel)).eq q41), (fun t σ hσ hk => KCc.y (by omega))⟩
    refine jy_ic c1 hm rfl (by decide) ?_
    exact jx_retz c2 hm rfl rfl ⟨by omega, by omega⟩ ⟨_, rfl, hH37, hF37, by omega, by omega, (fun t σ hσ hk => LRc.eq (NMP.ok (p10 t _ _ (hσ.next hk p5 (hR7 1 12 rfl) hR7 p6 (by decide +kernel))) (by omega)).2.1 (LRc.eq (NMP.ok (p21 t _ _ (NMP.ok (p10 t _ (fun _ y => okS y) (hσ.next hk p5 (hR7 1 12 rfl) hR7 p6 (by decide +kernel))) (by omega)).1) (by omega)).2.1 (LRc.eq (if_neg (by have b1 := (NMP.ok (p10 t _ (fun _ y => okS y) (hσ.next hk p5 (hR7 1 12 rfl) hR7 p6 (by decide +kernel))) (by omega)).2.2; have b2 := (NMP.ok (p21 t _ (fun _ y => okS y) (NMP.ok (p10 t _ (fun _ y => okS y) (hσ.next hk p5 (hR7 1 12 rfl) hR7 p6 (by decide +kernel))) (by omega)).1) (by omega)).2.2; have y9 := fl_m (NMP.ok (p21 t _ (fun _ y => okS y) (NMP.ok (p10 t _ (fun _ y => okS y) (hσ.next hk p5 (hR7 1 12 rfl) hR7 p6 (by decide +kernel))) (by omega)).1) (by omega)).1 (x := 6 * M13.1 1 11 + M24.1 1 11) ⟨by omega, by omega⟩; rw [show (6 * M13.1 1 11 + M24.1 1 11).toNat = ((6 * z14 + z25)).toNat by omega] at y9 ⊢; exact fun e => e (y9.mp (by omega)))) (LRc.seqz (p33 t _ (NMP.ok (p21 t _ (fun _ y => okS y) (NMP.ok (p10 t _ (fun _ y => okS y) (hσ.next hk p5 (hR7 1 12 rfl) hR7 p6 (by decide +kernel))) (by omega)).1) (by omega)).1) (by omega))))), (((((LFr.rf _ _).tr p6 (by decide +kernel)).tr p11 (by decide +kernel)).tr p22 (by decide +kernel)).tr p35 (by decide +kernel)), (fun t σ hσ hk => KCc.eq (NMP.ko (fun g => p10 t _ g (hσ.next hk p5 (hR7 1 12 rfl) hR7 p6 (by decide +kernel))) (by omega) _) (KCc.eq (NMP.ko (fun g => p21 t _ g (NMP.ok (p10 t _ (fun _ y => okS y) (hσ.next hk p5 (hR7 1 12 rfl) hR7 p6 (by decide +kernel))) (by omega)).1) (by omega) _) (KCc.eq (if_neg (by have b1 := (NMP.ok (p10 t _ (fun _ y => okS y) (hσ.next hk p5 (hR7 1 12 rfl) hR7 p6 (by decide +kernel))) (by omega)).2.2; have b2 := (NMP.ok (p21 t _ (fun _ y => okS y) (NMP.ok (p10 t _ (fun _ y => okS y) (hσ.next hk p5 (hR7 1 12 rfl) hR7 p6 (by decide +kernel))) (by omega)).1) (by omega)).2.2; have y9 := fl_m (NMP.ok (p21 t _ (fun _ y => okS y) (NMP.ok (p10 t _ (fun _ y => okS y) (hσ.next hk p5 (hR7 1 12 rfl) hR7 p6 (by decide +kernel))) (by omega)).1) (by omega)).1 (x := 6 * M13.1 1 11 + M24.1 1 11) ⟨by omega, by omega⟩; rw [show (6 * M13.1 1 11 + M24.1 1 11).toNat = ((6 * z14 + z25)).toNat by omega] at y9 ⊢; exact fun e => e (y9.mp (by omega)))) ((p36 t _ (NMP.ok (p21 t _ (fun _ y => okS y) (NMP.ok (p10 t _ (fun _ y => okS y) (hσ.next hk p5 (hR7 1 12 rfl) hR7 p6 (by decide +kernel))) (by omega)).1) (by omega)).1).vc (by omega)))))⟩
   refine jx_load c1 hm rfl rfl rfl rfl ?_
   refine jy_ic c1 hm rfl (by decide) ?_
   refine jx_load c1 hm rfl rfl rfl rfl ?_
   refine jv_i c3 hm rfl pj_X10_fails rfl rfl ⟨_, _, _, rfl, sh_1⟩ rfl ((ct_X10_fails_1p X (by omega) M24 hH24 3 ⟨by omega, by omega⟩ z17 ⟨by omega, by omega⟩).le (by decide)) (fun z42 M48 ⟨hH48, hR48, lz42, uz42, p43, p44, p45, p46, p47⟩ => ?_)
   have hF48 := hF24.tr hR48 (by decide +kernel)
   obtain ⟨z49, k50, lz49, uz49⟩ := hH48.ld (c := 1) (i := 12) (A := 0) (B := 4) (bs_19_8 _ _ (by omega) (by omega))
   obtain ⟨z51, k52, lz51, uz51⟩ := hH48.ld (c := 1) (i := 13) (A := 0) (B := 940) (bs_19_9 _ _ (by omega) (by omega))
   exact jx_retz c2 hm rfl rfl ⟨by omega, by omega⟩ ⟨_, rfl, hH48, hF48, by omega, by omega, (fun t σ hσ hk => LRc.eq (NMP.ok (p10 t _ _ (hσ.next hk p5 (hR7 1 12 rfl) hR7 p6 (by decide +kernel))) (by omega)).2.1 (LRc.eq (NMP.ok (p21 t _ _ (NMP.ok (p10 t _ (fun _ y => okS y) (hσ.next hk p5 (hR7 1 12 rfl) hR7 p6 (by decide +kernel))) (by omega)).1) (by omega)).2.1 (LRc.eq (if_pos (by have b1 := (NMP.ok (p10 t _ (fun _ y => okS y) (hσ.next hk p5 (hR7 1 12 rfl) hR7 p6 (by decide +kernel))) (by omega)).2.2; have b2 := (NMP.ok (p21 t _ (fun _ y => okS y) (NMP.ok (p10 t _ (fun _ y => okS y) (hσ.next hk p5 (hR7 1 12 rfl) hR7 p6 (by decide +kernel))) (by omega)).1) (by omega)).2.2; have y9 := fl_m (NMP.ok (p21 t _ (fun _ y => okS y) (NMP.ok (p10 t _ (fun _ y => okS y) (hσ.next hk p5 (hR7 1 12 rfl) hR7 p6 (by decide +kernel))) (by omega)).1) (by omega)).1 (x := 6 * M13.1 1 11 + M24.1 1 11) ⟨by omega, by omega⟩; rw [show (6 * M13.1 1 11 + M24.1 1 11).toNat = ((6 * z14 + z25)).toNat by omega] at y9 ⊢; exact fun e => absurd (y9.mpr e) (by omega))) (Or.inr ⟨tF_nn (NMP.ok (p10 t _ (fun _ y => okS y) (hσ.next hk p5 (hR7 1 12 rfl) hR7 p6 (by decide +kernel))) (by omega)).1.2.2.2, by omega, by omega, by have y9 := (NMP.ok (p10 t _ (fun _ y => okS y) (hσ.next hk p5 (hR7 1 12 rfl) hR7 p6 (by decide +kernel))) (by omega)).1.start; show _ = kF t _; omega⟩)))), (((((LFr.rf _ _).tr p6 (by decide +kernel)).tr p11 (by decide +kernel)).tr p22 (by decide +kernel)).tr p47 (by decide +kernel)), (fun t σ hσ hk => KCc.eq (NMP.ko (fun g => p10 t _ g (hσ.next hk p5 (hR7 1 12 rfl) hR7 p6 (by decide +kernel))) (by omega) _) (KCc.eq (NMP.ko (fun g => p21 t _ g (NMP.ok (p10 t _ (fun _ y => okS y) (hσ.next hk p5 (hR7 1 12 rfl) hR7 p6 (by decide +kernel))) (by omega)).1) (by omega) _) (KCc.eq (if_pos (by have b1 := (NMP.ok (p10 t _ (fun _ y => okS y) (hσ.next hk p5 (hR7 1 12 rfl) hR7 p6 (by decide +kernel))) (by omega)).2.2; have b2 := (NMP.ok (p21 t _ (fun _ y => okS y) (NMP.ok (p10 t _ (fun _ y => okS y) (hσ.next hk p5 (hR7 1 12 rfl) hR7 p6 (by decide +kernel))) (by omega)).1) (by omega)).2.2; have y9 := fl_m (NMP.ok (p21 t _ (fun _ y => okS y) (NMP.ok (p10 t _ (fun _ y => okS y) (hσ.next hk p5 (hR7 1 12 rfl) hR7 p6 (by decide +kernel))) (by omega)).1) (by omega)).1 (x := 6 * M13.1 1 11 + M24.1 1 11) ⟨by omega, by omega⟩; rw [show (6 * M13.1 1 11 + M24.1 1 11).toNat = ((6 * z14 + z25)).toNat by omega] at y9 ⊢; exact fun e => absurd (y9.mpr e) (by omega))) (KCc.of (by omega)))))⟩
  refine jy_ic c1 hm rfl (by decide) ?_
  exact jx_retz c2 hm rfl rfl ⟨by omega, by omega⟩ ⟨_, rfl, hH24, hF24, by omega, by omega, (fun t σ hσ hk => LRc.eq (NMP.ok (p10 t _ _ (hσ.next hk p5 (hR7 1 12 rfl) hR7 p6 (by decide +kernel))) (by omega)).2.1 (NMP.bad (p21 t _ _ (NMP.ok (p10 t _ (fun _ y => okS y) (hσ.next hk p5 (hR7 1 12 rfl) hR7 p6 (by decide +kernel))) (by omega)).1) (by omega))), ((((LFr.rf _ _).tr p6 (by decide +kernel)).tr p11 (by decide +kernel)).tr p22 (by decide +kernel)), (fun t σ hσ hk => KCc.eq (NMP.ko (fun g => p10 t _ g (hσ.next hk p5 (hR7 1 12 rfl) hR7 p6 (by decide +kernel))) (by omega) _) (KCc.eq (NMP.kb (p21 t _ (fun _ y => okS y) (NMP.ok (p10 t _ (fun _ y => okS y) (hσ.next hk p5 (hR7 1 12 rfl) hR7 p6 (by decide +kernel))) (by omega)).1) (by omega) _) ((p23 t _ (NMP.ok (p10 t _ (fun _ y => okS y) (hσ.next hk p5 (hR7 1 12 rfl) hR7 p6 (by decide +kernel))) (by omega)).1).vc (by omega))))⟩
 refine jy_ic c1 hm rfl (by decide) ?_
 exact jx_retz c2 hm rfl rfl ⟨by omega, by omega⟩ ⟨_, rfl, hH13, hF13, by omega, by omega, (fun t σ hσ hk => NMP.bad (p10 t _ _ (hσ.next hk p5 (hR7 1 12 rfl) hR7 p6 (by decide +kernel))) (by omega)), (((LFr.rf _ _).tr p6 (by decide +kernel)).tr p11 (by decide +kernel)), (fun t σ hσ hk => KCc.eq (NMP.kb (p10 t _ (fun _ y => okS y) (hσ.next hk p5 (hR7 1 12 rfl) hR7 p6 (by decide +kernel))) (by omega) _) ((p12 t _ (hσ.next hk p5 (hR7 1 12 rfl) hR7 p6 (by decide +kernel))).vc (by omega)))⟩
def md_X2_readGood_27_1k : List (Nat × (Nat × Nat)) := [(1, (4, 4)), (1, (5, 5)), (1, (6, 6)), (1, (7, 7)), (1, (9, 9)), (1, (11, 11)), (1, (12, 12)), (1, (13, 13)), (28, (0, 2)), (33, (0, 5)), (38, (0, 5))]
theorem ct_X2_readGood_27_1k (X : Int) (hX : 0 ≤ X ∧ X ≤ 100000000) (M0 : JM) (hH0 : HI X M0)  : JOk shp PJ 4 223 [.inr (.inr (.inl 27)), .inr (.inr (.inl 1))] M0 (jRi (fun v M' => HI X M' ∧ Fr md_X2_readGood_27_1k M0 M' ∧ 0 ≤ v ∧ v ≤ 1 ∧ (∀ (t : TXT) (σ : PSt), CS M0 t σ → 2 ≤ kK t σ → LRc t (gooS t σ) v M') ∧ (LFr ml_X2_readGood_27_1p M0 M') ∧ (∀ (t : TXT) (σ : PSt), CS M0 t σ → 2 ≤ kK t σ → KCc (gooK t σ) v M'))) := by
 refine ⟨jr_X2_readGood, pj_X2_readGood, fun F c1 c2 c3 => ?_⟩
 have hm := pj_X2_readGood
 change F 0 [some (.inr (.inr (.inl 27))), some (.inr (.inr (.inl 1))), none, none] [] M0
 have hF0 : Fr md_X2_readGood_27_1k M0 M0 := Fr.rf _ _
 refine jx_load c1 hm rfl rfl rfl rfl ?_
 refine jx_load c1 hm rfl rfl rfl rfl ?_
 refine jy_ic c1 hm rfl (by decide) ?_
 refine jv_i c3 hm rfl pj_X2_takesFirstWord rfl rfl ⟨_, _, _, rfl, sh_27⟩ rfl ((ct_X2_takesFirstWord_27_1k X (by omega) M0 hH0 2 ⟨by omega, by omega⟩).le (by decide)) (fun z1 M5 ⟨hH5, hR5, lz1, uz1, p2, p3, p4⟩ => ?_)
 have hF5 := hF0.tr hR5 (by decide +kernel)
 refine jz_eq c1 hm 27 rfl rfl (fun h6 => ?_) (fun h6 => ?_)
 ·
  refine jy_ic c1 hm rfl (by decide) ?_
  exact jx_retz c2 hm rfl rfl ⟨by omega, by omega⟩ ⟨_, rfl, hH5, hF5, by omega, by omega, (fun t σ hσ hk => LRc.seqz (p2 t σ hσ hk) (by omega)), ((LFr.rf _ _).tr p3 (by decide +kernel)), (fun t σ hσ hk => KCc.seqz (p2 t σ hσ hk) (p4 t σ hσ) (by omega))⟩
 refine jx_load c1 hm rfl rfl rfl rfl ?_
 refine jx_load c1 hm rfl rfl rfl rfl ?_
 refine jv_i c3 hm rfl pj_X10_takesNewName rfl rfl ⟨_, _, _, rfl, sh_1⟩ rfl ((ct_X10_takesNewName_1_27k X (by omega) M5 hH5 ).le (by decide)) (fun z7 M12 ⟨hH12, hR12, lz7, uz7, p8, p9, p10, p11⟩ => ?_)
 have hF12 := hF5.tr hR12 (by decide +kernel)
 refine jz_eq c1 hm 27 rfl rfl (fun h13 => ?_) (fun h13 => ?_)
 ·
  refine jy_ic c1 hm rfl (by decide) ?_
  exact jx_retz c2 hm rfl rfl ⟨by omega, by omega⟩ ⟨_, rfl, hH12, hF12, by omega, by omega, (fun t σ hσ hk => LRc.seqg (p2 t σ hσ hk) (by omega) (fun l1 h1 => LRc.seqz (p8 t _ 2 (by decide) h1 (by rw [(fst_lt hσ.2.2.2 l1).1]; exact (fst_lt hσ.2.2.2 l1).2)) (by omega))), (((LFr.rf _ _).tr p3 (by decide +kernel)).tr p10 (by decide +kernel)), (fun t σ hσ hk => KCc.seqg (p2 t σ hσ hk) (by omega) (fun l1 h1 => KCc.seqz (p8 t _ 2 (by decide) h1 (by rw [(fst_lt hσ.2.2.2 l1).1]; exact (fst_lt hσ.2.2.2 l1).2)) (p11 t _ h1) (by omega)))⟩
 refine jx_load c1 hm rfl rfl rfl rfl ?_
 refine jy_ic c1 hm rfl (by decide) ?_
 refine jy_bp c1 hm rfl (by decide) ?_
 refine jv_i c3 hm rfl pj_X10_takesNumber rfl rfl ⟨_, _, _, rfl, sh_1⟩ rfl ((ct_X10_takesNumber_1k X (by omega) M12 hH12 1 ⟨by omega, by omega⟩ 99 ⟨by omega, by omega⟩).le (by decide)) (fun z14 M20 ⟨hH20, hR20, lz14, uz14, p15, p16, p17, p18, p19⟩ => ?_)
 have hF20 := hF12.tr hR20 (by decide +kernel)
 obtain ⟨z21, k22, lz21, uz21⟩ := hH20.ld (c := 1) (i := 11) (A := 0) (B := 999) (bs_19_7 _ _ (by omega) (by omega))
 refine jz_ne c1 hm 29 rfl rfl (fun h23 => ?_) (fun h23 => ?_)
 ·
  refine jx_load c1 hm rfl rfl rfl rfl ?_
  refine jx_geti c1 hm rfl sh_1 rfl k22 ?_
  refine jx_stor c1 hm (L' := [some (.inr (.inr (.inl 27))), some (.inr (.inr (.inl 1))), some (.inl z21), none]) rfl rfl rfl rfl rfl ?_
  refine jx_load c1 hm rfl rfl rfl rfl ?_
  refine jy_ic c1 hm rfl (by decide) ?_
  refine jy_bp c1 hm rfl (by decide) ?_
  refine jv_i c3 hm rfl pj_X10_takesNumber rfl rfl ⟨_, _, _, rfl, sh_1⟩ rfl ((ct_X10_takesNumber_1k X (by omega) M20 hH20 0 ⟨by omega, by omega⟩ 20 ⟨by omega, by omega⟩).le (by decide)) (fun z24 M30 ⟨hH30, hR30, lz24, uz24, p25, p26, p27, p28, p29⟩ => ?_)
  have hF30 := hF20.tr hR30 (by decide +kernel)
  obtain ⟨z31, k32, lz31, uz31⟩ := hH30.ld (c := 1) (i := 11) (A := 0) (B := 999) (bs_19_7 _ _ (by omega) (by omega))
  refine jz_ne c1 hm 46 rfl rfl (fun h33 => ?_) (fun h33 => ?_)
  ·
   refine jx_load c1 hm rfl rfl rfl rfl ?_
   refine jy_ic c1 hm rfl (by decide) ?_
   refine jx_load c1 hm rfl rfl rfl rfl ?_
   obtain ⟨w34, kw34⟩ : ∃ w, M30.2 1 10 = w := ⟨_, rfl⟩
   refine jx_getl c1 hm rfl sh_1 rfl kw34 ?_
   skip
   refine jv_i c3 hm rfl pj_X2_addName rfl rfl ⟨_, _, _, rfl, sh_27⟩ rfl ((ct_X2_addName_27p X (by omega) M30 hH30 2 ⟨by omega, by omega⟩ w34).le (by decide)) (fun z35 M38 ⟨hH38, hR38, lz35, uz35, p36, p37⟩ => ?_)
   have hF38 := hF30.tr hR38 (by decide +kernel)
   refine jx_stor c1 hm (L' := [some (.inr (.inr (.inl 27))), some (.inr (.inr (.inl 1))), some (.inl z21), some (.inl z35)]) rfl rfl rfl rfl rfl ?_
   refine jx_load c1 hm rfl rfl rfl rfl ?_
   refine jx_getr c1 hm rfl sh_27 rfl ?_
   refine jx_load c1 hm rfl rfl rfl rfl ?_
   refine jx_load c1 hm rfl rfl rfl rfl ?_
   obtain ⟨M39, e39, hH39, hF39, k39, n39, q39⟩ := mup hH38 hF38 (c := 33) (i := (z35).toNat) (v := z21) (A := 0) (B := 99) rfl ⟨by omega, by omega⟩ (jin_of 9 rfl ⟨by omega, by omega⟩)
   refine jm_iast c1 hm rfl sh_33 ⟨by omega, by omega⟩ e39 ?_
   refine jx_load c1 hm rfl rfl rfl rfl ?_
   refine jx_getr c1 hm rfl sh_27 rfl ?_
   refine jx_getr c1 hm rfl sh_34 rfl ?_
   refine jx_load c1 hm rfl rfl rfl rfl ?_
   refine jx_load c1 hm rfl rfl rfl rfl ?_
   have k40 : M39.1 1 11 = z31 := (n39 1 11 (fun h => absurd h.1 (by decide))).trans ((hR38 1 11 (by decide +kernel)).trans k32)
   refine jx_geti c1 hm rfl sh_1 rfl k40 ?_
   obtain ⟨M41, e41, hH41, hF41, k41, n41, q41⟩ := mup hH39 hF39 (c := 38) (i := (z35).toNat) (v := z31) (A := (-2147483648)) (B := 2147483647) rfl ⟨by omega, by omega⟩ (jin_of 10 rfl ⟨by omega, by omega⟩)
   refine jm_iast c1 hm rfl sh_38 ⟨by omega, by omega⟩ e41 ?_
   refine jy_ic c1 hm rfl (by decide) ?_
   exact jx_retz c2 hm rfl rfl ⟨by omega, by omega⟩ ⟨_, rfl, hH41, hF41, by omega, by omega, (fun t σ hσ hk => LRc.seqg (p2 t σ hσ hk) (by omega) (fun l1 h1 => LRc.seqg (p8 t _ 2 (by decide) h1 (by rw [(fst_lt hσ.2.2.2 l1).1]; exact (fst_lt hσ.2.2.2 l1).2)) (by omega) (fun l2 h2 => LRc.seqg (p16 t _ h2) (by omega) (fun l3 h3 => LRc.seqg (p26 t _ h3) (by omega) (fun l4 h4 => LRc.o (CS.st (CS.st (add_fin (by decide) h1 (by rw [(fst_lt hσ.2.2.2 l1).1]; exact (fst_lt hσ.2.2.2 l1).2) (p9 t _ h1 (by omega)).1 (p9 t _ h1 (by omega)).2.1 l2 ((num_e3 h3.2.2.2 l4).trans (num_e3 h2.2.2.2 l3)) h4 (by rw [← kw34, ((p28 1 10 rfl).trans (p18 1 10 rfl))]; exact (p9 t _ h1 (by omega)).2.2) (p36 (add_cnt (s := 2) (by decide) h1 (by rw [(fst_lt hσ.2.2.2 l1).1]; exact (fst_lt hσ.2.2.2 l1).2) l2 ((num_e3 h3.2.2.2 l4).trans (num_e3 h2.2.2.2 l3)) h4)).2) n39 q39 rfl) n41 q41 rfl) (show (-1 : Int) < 0 by decide)))))), ((((((((LFr.rf _ _).tr p3 (by decide +kernel)).tr p10 (by decide +kernel)).tr p18 (by decide +kernel)).tr p28 (by decide +kernel)).tr p37 (by decide +kernel)).eq q39).eq q41), (fun t σ hσ hk => KCc.y (by omega))⟩
  refine jy_ic c1 hm rfl (by decide) ?_
  exact jx_retz c2 hm rfl rfl ⟨by omega, by omega⟩ ⟨_, rfl, hH30, hF30, by omega, by omega, (fun t σ hσ hk => LRc.seqg (p2 t σ hσ hk) (by omega) (fun l1 h1 => LRc.seqg (p8 t _ 2 (by decide) h1 (by rw [(fst_lt hσ.2.2.2 l1).1]; exact (fst_lt hσ.2.2.2 l1).2)) (by omega) (fun l2 h2 => LRc.seqg (p16 t _ h2) (by omega) (fun l3 h3 => LRc.seqz (p26 t _ h3) (by omega))))), (((((LFr.rf _ _).tr p3 (by decide +kernel)).tr p10 (by decide +kernel)).tr p18 (by decide +kernel)).tr p28 (by decide +kernel)), (fun t σ hσ hk => KCc.seqg (p2 t σ hσ hk) (by omega) (fun l1 h1 => KCc.seqg (p8 t _ 2 (by decide) h1 (by rw [(fst_lt hσ.2.2.2 l1).1]; exact (fst_lt hσ.2.2.2 l1).2)) (by omega) (fun l2 h2 => KCc.seqg (p16 t _ h2) (by omega) (fun l3 h3 => (p29 t _ h3).vc (by omega)))))⟩
 refine jy_ic c1 hm rfl (by decide) ?_
 exact jx_retz c2 hm rfl rfl ⟨by omega, by omega⟩ ⟨_, rfl, hH20, hF20, by omega, by omega, (fun t σ hσ hk => LRc.seqg (p2 t σ hσ hk) (by omega) (fun l1 h1 => LRc.seqg (p8 t _ 2 (by decide) h1 (by rw [(fst_lt hσ.2.2.2 l1).1]; exact (fst_lt hσ.2.2.2 l1).2)) (by omega) (fun l2 h2 => LRc.seqz (p16 t _ h2) (by omega)))), ((((LFr.rf _ _).tr p3 (by decide +kernel)).tr p10 (by decide +kernel)).tr p18 (by decide +kernel)), (fun t σ hσ hk => KCc.seqg (p2 t σ hσ hk) (by omega) (fun l1 h1 => KCc.seqg (p8 t _ 2 (by decide) h1 (by rw [(fst_lt hσ.2.2.2 l1).1]; exact (fst_lt hσ.2.2.2 l1).2)) (by omega) (fun l2 h2 => KCc.seqz (p16 t _ h2) (p19 t _ h2) (by omega))))⟩
def md_X2_readOwes_27_1k : List (Nat × (Nat × Nat)) := [(1, (4, 4)), (1, (5, 5)), (1, (6, 6)), (1, (7, 7)), (1, (9, 9)), (1, (11, 11)), (1, (12, 12)), (1, (13, 13)), (39, (0, 35))]
theorem ct_X2_readOwes_27_1k (X : Int) (hX : 0 ≤ X ∧ X ≤ 100000000) (M0 : JM) (hH0 : HI X M0)  : JOk shp PJ 4 229 [.inr (.inr (.inl 27)), .inr (.inr (.inl 1))] M0 (jRi (fun v M' => HI X M' ∧ Fr md_X2_readOwes_27_1k M0 M' ∧ 0 ≤ v ∧ v ≤ 1 ∧ (∀ (t : TXT) (σ : PSt), CS M0 t σ → 2 ≤ kK t σ → LRc t (oweS t σ) v M') ∧ (LFr ml_X2_readOwes_27_1p M0 M') ∧ (∀ (t : TXT) (σ : PSt), CS M0 t σ → 2 ≤ kK t σ → KCc (oweK t σ) v M'))) := by
 refine ⟨jr_X2_readOwes, pj_X2_readOwes, fun F c1 c2 c3 => ?_⟩
 have hm := pj_X2_readOwes
 change F 0 [some (.inr (.inr (.inl 27))), some (.inr (.inr (.inl 1))), none, none, none] [] M0
 have hF0 : Fr md_X2_readOwes_27_1k M0 M0 := Fr.rf _ _
 refine jx_load c1 hm rfl rfl rfl rfl ?_
 obtain ⟨z1, k2, lz1, uz1⟩ := hH0.ld (c := 1) (i := 2) (A := 0) (B := 940) (bs_19_1 _ _ (by omega) (by omega))
 obtain ⟨z3, k4, lz3, uz3⟩ := hH0.ld (c := 1) (i := 4) (A := 0) (B := 940) (bs_19_3 _ _ (by omega) (by omega))
 refine jv_v c3 hm rfl pj_X10_next rfl rfl ⟨_, _, _, rfl, sh_1⟩ rfl ((ct_X10_next_1p X (by omega) M0 hH0 ).le (by decide)) (fun M7 ⟨hH7, hR7, p5, p6⟩ => ?_)
 have hF7 := hF0.tr hR7 (by decide +kernel)
 refine jx_load c1 hm rfl rfl rfl rfl ?_
 refine jx_load c1 hm rfl rfl rfl rfl ?_
 refine jy_ic c1 hm rfl (by decide) ?_
 refine jv_i c3 hm rfl pj_X10_takesName rfl rfl ⟨_, _, _, rfl, sh_1⟩ rfl ((ct_X10_takesName_1_27k X (by omega) M7 hH7 0 ⟨by omega, by omega⟩).le (by decide)) (fun z8 M13 ⟨hH13, hR13, lz8, uz8, p9, p10, p11, p12⟩ => ?_)
 have hF13 := hF7.tr hR13 (by decide +kernel)
 obtain ⟨z14, k15, lz14, uz14⟩ := hH13.ld (c := 1) (i := 11) (A := 0) (B := 999) (bs_19_7 _ _ (by omega) (by omega))
 refine jz_ne c1 hm 15 rfl rfl (fun h16 => ?_) (fun h16 => ?_)
 ·
  refine jx_load c1 hm rfl rfl rfl rfl ?_
  refine jx_geti c1 hm rfl sh_1 rfl k15 ?_
  refine jx_stor c1 hm (L' := [some (.inr (.inr (.inl 27))), some (.inr (.inr (.inl 1))), some (.inl z14), none, none]) rfl rfl rfl rfl rfl ?_
  refine jx_load c1 hm rfl rfl rfl rfl ?_
  obtain ⟨z17, k18, lz17, uz17⟩ := hH13.ld (c := 1) (i := 5) (A := 0) (B := 940) (bs_19_3 _ _ (by omega) (by omega))
  refine jx_geti c1 hm rfl sh_1 rfl k18 ?_
  refine jx_stor c1 hm (L' := [some (.inr (.inr (.inl 27))), some (.inr (.inr (.inl 1))), some (.inl z14), some (.inl z17), none]) rfl rfl rfl rfl rfl ?_
  refine jx_load c1 hm rfl rfl rfl rfl ?_
  refine jx_load c1 hm rfl rfl rfl rfl ?_
  refine jy_ic c1 hm rfl (by decide) ?_
  refine jv_i c3 hm rfl pj_X10_takesName rfl rfl ⟨_, _, _, rfl, sh_1⟩ rfl ((ct_X10_takesName_1_27k X (by omega) M13 hH13 0 ⟨by omega, by omega⟩).le (by decide)) (fun z19 M24 ⟨hH24, hR24, lz19, uz19, p20, p21, p22, p23⟩ => ?_)
  have hF24 := hF13.tr hR24 (by decide +kernel)
  obtain ⟨z25, k26, lz25, uz25⟩ := hH24.ld (c := 1) (i := 11) (A := 0) (B := 999) (bs_19_7 _ _ (by omega) (by omega))
  refine jz_ne c1 hm 36 rfl rfl (fun h27 => ?_) (fun h27 => ?_)
  ·
   refine jx_load c1 hm rfl rfl rfl rfl ?_
   refine jy_bp c1 hm rfl (by decide) ?_
   refine jy_mul c1 hm (6 * z14) rfl (by omega) ?_
   refine jx_load c1 hm rfl rfl rfl rfl ?_
   refine jx_geti c1 hm rfl sh_1 rfl k26 ?_
   refine jy_add c1 hm (6 * z14 + z25) rfl (by omega) ?_
   refine jx_stor c1 hm (L' := [some (.inr (.inr (.inl 27))), some (.inr (.inr (.inl 1))), some (.inl z14), some (.inl z17), some (.inl (6 * z14 + z25))]) rfl rfl rfl rfl rfl ?_
   skip
   refine jx_load c1 hm rfl rfl rfl rfl ?_
   refine jx_load c1 hm rfl rfl rfl rfl ?_
   refine jx_geti c1 hm rfl sh_1 rfl k26 ?_
   refine jc_eq c1 hm 68 rfl rfl (fun h28 => ?_) (fun h28 => ?_)
   ·
    refine jx_load c1 hm rfl rfl rfl rfl ?_
    refine jy_ic c1 hm rfl (by decide) ?_
    refine jx_load c1 hm rfl rfl rfl rfl ?_
    refine jv_i c3 hm rfl pj_X10_fails rfl rfl ⟨_, _, _, rfl, sh_1⟩ rfl ((ct_X10_fails_1p X (by omega) M24 hH24 3 ⟨by omega, by omega⟩ z17 ⟨by omega, by omega⟩).le (by decide)) (fun z29 M35 ⟨hH35, hR35, lz29, uz29, p30, p31, p32, p33, p34⟩ => ?_)
    have hF35 := hF24.tr hR35 (by decide +kernel)
    obtain ⟨z36, k37, lz36, uz36⟩ := hH35.ld (c := 1) (i := 12) (A := 0) (B := 4) (bs_19_8 _ _ (by omega) (by omega))
    obtain ⟨z38, k39, lz38, uz38⟩ := hH35.ld (c := 1) (i := 13) (A := 0) (B := 940) (bs_19_9 _ _ (by omega) (by omega))
    exact jx_retz c2 hm rfl rfl ⟨by omega, by omega⟩ ⟨_, rfl, hH35, hF35, by omega, by omega, (fun t σ hσ hk => LRc.eq (NMP.ok (p10 t _ _ (hσ.next hk p5 (hR7 1 12 rfl) hR7 p6 (by decide +kernel))) (by omega)).2.1 (LRc.eq (NMP.ok (p21 t _ _ (NMP.ok (p10 t _ (fun _ y => okS y) (hσ.next hk p5 (hR7 1 12 rfl) hR7 p6 (by decide +kernel))) (by omega)).1) (by omega)).2.1 (LRc.eq (if_pos (by have b1 := (NMP.ok (p10 t _ (fun _ y => okS y) (hσ.next hk p5 (hR7 1 12 rfl) hR7 p6 (by decide +kernel))) (by omega)).2.2; have b2 := (NMP.ok (p21 t _ (fun _ y => okS y) (NMP.ok (p10 t _ (fun _ y => okS y) (hσ.next hk p5 (hR7 1 12 rfl) hR7 p6 (by decide +kernel))) (by omega)).1) (by omega)).2.2; by_cases c9 : M13.1 1 11 = M24.1 1 11; exact Or.inl c9; have y9 := fl_o (NMP.ok (p21 t _ (fun _ y => okS y) (NMP.ok (p10 t _ (fun _ y => okS y) (hσ.next hk p5 (hR7 1 12 rfl) hR7 p6 (by decide +kernel))) (by omega)).1) (by omega)).1 (x := 6 * M13.1 1 11 + M24.1 1 11) (y := 36 + 6 * M13.1 1 11 + M24.1 1 11) ⟨by omega, by omega⟩ (by omega); rw [show (6 * M13.1 1 11 + M24.1 1 11).toNat = ((6 * z14 + z25)).toNat by omega] at y9; exact Or.inr (fun e => absurd (y9.mpr e) (by omega)))) (Or.inr ⟨tF_nn (NMP.ok (p10 t _ (fun _ y => okS y) (hσ.next hk p5 (hR7 1 12 rfl) hR7 p6 (by decide +kernel))) (by omega)).1.2.2.2, by omega, by omega, by have y9 := (NMP.ok (p10 t _ (fun _ y => okS y) (hσ.next hk p5 (hR7 1 12 rfl) hR7 p6 (by decide +kernel))) (by omega)).1.start; show _ = kF t _; omega⟩)))), (((((LFr.rf _ _).tr p6 (by decide +kernel)).tr p11 (by decide +kernel)).tr p22 (by decide +kernel)).tr p34 (by decide +kernel)), (fun t σ hσ hk => KCc.eq (NMP.ko (fun g => p10 t _ g (hσ.next hk p5 (hR7 1 12 rfl) hR7 p6 (by decide +kernel))) (by omega) _) (KCc.eq (NMP.ko (fun g => p21 t _ g (NMP.ok (p10 t _ (fun _ y => okS y) (hσ.next hk p5 (hR7 1 12 rfl) hR7 p6 (by decide +kernel))) (by omega)).1) (by omega) _) (KCc.eq (if_pos (by have b1 := (NMP.ok (p10 t _ (fun _ y => okS y) (hσ.next hk p5 (hR7 1 12 rfl) hR7 p6 (by decide +kernel))) (by omega)).2.2; have b2 := (NMP.ok (p21 t _ (fun _ y => okS y) (NMP.ok (p10 t _ (fun _ y => okS y) (hσ.next hk p5 (hR7 1 12 rfl) hR7 p6 (by decide +kernel))) (by omega)).1) (by omega)).2.2; by_cases c9 : M13.1 1 11 = M24.1 1 11; exact Or.inl c9; have y9 := fl_o (NMP.ok (p21 t _ (fun _ y => okS y) (NMP.ok (p10 t _ (fun _ y => okS y) (hσ.next hk p5 (hR7 1 12 rfl) hR7 p6 (by decide +kernel))) (by omega)).1) (by omega)).1 (x := 6 * M13.1 1 11 + M24.1 1 11) (y := 36 + 6 * M13.1 1 11 + M24.1 1 11) ⟨by omega, by omega⟩ (by omega); rw [show (6 * M13.1 1 11 + M24.1 1 11).toNat = ((6 * z14 + z25)).toNat by omega] at y9; exact Or.inr (fun e => absurd (y9.mpr e) (by omega)))) (KCc.of (by omega)))))⟩
   refine jx_load c1 hm rfl rfl rfl rfl ?_
   refine jx_getr c1 hm rfl sh_27 rfl ?_
   refine jx_getr c1 hm rfl sh_34 rfl ?_
   refine jx_load c1 hm rfl rfl rfl rfl ?_
   obtain ⟨z40, k41, lz40, uz40⟩ := hH24.ld (c := 39) (i := ((6 * z14 + z25)).toNat) (A := (-2147483648)) (B := 2147483647) rfl
   refine jx_iald c1 hm rfl sh_39 ⟨by omega, by omega⟩ k41 ?_
   refine jz_eq c1 hm 75 rfl rfl (fun h42 => ?_) (fun h42 => ?_)
   ·
    refine jx_load c1 hm rfl rfl rfl rfl ?_
    refine jy_ic c1 hm rfl (by decide) ?_
    refine jy_bp c1 hm rfl (by decide) ?_
    refine jv_i c3 hm rfl pj_X10_takesNumber rfl rfl ⟨_, _, _, rfl, sh_1⟩ rfl ((ct_X10_takesNumber_1k X (by omega) M24 hH24 1 ⟨by omega, by omega⟩ 99 ⟨by omega, by omega⟩).le (by decide)) (fun z43 M49 ⟨hH49, hR49, lz43, uz43, p44, p45, p46, p47, p48⟩ => ?_)
    have hF49 := hF24.tr hR49 (by decide +kernel)
    obtain ⟨z50, k51, lz50, uz50⟩ := hH49.ld (c := 1) (i := 11) (A := 0) (B := 999) (bs_19_7 _ _ (by omega) (by omega))
    refine jz_ne c1 hm 87 rfl rfl (fun h52 => ?_) (fun h52 => ?_)
    ·
     refine jx_load c1 hm rfl rfl rfl rfl ?_
     refine jx_getr c1 hm rfl sh_27 rfl ?_
     refine jx_getr c1 hm rfl sh_34 rfl ?_
     refine jx_load c1 hm rfl rfl rfl rfl ?_
     refine jx_load c1 hm rfl rfl rfl rfl ?_
     refine jx_geti c1 hm rfl sh_1 rfl k51 ?_
     obtain ⟨M53, e53, hH53, hF53, k53, n53, q53⟩ := mup hH49 hF49 (c := 39) (i := ((6 * z14 + z25)).toNat) (v := z50) (A := (-2147483648)) (B := 2147483647) rfl ⟨by omega, by omega⟩ (jin_of 8 rfl ⟨by omega, by omega⟩)
     refine jm_iast c1 hm rfl sh_39 ⟨by omega, by omega⟩ e53 ?_
     refine jy_ic c1 hm rfl (by decide) ?_
     exact jx_retz c2 hm rfl rfl ⟨by omega, by omega⟩ ⟨_, rfl, hH53, hF53, by omega, by omega, (fun t σ hσ hk => LRc.eq (NMP.ok (p10 t _ _ (hσ.next hk p5 (hR7 1 12 rfl) hR7 p6 (by decide +kernel))) (by omega)).2.1 (LRc.eq (NMP.ok (p21 t _ _ (NMP.ok (p10 t _ (fun _ y => okS y) (hσ.next hk p5 (hR7 1 12 rfl) hR7 p6 (by decide +kernel))) (by omega)).1) (by omega)).2.1 (LRc.eq (if_neg (by have b1 := (NMP.ok (p10 t _ (fun _ y => okS y) (hσ.next hk p5 (hR7 1 12 rfl) hR7 p6 (by decide +kernel))) (by omega)).2.2; have b2 := (NMP.ok (p21 t _ (fun _ y => okS y) (NMP.ok (p10 t _ (fun _ y => okS y) (hσ.next hk p5 (hR7 1 12 rfl) hR7 p6 (by decide +kernel))) (by omega)).1) (by omega)).2.2; have y9 := fl_o (NMP.ok (p21 t _ (fun _ y => okS y) (NMP.ok (p10 t _ (fun _ y => okS y) (hσ.next hk p5 (hR7 1 12 rfl) hR7 p6 (by decide +kernel))) (by omega)).1) (by omega)).1 (x := 6 * M13.1 1 11 + M24.1 1 11) (y := 36 + 6 * M13.1 1 11 + M24.1 1 11) ⟨by omega, by omega⟩ (by omega); rw [show (6 * M13.1 1 11 + M24.1 1 11).toNat = ((6 * z14 + z25)).toNat by omega] at y9; intro e; rcases e with e | e; omega; exact e (y9.mp (by omega)))) (LRc.seqg (p45 t _ (NMP.ok (p21 t _ (fun _ y => okS y) (NMP.ok (p10 t _ (fun _ y => okS y) (hσ.next hk p5 (hR7 1 12 rfl) hR7 p6 (by decide +kernel))) (by omega)).1) (by omega)).1) (by omega) (fun l4 h4 => LRc.o (CS.flag h4 n53 q53 (by have b1 := (NMP.ok (p10 t _ (fun _ y => okS y) (hσ.next hk p5 (hR7 1 12 rfl) hR7 p6 (by decide +kernel))) (by omega)).2.2; have b2 := (NMP.ok (p21 t _ (fun _ y => okS y) (NMP.ok (p10 t _ (fun _ y => okS y) (hσ.next hk p5 (hR7 1 12 rfl) hR7 p6 (by decide +kernel))) (by omega)).1) (by omega)).2.2; omega)) (show (-1 : Int) < 0 by decide)))))), ((((((LFr.rf _ _).tr p6 (by decide +kernel)).tr p11 (by decide +kernel)).tr p22 (by decide +kernel)).tr p47 (by decide +kernel)).eq q53), (fun t σ hσ hk => KCc.y (by omega))⟩
    refine jy_ic c1 hm rfl (by decide) ?_
    exact jx_retz c2 hm rfl rfl ⟨by omega, by omega⟩ ⟨_, rfl, hH49, hF49, by omega, by omega, (fun t σ hσ hk => LRc.eq (NMP.ok (p10 t _ _ (hσ.next hk p5 (hR7 1 12 rfl) hR7 p6 (by decide +kernel))) (by omega)).2.1 (LRc.eq (NMP.ok (p21 t _ _ (NMP.ok (p10 t _ (fun _ y => okS y) (hσ.next hk p5 (hR7 1 12 rfl) hR7 p6 (by decide +kernel))) (by omega)).1) (by omega)).2.1 (LRc.eq (if_neg (by have b1 := (NMP.ok (p10 t _ (fun _ y => okS y) (hσ.next hk p5 (hR7 1 12 rfl) hR7 p6 (by decide +kernel))) (by omega)).2.2; have b2 := (NMP.ok (p21 t _ (fun _ y => okS y) (NMP.ok (p10 t _ (fun _ y => okS y) (hσ.next hk p5 (hR7 1 12 rfl) hR7 p6 (by decide +kernel))) (by omega)).1) (by omega)).2.2; have y9 := fl_o (NMP.ok (p21 t _ (fun _ y => okS y) (NMP.ok (p10 t _ (fun _ y => okS y) (hσ.next hk p5 (hR7 1 12 rfl) hR7 p6 (by decide +kernel))) (by omega)).1) (by omega)).1 (x := 6 * M13.1 1 11 + M24.1 1 11) (y := 36 + 6 * M13.1 1 11 + M24.1 1 11) ⟨by omega, by omega⟩ (by omega); rw [show (6 * M13.1 1 11 + M24.1 1 11).toNat = ((6 * z14 + z25)).toNat by omega] at y9; intro e; rcases e with e | e; omega; exact e (y9.mp (by omega)))) (LRc.seqz (p45 t _ (NMP.ok (p21 t _ (fun _ y => okS y) (NMP.ok (p10 t _ (fun _ y => okS y) (hσ.next hk p5 (hR7 1 12 rfl) hR7 p6 (by decide +kernel))) (by omega)).1) (by omega)).1) (by omega))))), (((((LFr.rf _ _).tr p6 (by decide +kernel)).tr p11 (by decide +kernel)).tr p22 (by decide +kernel)).tr p47 (by decide +kernel)), (fun t σ hσ hk => KCc.eq (NMP.ko (fun g => p10 t _ g (hσ.next hk p5 (hR7 1 12 rfl) hR7 p6 (by decide +kernel))) (by omega) _) (KCc.eq (NMP.ko (fun g => p21 t _ g (NMP.ok (p10 t _ (fun _ y => okS y) (hσ.next hk p5 (hR7 1 12 rfl) hR7 p6 (by decide +kernel))) (by omega)).1) (by omega) _) (KCc.eq (if_neg (by have b1 := (NMP.ok (p10 t _ (fun _ y => okS y) (hσ.next hk p5 (hR7 1 12 rfl) hR7 p6 (by decide +kernel))) (by omega)).2.2; have b2 := (NMP.ok (p21 t _ (fun _ y => okS y) (NMP.ok (p10 t _ (fun _ y => okS y) (hσ.next hk p5 (hR7 1 12 rfl) hR7 p6 (by decide +kernel))) (by omega)).1) (by omega)).2.2; have y9 := fl_o (NMP.ok (p21 t _ (fun _ y => okS y) (NMP.ok (p10 t _ (fun _ y => okS y) (hσ.next hk p5 (hR7 1 12 rfl) hR7 p6 (by decide +kernel))) (by omega)).1) (by omega)).1 (x := 6 * M13.1 1 11 + M24.1 1 11) (y := 36 + 6 * M13.1 1 11 + M24.1 1 11) ⟨by omega, by omega⟩ (by omega); rw [show (6 * M13.1 1 11 + M24.1 1 11).toNat = ((6 * z14 + z25)).toNat by omega] at y9; intro e; rcases e with e | e; omega; exact e (y9.mp (by omega)))) ((p48 t _ (NMP.ok (p21 t _ (fun _ y => okS y) (NMP.ok (p10 t _ (fun _ y => okS y) (hσ.next hk p5 (hR7 1 12 rfl) hR7 p6 (by decide +kernel))) (by omega)).1) (by omega)).1).vc (by omega)))))⟩
   refine jx_load c1 hm rfl rfl rfl rfl ?_
   refine jy_ic c1 hm rfl (by decide) ?_
   refine jx_load c1 hm rfl rfl rfl rfl ?_
   refine jv_i c3 hm rfl pj_X10_fails rfl rfl ⟨_, _, _, rfl, sh_1⟩ rfl ((ct_X10_fails_1p X (by omega) M24 hH24 3 ⟨by omega, by omega⟩ z17 ⟨by omega, by omega⟩).le (by decide)) (fun z54 M60 ⟨hH60, hR60, lz54, uz54, p55, p56, p57, p58, p59⟩ => ?_)
   have hF60 := hF24.tr hR60 (by decide +kernel)
   obtain ⟨z61, k62, lz61, uz61⟩ := hH60.ld (c := 1) (i := 12) (A := 0) (B := 4) (bs_19_8 _ _ (by omega) (by omega))
   obtain ⟨z63, k64, lz63, uz63⟩ := hH60.ld (c := 1) (i := 13) (A := 0) (B := 940) (bs_19_9 _ _ (by omega) (by omega))
   exact jx_retz c2 hm rfl rfl ⟨by omega, by omega⟩ ⟨_, rfl, hH60, hF60, by omega, by omega, (fun t σ hσ hk => LRc.eq (NMP.ok (p10 t _ _ (hσ.next hk p5 (hR7 1 12 rfl) hR7 p6 (by decide +kernel))) (by omega)).2.1 (LRc.eq (NMP.ok (p21 t _ _ (NMP.ok (p10 t _ (fun _ y => okS y) (hσ.next hk p5 (hR7 1 12 rfl) hR7 p6 (by decide +kernel))) (by omega)).1) (by omega)).2.1 (LRc.eq (if_pos (by have b1 := (NMP.ok (p10 t _ (fun _ y => okS y) (hσ.next hk p5 (hR7 1 12 rfl) hR7 p6 (by decide +kernel))) (by omega)).2.2; have b2 := (NMP.ok (p21 t _ (fun _ y => okS y) (NMP.ok (p10 t _ (fun _ y => okS y) (hσ.next hk p5 (hR7 1 12 rfl) hR7 p6 (by decide +kernel))) (by omega)).1) (by omega)).2.2; by_cases c9 : M13.1 1 11 = M24.1 1 11; exact Or.inl c9; have y9 := fl_o (NMP.ok (p21 t _ (fun _ y => okS y) (NMP.ok (p10 t _ (fun _ y => okS y) (hσ.next hk p5 (hR7 1 12 rfl) hR7 p6 (by decide +kernel))) (by omega)).1) (by omega)).1 (x := 6 * M13.1 1 11 + M24.1 1 11) (y := 36 + 6 * M13.1 1 11 + M24.1 1 11) ⟨by omega, by omega⟩ (by omega); rw [show (6 * M13.1 1 11 + M24.1 1 11).toNat = ((6 * z14 + z25)).toNat by omega] at y9; exact Or.inr (fun e => absurd (y9.mpr e) (by omega)))) (Or.inr ⟨tF_nn (NMP.ok (p10 t _ (fun _ y => okS y) (hσ.next hk p5 (hR7 1 12 rfl) hR7 p6 (by decide +kernel))) (by omega)).1.2.2.2, by omega, by omega, by have y9 := (NMP.ok (p10 t _ (fun _ y => okS y) (hσ.next hk p5 (hR7 1 12 rfl) hR7 p6 (by decide +kernel))) (by omega)).1.start; show _ = kF t _; omega⟩)))), (((((LFr.rf _ _).tr p6 (by decide +kernel)).tr p11 (by decide +kernel)).tr p22 (by decide +kernel)).tr p59 (by decide +kernel)), (fun t σ hσ hk => KCc.eq (NMP.ko (fun g => p10 t _ g (hσ.next hk p5 (hR7 1 12 rfl) hR7 p6 (by decide +kernel))) (by omega) _) (KCc.eq (NMP.ko (fun g => p21 t _ g (NMP.ok (p10 t _ (fun _ y => okS y) (hσ.next hk p5 (hR7 1 12 rfl) hR7 p6 (by decide +kernel))) (by omega)).1) (by omega) _) (KCc.eq (if_pos (by have b1 := (NMP.ok (p10 t _ (fun _ y => okS y) (hσ.next hk p5 (hR7 1 12 rfl) hR7 p6 (by decide +kernel))) (by omega)).2.2; have b2 := (NMP.ok (p21 t _ (fun _ y => okS y) (NMP.ok (p10 t _ (fun _ y => okS y) (hσ.next hk p5 (hR7 1 12 rfl) hR7 p6 (by decide +kernel))) (by omega)).1) (by omega)).2.2; by_cases c9 : M13.1 1 11 = M24.1 1 11; exact Or.inl c9; have y9 := fl_o (NMP.ok (p21 t _ (fun _ y => okS y) (NMP.ok (p10 t _ (fun _ y => okS y) (hσ.next hk p5 (hR7 1 12 rfl) hR7 p6 (by decide +kernel))) (by omega)).1) (by omega)).1 (x := 6 * M13.1 1 11 + M24.1 1 11) (y := 36 + 6 * M13.1 1 11 + M24.1 1 11) ⟨by omega, by omega⟩ (by omega); rw [show (6 * M13.1 1 11 + M24.1 1 11).toNat = ((6 * z14 + z25)).toNat by omega] at y9; exact Or.inr (fun e => absurd (y9.mpr e) (by omega)))) (KCc.of (by omega)))))⟩
  refine jy_ic c1 hm rfl (by decide) ?_
  exact jx_retz c2 hm rfl rfl ⟨by omega, by omega⟩ ⟨_, rfl, hH24, hF24, by omega, by omega, (fun t σ hσ hk => LRc.eq (NMP.ok (p10 t _ _ (hσ.next hk p5 (hR7 1 12 rfl) hR7 p6 (by decide +kernel))) (by omega)).2.1 (NMP.bad (p21 t _ _ (NMP.ok (p10 t _ (fun _ y => okS y) (hσ.next hk p5 (hR7 1 12 rfl) hR7 p6 (by decide +kernel))) (by omega)).1) (by omega))), ((((LFr.rf _ _).tr p6 (by decide +kernel)).tr p11 (by decide +kernel)).tr p22 (by decide +kernel)), (fun t σ hσ hk => KCc.eq (NMP.ko (fun g => p10 t _ g (hσ.next hk p5 (hR7 1 12 rfl) hR7 p6 (by decide +kernel))) (by omega) _) (KCc.eq (NMP.kb (p21 t _ (fun _ y => okS y) (NMP.ok (p10 t _ (fun _ y => okS y) (hσ.next hk p5 (hR7 1 12 rfl) hR7 p6 (by decide +kernel))) (by omega)).1) (by omega) _) ((p23 t _ (NMP.ok (p10 t _ (fun _ y => okS y) (hσ.next hk p5 (hR7 1 12 rfl) hR7 p6 (by decide +kernel))) (by omega)).1).vc (by omega))))⟩
 refine jy_ic c1 hm rfl (by decide) ?_
 exact jx_retz c2 hm rfl rfl ⟨by omega, by omega⟩ ⟨_, rfl, hH13, hF13, by omega, by omega, (fun t σ hσ hk => NMP.bad (p10 t _ _ (hσ.next hk p5 (hR7 1 12 rfl) hR7 p6 (by decide +kernel))) (by omega)), (((LFr.rf _ _).tr p6 (by decide +kernel)).tr p11 (by decide +kernel)), (fun t σ hσ hk => KCc.eq (NMP.kb (p10 t _ (fun _ y => okS y) (hσ.next hk p5 (hR7 1 12 rfl) hR7 p6 (by decide +kernel))) (by omega) _) ((p12 t _ (hσ.next hk p5 (hR7 1 12 rfl) hR7 p6 (by decide +kernel))).vc (by omega)))⟩
def md_X2_readWears_27_1k : List (Nat × (Nat × Nat)) := [(1, (4, 4)), (1, (5, 5)), (1, (6, 6)), (1, (7, 7)), (1, (9, 9)), (1, (11, 11)), (1, (12, 12)), (1, (13, 13)), (27, (6, 6))]
theorem ct_X2_readWears_27_1k (X : Int) (hX : 0 ≤ X ∧ X ≤ 100000000) (M0 : JM) (hH0 : HI X M0)  : JOk shp PJ 4 230 [.inr (.inr (.inl 27)), .inr (.inr (.inl 1))] M0 (jRi (fun v M' => HI X M' ∧ Fr md_X2_readWears_27_1k M0 M' ∧ 0 ≤ v ∧ v ≤ 1 ∧ (∀ (t : TXT) (σ : PSt), CS M0 t σ → 2 ≤ kK t σ → LRc t (wmS t 72 σ) v M') ∧ (LFr ml_X2_readWears_27_1p M0 M') ∧ (∀ (t : TXT) (σ : PSt), CS M0 t σ → 2 ≤ kK t σ → KCc (wmK t 72 σ) v M'))) := by
 refine ⟨jr_X2_readWears, pj_X2_readWears, fun F c1 c2 c3 => ?_⟩
 have hm := pj_X2_readWears
 change F 0 [some (.inr (.inr (.inl 27))), some (.inr (.inr (.inl 1)))] [] M0
 have hF0 : Fr md_X2_readWears_27_1k M0 M0 := Fr.rf _ _
 refine jx_load c1 hm rfl rfl rfl rfl ?_
 obtain ⟨z1, k2, lz1, uz1⟩ := hH0.ld (c := 27) (i := 6) (A := (-1)) (B := 9) (bs_23_1 _ _ (by omega) (by omega))
 refine jx_geti c1 hm rfl sh_27 rfl k2 ?_
 refine jy_ic c1 hm rfl (by decide) ?_
 refine jc_eq c1 hm 18 rfl rfl (fun h3 => ?_) (fun h3 => ?_)
 ·
  refine jx_load c1 hm rfl rfl rfl rfl ?_
  obtain ⟨z4, k5, lz4, uz4⟩ := hH0.ld (c := 1) (i := 2) (A := 0) (B := 940) (bs_19_1 _ _ (by omega) (by omega))
  obtain ⟨z6, k7, lz6, uz6⟩ := hH0.ld (c := 1) (i := 4) (A := 0) (B := 940) (bs_19_3 _ _ (by omega) (by omega))
  refine jv_v c3 hm rfl pj_X10_next rfl rfl ⟨_, _, _, rfl, sh_1⟩ rfl ((ct_X10_next_1p X (by omega) M0 hH0 ).le (by decide)) (fun M10 ⟨hH10, hR10, p8, p9⟩ => ?_)
  have hF10 := hF0.tr hR10 (by decide +kernel)
  refine jx_load c1 hm rfl rfl rfl rfl ?_
  refine jy_ic c1 hm rfl (by decide) ?_
  refine jy_bp c1 hm rfl (by decide) ?_
  refine jv_i c3 hm rfl pj_X10_takesNumber rfl rfl ⟨_, _, _, rfl, sh_1⟩ rfl ((ct_X10_takesNumber_1k X (by omega) M10 hH10 0 ⟨by omega, by omega⟩ 9 ⟨by omega, by omega⟩).le (by decide)) (fun z11 M17 ⟨hH17, hR17, lz11, uz11, p12, p13, p14, p15, p16⟩ => ?_)
  have hF17 := hF10.tr hR17 (by decide +kernel)
  obtain ⟨z18, k19, lz18, uz18⟩ := hH17.ld (c := 1) (i := 11) (A := 0) (B := 999) (bs_19_7 _ _ (by omega) (by omega))
  refine jz_ne c1 hm 34 rfl rfl (fun h20 => ?_) (fun h20 => ?_)
  ·
   refine jx_load c1 hm rfl rfl rfl rfl ?_
   refine jx_load c1 hm rfl rfl rfl rfl ?_
   refine jx_geti c1 hm rfl sh_1 rfl k19 ?_
   obtain ⟨M21, e21, hH21, hF21, k21, n21, q21⟩ := mup hH17 hF17 (c := 27) (i := 6) (v := z18) (A := (-1)) (B := 9) (bs_23_1 _ _ (by omega) (by omega)) ⟨by omega, by omega⟩ (jin_of 8 rfl ⟨by omega, by omega⟩)
   refine jm_puti c1 hm rfl sh_27 rfl e21 ?_
   refine jy_ic c1 hm rfl (by decide) ?_
   exact jx_retz c2 hm rfl rfl ⟨by omega, by omega⟩ ⟨_, rfl, hH21, hF21, by omega, by omega, (fun t σ hσ hk => LRc.eq (wm_eq (i := 6) (by decide) hσ (by omega)) (LRc.seqg (p13 t _ (hσ.next hk p8 (hR10 1 12 rfl) hR10 p9 (by decide +kernel))) (by omega) (fun l1 h1 => LRc.o (CS.flag h1 n21 q21 (by omega)) (show (-1 : Int) < 0 by decide)))), ((((LFr.rf _ _).tr p9 (by decide +kernel)).tr p15 (by decide +kernel)).eq q21), (fun t σ hσ hk => KCc.y (by omega))⟩
  refine jy_ic c1 hm rfl (by decide) ?_
  exact jx_retz c2 hm rfl rfl ⟨by omega, by omega⟩ ⟨_, rfl, hH17, hF17, by omega, by omega, (fun t σ hσ hk => LRc.eq (wm_eq (i := 6) (by decide) hσ (by omega)) (LRc.seqz (p13 t _ (hσ.next hk p8 (hR10 1 12 rfl) hR10 p9 (by decide +kernel))) (by omega))), (((LFr.rf _ _).tr p9 (by decide +kernel)).tr p15 (by decide +kernel)), (fun t σ hσ hk => KCc.eq (wmk_n (i := 6) (by decide) hσ (by omega)) ((p16 t _ (hσ.next hk p8 (hR10 1 12 rfl) hR10 p9 (by decide +kernel))).vc (by omega)))⟩
 refine jx_load c1 hm rfl rfl rfl rfl ?_
 refine jy_ic c1 hm rfl (by decide) ?_
 refine jx_load c1 hm rfl rfl rfl rfl ?_
 obtain ⟨z22, k23, lz22, uz22⟩ := hH0.ld (c := 1) (i := 5) (A := 0) (B := 940) (bs_19_3 _ _ (by omega) (by omega))
 refine jx_geti c1 hm rfl sh_1 rfl k23 ?_
 refine jv_i c3 hm rfl pj_X10_fails rfl rfl ⟨_, _, _, rfl, sh_1⟩ rfl ((ct_X10_fails_1p X (by omega) M0 hH0 3 ⟨by omega, by omega⟩ z22 ⟨by omega, by omega⟩).le (by decide)) (fun z24 M30 ⟨hH30, hR30, lz24, uz24, p25, p26, p27, p28, p29⟩ => ?_)
 have hF30 := hF0.tr hR30 (by decide +kernel)
 obtain ⟨z31, k32, lz31, uz31⟩ := hH30.ld (c := 1) (i := 12) (A := 0) (B := 4) (bs_19_8 _ _ (by omega) (by omega))
 obtain ⟨z33, k34, lz33, uz33⟩ := hH30.ld (c := 1) (i := 13) (A := 0) (B := 940) (bs_19_9 _ _ (by omega) (by omega))
 exact jx_retz c2 hm rfl rfl ⟨by omega, by omega⟩ ⟨_, rfl, hH30, hF30, by omega, by omega, (fun t σ hσ hk => wm_no (i := 6) (by decide) hσ (by omega) (by omega) (by omega) (by omega)), ((LFr.rf _ _).tr p29 (by decide +kernel)), (fun t σ hσ hk => KCc.of ((show M30.1 1 12 = 3 by omega).trans (wmk_3 (i := 6) (by decide) hσ (by omega)).symm))⟩
def md_X2_readMends_27_1k : List (Nat × (Nat × Nat)) := [(1, (4, 4)), (1, (5, 5)), (1, (6, 6)), (1, (7, 7)), (1, (9, 9)), (1, (11, 11)), (1, (12, 12)), (1, (13, 13)), (27, (7, 7))]
theorem ct_X2_readMends_27_1k (X : Int) (hX : 0 ≤ X ∧ X ≤ 100000000) (M0 : JM) (hH0 : HI X M0)  : JOk shp PJ 4 227 [.inr (.inr (.inl 27)), .inr (.inr (.inl 1))] M0 (jRi (fun v M' => HI X M' ∧ Fr md_X2_readMends_27_1k M0 M' ∧ 0 ≤ v ∧ v ≤ 1 ∧ (∀ (t : TXT) (σ : PSt), CS M0 t σ → 2 ≤ kK t σ → LRc t (wmS t 73 σ) v M') ∧ (LFr ml_X2_readMends_27_1p M0 M') ∧ (∀ (t : TXT) (σ : PSt), CS M0 t σ → 2 ≤ kK t σ → KCc (wmK t 73 σ) v M'))) := by
 refine ⟨jr_X2_readMends, pj_X2_readMends, fun F c1 c2 c3 => ?_⟩
 have hm := pj_X2_readMends
 change F 0 [some (.inr (.inr (.inl 27))), some (.inr (.inr (.inl 1)))] [] M0
 have hF0 : Fr md_X2_readMends_27_1k M0 M0 := Fr.rf _ _
 refine jx_load c1 hm rfl rfl rfl rfl ?_
 obtain ⟨z1, k2, lz1, uz1⟩ := hH0.ld (c := 27) (i := 7) (A := (-1)) (B := 9) (bs_23_1 _ _ (by omega) (by omega))
 refine jx_geti c1 hm rfl sh_27 rfl k2 ?_
 refine jy_ic c1 hm rfl (by decide) ?_
 refine jc_eq c1 hm 18 rfl rfl (fun h3 => ?_) (fun h3 => ?_)
 ·
  refine jx_load c1 hm rfl rfl rfl rfl ?_
  obtain ⟨z4, k5, lz4, uz4⟩ := hH0.ld (c := 1) (i := 2) (A := 0) (B := 940) (bs_19_1 _ _ (by omega) (by omega))
  obtain ⟨z6, k7, lz6, uz6⟩ := hH0.ld (c := 1) (i := 4) (A := 0) (B := 940) (bs_19_3 _ _ (by omega) (by omega))
  refine jv_v c3 hm rfl pj_X10_next rfl rfl ⟨_, _, _, rfl, sh_1⟩ rfl ((ct_X10_next_1p X (by omega) M0 hH0 ).le (by decide)) (fun M10 ⟨hH10, hR10, p8, p9⟩ => ?_)
  have hF10 := hF0.tr hR10 (by decide +kernel)
  refine jx_load c1 hm rfl rfl rfl rfl ?_
  refine jy_ic c1 hm rfl (by decide) ?_
  refine jy_bp c1 hm rfl (by decide) ?_
  refine jv_i c3 hm rfl pj_X10_takesNumber rfl rfl ⟨_, _, _, rfl, sh_1⟩ rfl ((ct_X10_takesNumber_1k X (by omega) M10 hH10 0 ⟨by omega, by omega⟩ 9 ⟨by omega, by omega⟩).le (by decide)) (fun z11 M17 ⟨hH17, hR17, lz11, uz11, p12, p13, p14, p15, p16⟩ => ?_)
  have hF17 := hF10.tr hR17 (by decide +kernel)
  obtain ⟨z18, k19, lz18, uz18⟩ := hH17.ld (c := 1) (i := 11) (A := 0) (B := 999) (bs_19_7 _ _ (by omega) (by omega))
  refine jz_ne c1 hm 34 rfl rfl (fun h20 => ?_) (fun h20 => ?_)
  ·
   refine jx_load c1 hm rfl rfl rfl rfl ?_
   refine jx_load c1 hm rfl rfl rfl rfl ?_
   refine jx_geti c1 hm rfl sh_1 rfl k19 ?_
   obtain ⟨M21, e21, hH21, hF21, k21, n21, q21⟩ := mup hH17 hF17 (c := 27) (i := 7) (v := z18) (A := (-1)) (B := 9) (bs_23_1 _ _ (by omega) (by omega)) ⟨by omega, by omega⟩ (jin_of 8 rfl ⟨by omega, by omega⟩)
   refine jm_puti c1 hm rfl sh_27 rfl e21 ?_
   refine jy_ic c1 hm rfl (by decide) ?_
   exact jx_retz c2 hm rfl rfl ⟨by omega, by omega⟩ ⟨_, rfl, hH21, hF21, by omega, by omega, (fun t σ hσ hk => LRc.eq (wm_eq (i := 7) (by decide) hσ (by omega)) (LRc.seqg (p13 t _ (hσ.next hk p8 (hR10 1 12 rfl) hR10 p9 (by decide +kernel))) (by omega) (fun l1 h1 => LRc.o (CS.flag h1 n21 q21 (by omega)) (show (-1 : Int) < 0 by decide)))), ((((LFr.rf _ _).tr p9 (by decide +kernel)).tr p15 (by decide +kernel)).eq q21), (fun t σ hσ hk => KCc.y (by omega))⟩
  refine jy_ic c1 hm rfl (by decide) ?_
  exact jx_retz c2 hm rfl rfl ⟨by omega, by omega⟩ ⟨_, rfl, hH17, hF17, by omega, by omega, (fun t σ hσ hk => LRc.eq (wm_eq (i := 7) (by decide) hσ (by omega)) (LRc.seqz (p13 t _ (hσ.next hk p8 (hR10 1 12 rfl) hR10 p9 (by decide +kernel))) (by omega))), (((LFr.rf _ _).tr p9 (by decide +kernel)).tr p15 (by decide +kernel)), (fun t σ hσ hk => KCc.eq (wmk_n (i := 7) (by decide) hσ (by omega)) ((p16 t _ (hσ.next hk p8 (hR10 1 12 rfl) hR10 p9 (by decide +kernel))).vc (by omega)))⟩
 refine jx_load c1 hm rfl rfl rfl rfl ?_
 refine jy_ic c1 hm rfl (by decide) ?_
 refine jx_load c1 hm rfl rfl rfl rfl ?_
 obtain ⟨z22, k23, lz22, uz22⟩ := hH0.ld (c := 1) (i := 5) (A := 0) (B := 940) (bs_19_3 _ _ (by omega) (by omega))
 refine jx_geti c1 hm rfl sh_1 rfl k23 ?_
 refine jv_i c3 hm rfl pj_X10_fails rfl rfl ⟨_, _, _, rfl, sh_1⟩ rfl ((ct_X10_fails_1p X (by omega) M0 hH0 3 ⟨by omega, by omega⟩ z22 ⟨by omega, by omega⟩).le (by decide)) (fun z24 M30 ⟨hH30, hR30, lz24, uz24, p25, p26, p27, p28, p29⟩ => ?_)
 have hF30 := hF0.tr hR30 (by decide +kernel)
 obtain ⟨z31, k32, lz31, uz31⟩ := hH30.ld (c := 1) (i := 12) (A := 0) (B := 4) (bs_19_8 _ _ (by omega) (by omega))
 obtain ⟨z33, k34, lz33, uz33⟩ := hH30.ld (c := 1) (i := 13) (A := 0) (B := 940) (bs_19_9 _ _ (by omega) (by omega))
 exact jx_retz c2 hm rfl rfl ⟨by omega, by omega⟩ ⟨_, rfl, hH30, hF30, by omega, by omega, (fun t σ hσ hk => wm_no (i := 7) (by decide) hσ (by omega) (by omega) (by omega) (by omega)), ((LFr.rf _ _).tr p29 (by decide +kernel)), (fun t σ hσ hk => KCc.of ((show M30.1 1 12 = 3 by omega).trans (wmk_3 (i := 7) (by decide) hσ (by omega)).symm))⟩
def md_X2_readLine_27_1k : List (Nat × (Nat × Nat)) := [(1, (4, 4)), (1, (5, 5)), (1, (6, 6)), (1, (7, 7)), (1, (9, 9)), (1, (11, 11)), (1, (12, 12)), (1, (13, 13)), (27, (6, 6)), (27, (7, 7)), (28, (0, 2)), (30, (0, 5)), (31, (0, 5)), (32, (0, 35)), (33, (0, 5)), (35, (0, 5)), (38, (0, 5)), (39, (0, 35))]
theorem ct_X2_readLine_27_1k (X : Int) (hX : 0 ≤ X ∧ X ≤ 100000000) (M0 : JM) (hH0 : HI X M0)  : JOk shp PJ 5 224 [.inr (.inr (.inl 27)), .inr (.inr (.inl 1))] M0 (jRi (fun v M' => HI X M' ∧ Fr md_X2_readLine_27_1k M0 M' ∧ 0 ≤ v ∧ v ≤ 1 ∧ (∀ (t : TXT) (σ : PSt), CS M0 t σ → LRc t (lineS t σ) v M') ∧ (LFr ml_X2_readLine_27_1p M0 M') ∧ (∀ (t : TXT) (σ : PSt), CS M0 t σ → KCc (lineK t σ) v M'))) := by
 refine ⟨jr_X2_readLine, pj_X2_readLine, fun F c1 c2 c3 => ?_⟩
 have hm := pj_X2_readLine
 change F 0 [some (.inr (.inr (.inl 27))), some (.inr (.inr (.inl 1)))] [] M0
 have hF0 : Fr md_X2_readLine_27_1k M0 M0 := Fr.rf _ _
 refine jx_load c1 hm rfl rfl rfl rfl ?_
 obtain ⟨z1, k2, lz1, uz1⟩ := hH0.ld (c := 1) (i := 7) (A := (-1)) (B := 23) (bs_19_5 _ _ (by omega) (by omega))
 refine jx_geti c1 hm rfl sh_1 rfl k2 ?_
 by_cases h3 : z1 = 0
 ·
  refine jx_tswI c1 hm 48 rfl ⟨by omega, by omega⟩ (by rw [h3] <;> rfl) rfl ?_
  refine jx_load c1 hm rfl rfl rfl rfl ?_
  refine jx_load c1 hm rfl rfl rfl rfl ?_
  refine jv_i c3 hm rfl pj_X2_readMan rfl rfl ⟨_, _, _, rfl, sh_27⟩ rfl ((ct_X2_readMan_27_1k X (by omega) M0 hH0 ).le (by decide)) (fun z4 M8 ⟨hH8, hR8, lz4, uz4, p5, p6, p7⟩ => ?_)
  have hF8 := hF0.tr hR8 (by decide +kernel)
  exact jx_retz c2 hm rfl rfl ⟨by omega, by omega⟩ ⟨_, rfl, hH8, hF8, by omega, by omega, (fun t σ hσ => LRc.eq (ln_0 hσ (by omega)) (p5 t σ hσ (by have y9 := ln_key (k := 0) hσ (by omega) (by decide); omega))), ((LFr.rf _ _).tr p6 (by decide +kernel)), (fun t σ hσ => KCc.eq (lk_0 (ln_key (k := 0) hσ (by omega) (by decide))) (p7 t σ hσ (by have y9 := (ln_key (k := 0) hσ (by omega) (by decide)); omega)))⟩
 by_cases h9 : z1 = 1
 ·
  refine jx_tswI c1 hm 54 rfl ⟨by omega, by omega⟩ (by rw [h9] <;> rfl) rfl ?_
  refine jx_load c1 hm rfl rfl rfl rfl ?_
  refine jx_load c1 hm rfl rfl rfl rfl ?_
  refine jv_i c3 hm rfl pj_X2_readForfeit rfl rfl ⟨_, _, _, rfl, sh_27⟩ rfl ((ct_X2_readForfeit_27_1k X (by omega) M0 hH0 ).le (by decide)) (fun z10 M14 ⟨hH14, hR14, lz10, uz10, p11, p12, p13⟩ => ?_)
  have hF14 := hF0.tr hR14 (by decide +kernel)
  exact jx_retz c2 hm rfl rfl ⟨by omega, by omega⟩ ⟨_, rfl, hH14, hF14, by omega, by omega, (fun t σ hσ => LRc.eq (ln_1 hσ (by omega)) (p11 t σ hσ (by have y9 := ln_key (k := 1) hσ (by omega) (by decide); omega))), ((LFr.rf _ _).tr p12 (by decide +kernel)), (fun t σ hσ => KCc.eq (lk_1 (ln_key (k := 1) hσ (by omega) (by decide))) (p13 t σ hσ (by have y9 := (ln_key (k := 1) hσ (by omega) (by decide)); omega)))⟩
 by_cases h15 : z1 = 2
 ·
  refine jx_tswI c1 hm 60 rfl ⟨by omega, by omega⟩ (by rw [h15] <;> rfl) rfl ?_
  refine jx_load c1 hm rfl rfl rfl rfl ?_
  refine jx_load c1 hm rfl rfl rfl rfl ?_
  refine jv_i c3 hm rfl pj_X2_readMinds rfl rfl ⟨_, _, _, rfl, sh_27⟩ rfl ((ct_X2_readMinds_27_1k X (by omega) M0 hH0 ).le (by decide)) (fun z16 M20 ⟨hH20, hR20, lz16, uz16, p17, p18, p19⟩ => ?_)
  have hF20 := hF0.tr hR20 (by decide +kernel)
  exact jx_retz c2 hm rfl rfl ⟨by omega, by omega⟩ ⟨_, rfl, hH20, hF20, by omega, by omega, (fun t σ hσ => LRc.eq (ln_2 hσ (by omega)) (p17 t σ hσ (by have y9 := ln_key (k := 2) hσ (by omega) (by decide); omega))), ((LFr.rf _ _).tr p18 (by decide +kernel)), (fun t σ hσ => KCc.eq (lk_2 (ln_key (k := 2) hσ (by omega) (by decide))) (p19 t σ hσ (by have y9 := (ln_key (k := 2) hσ (by omega) (by decide)); omega)))⟩
 by_cases h21 : z1 = 3
 ·
  refine jx_tswI c1 hm 66 rfl ⟨by omega, by omega⟩ (by rw [h21] <;> rfl) rfl ?_
  refine jx_load c1 hm rfl rfl rfl rfl ?_
  refine jx_load c1 hm rfl rfl rfl rfl ?_
  refine jv_i c3 hm rfl pj_X2_readGood rfl rfl ⟨_, _, _, rfl, sh_27⟩ rfl ((ct_X2_readGood_27_1k X (by omega) M0 hH0 ).le (by decide)) (fun z22 M26 ⟨hH26, hR26, lz22, uz22, p23, p24, p25⟩ => ?_)
  have hF26 := hF0.tr hR26 (by decide +kernel)
  exact jx_retz c2 hm rfl rfl ⟨by omega, by omega⟩ ⟨_, rfl, hH26, hF26, by omega, by omega, (fun t σ hσ => LRc.eq (ln_3 hσ (by omega)) (p23 t σ hσ (by have y9 := ln_key (k := 3) hσ (by omega) (by decide); omega))), ((LFr.rf _ _).tr p24 (by decide +kernel)), (fun t σ hσ => KCc.eq (lk_3 (ln_key (k := 3) hσ (by omega) (by decide))) (p25 t σ hσ (by have y9 := (ln_key (k := 3) hσ (by omega) (by decide)); omega)))⟩
 by_cases h27 : z1 = 4
 ·
  refine jx_tswI c1 hm 72 rfl ⟨by omega, by omega⟩ (by rw [h27] <;> rfl) rfl ?_
  refine jx_load c1 hm rfl rfl rfl rfl ?_
  refine jx_load c1 hm rfl rfl rfl rfl ?_
  refine jv_i c3 hm rfl pj_X2_readOwes rfl rfl ⟨_, _, _, rfl, sh_27⟩ rfl ((ct_X2_readOwes_27_1k X (by omega) M0 hH0 ).le (by decide)) (fun z28 M32 ⟨hH32, hR32, lz28, uz28, p29, p30, p31⟩ => ?_)
  have hF32 := hF0.tr hR32 (by decide +kernel)
  exact jx_retz c2 hm rfl rfl ⟨by omega, by omega⟩ ⟨_, rfl, hH32, hF32, by omega, by omega, (fun t σ hσ => LRc.eq (ln_4 hσ (by omega)) (p29 t σ hσ (by have y9 := ln_key (k := 4) hσ (by omega) (by decide); omega))), ((LFr.rf _ _).tr p30 (by decide +kernel)), (fun t σ hσ => KCc.eq (lk_4 (ln_key (k := 4) hσ (by omega) (by decide))) (p31 t σ hσ (by have y9 := (ln_key (k := 4) hσ (by omega) (by decide)); omega)))⟩
 by_cases h33 : z1 = 5
 ·
  refine jx_tswI c1 hm 78 rfl ⟨by omega, by omega⟩ (by rw [h33] <;> rfl) rfl ?_
  refine jx_load c1 hm rfl rfl rfl rfl ?_
  refine jx_load c1 hm rfl rfl rfl rfl ?_
  refine jv_i c3 hm rfl pj_X2_readWears rfl rfl ⟨_, _, _, rfl, sh_27⟩ rfl ((ct_X2_readWears_27_1k X (by omega) M0 hH0 ).le (by decide)) (fun z34 M38 ⟨hH38, hR38, lz34, uz34, p35, p36, p37⟩ => ?_)
  have hF38 := hF0.tr hR38 (by decide +kernel)
  exact jx_retz c2 hm rfl rfl ⟨by omega, by omega⟩ ⟨_, rfl, hH38, hF38, by omega, by omega, (fun t σ hσ => LRc.eq (ln_5 hσ (by omega)) (p35 t σ hσ (by have y9 := ln_key (k := 5) hσ (by omega) (by decide); omega))), ((LFr.rf _ _).tr p36 (by decide +kernel)), (fun t σ hσ => KCc.eq (lk_5 (ln_key (k := 5) hσ (by omega) (by decide))) (p37 t σ hσ (by have y9 := (ln_key (k := 5) hσ (by omega) (by decide)); omega)))⟩
 by_cases h39 : z1 = 6
 ·
  refine jx_tswI c1 hm 84 rfl ⟨by omega, by omega⟩ (by rw [h39] <;> rfl) rfl ?_
  refine jx_load c1 hm rfl rfl rfl rfl ?_
  refine jx_load c1 hm rfl rfl rfl rfl ?_
  refine jv_i c3 hm rfl pj_X2_readMends rfl rfl ⟨_, _, _, rfl, sh_27⟩ rfl ((ct_X2_readMends_27_1k X (by omega) M0 hH0 ).le (by decide)) (fun z40 M44 ⟨hH44, hR44, lz40, uz40, p41, p42, p43⟩ => ?_)
  have hF44 := hF0.tr hR44 (by decide +kernel)
  exact jx_retz c2 hm rfl rfl ⟨by omega, by omega⟩ ⟨_, rfl, hH44, hF44, by omega, by omega, (fun t σ hσ => LRc.eq (ln_6 hσ (by omega)) (p41 t σ hσ (by have y9 := ln_key (k := 6) hσ (by omega) (by decide); omega))), ((LFr.rf _ _).tr p42 (by decide +kernel)), (fun t σ hσ => KCc.eq (lk_6 (ln_key (k := 6) hσ (by omega) (by decide))) (p43 t σ hσ (by have y9 := (ln_key (k := 6) hσ (by omega) (by decide)); omega)))⟩
 refine jx_tswO c1 hm 90 rfl (by omega) rfl ?_
 refine jx_load c1 hm rfl rfl rfl rfl ?_
 refine jy_ic c1 hm rfl (by decide) ?_
 refine jx_load c1 hm rfl rfl rfl rfl ?_
 obtain ⟨z45, k46, lz45, uz45⟩ := hH0.ld (c := 1) (i := 5) (A := 0) (B := 940) (bs_19_3 _ _ (by omega) (by omega))
 refine jx_geti c1 hm rfl sh_1 rfl k46 ?_
 refine jv_i c3 hm rfl pj_X10_fails rfl rfl ⟨_, _, _, rfl, sh_1⟩ rfl ((ct_X10_fails_1p X (by omega) M0 hH0 1 ⟨by omega, by omega⟩ z45 ⟨by omega, by omega⟩).le (by decide)) (fun z47 M53 ⟨hH53, hR53, lz47, uz47, p48, p49, p50, p51, p52⟩ => ?_)
 have hF53 := hF0.tr hR53 (by decide +kernel)
 obtain ⟨z54, k55, lz54, uz54⟩ := hH53.ld (c := 1) (i := 12) (A := 0) (B := 4) (bs_19_8 _ _ (by omega) (by omega))
 obtain ⟨z56, k57, lz56, uz56⟩ := hH53.ld (c := 1) (i := 13) (A := 0) (B := 940) (bs_19_9 _ _ (by omega) (by omega))
 exact jx_retz c2 hm rfl rfl ⟨by omega, by omega⟩ ⟨_, rfl, hH53, hF53, by omega, by omega, (fun t σ hσ => ln_no hσ (by omega) (by omega) (by omega) (by omega)), ((LFr.rf _ _).tr p52 (by decide +kernel)), (fun t σ hσ => KCc.of ((show M53.1 1 12 = 1 by omega).trans (lck_no hσ (by omega)).symm))⟩
