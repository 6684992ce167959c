/-! Contracts that tell kinds of faults (by wip/q/wlk.py). -/
def md_X12_readEnd_173y : List (Nat × (Nat × Nat)) := [(173, (5, 5)), (173, (6, 6)), (173, (7, 7)), (173, (8, 8)), (173, (9, 9)), (173, (10, 10)), (173, (11, 11))]
theorem ct_X12_readEnd_173y (X : Int) (hX : 0 ≤ X ∧ X ≤ 100000000) (M0 : JM) (hH0 : HI X M0)  : JOk shp PJ 3 157 [.inr (.inr (.inl 173))] M0 (jRi (fun v M' => HI X M' ∧ Fr md_X12_readEnd_173y M0 M' ∧ 0 ≤ v ∧ v ≤ 1 ∧ (∀ (t : TXT) (σ : PSt) (n : Int), CR M0 t σ → LTr t (sgnQ t 59 (σ, n)) v M') ∧ (LFr ml_X12_go_173p M0 M'))) := by
 refine ⟨jr_X12_readEnd, pj_X12_readEnd, fun F c1 c2 c3 => ?_⟩
 have hm := pj_X12_readEnd
 change F 0 [some (.inr (.inr (.inl 173)))] [] M0
 have hF0 : Fr md_X12_readEnd_173y M0 M0 := Fr.rf _ _
 obtain ⟨z1, k2, lz1, uz1⟩ := hH0.ld (c := 173) (i := 6) (A := 0) (B := 940) (bs_28_3 _ _ (by omega) (by omega))
 obtain ⟨z3, k4, lz3, uz3⟩ := hH0.ld (c := 173) (i := 7) (A := 0) (B := 4) (bs_28_4 _ _ (by omega) (by omega))
 obtain ⟨z5, k6, lz5, uz5⟩ := hH0.ld (c := 173) (i := 9) (A := (-2147483648)) (B := 2147483647) (bs_28_5 _ _ (by omega) (by omega))
 refine jx_load c1 hm rfl rfl rfl rfl ?_
 refine jy_bp c1 hm rfl (by decide) ?_
 refine jv_i c3 hm rfl pj_X12_isSign rfl rfl ⟨_, _, _, rfl, sh_173⟩ rfl ((ct_X12_isSign_173p X (by omega) M0 hH0 59 ⟨by omega, by omega⟩).le (by decide)) (fun z7 _ ⟨rfl, lz7, uz7, p8, p9⟩ => ?_)
 refine jz_ne c1 hm 15 rfl rfl (fun h10 => ?_) (fun h10 => ?_)
 ·
  refine jx_load c1 hm rfl rfl rfl rfl ?_
  obtain ⟨z11, k12, lz11, uz11⟩ := hH0.ld (c := 173) (i := 5) (A := 0) (B := 940) (bs_28_3 _ _ (by omega) (by omega))
  refine jv_v c3 hm rfl pj_X12_go rfl rfl ⟨_, _, _, rfl, sh_173⟩ rfl ((ct_X12_go_173p X (by omega) M0 hH0 ).le (by decide)) (fun M15 ⟨hH15, hR15, p13, p14⟩ => ?_)
  have hF15 := hF0.tr hR15 (by decide +kernel)
  refine jy_ic c1 hm rfl (by decide) ?_
  exact jx_retz c2 hm rfl rfl ⟨by omega, by omega⟩ ⟨_, rfl, hH15, hF15, by omega, by omega, (fun t σ n hσ => rsgn_go hσ (by omega) (by omega) rfl p13 (hR15 173 10 rfl) (fun j => hR15 175 j rfl) (fun k => p14 180 k rfl)), ((LFr.rf _ _).tr p14 (by decide +kernel))⟩
 refine jx_load c1 hm rfl rfl rfl rfl ?_
 refine jy_ic c1 hm rfl (by decide) ?_
 refine jv_i c3 hm rfl pj_X12_bad rfl rfl ⟨_, _, _, rfl, sh_173⟩ rfl ((ct_X12_bad_173q X (by omega) M0 hH0 1 ⟨by omega, by omega⟩).le (by decide)) (fun z16 M22 ⟨hH22, hR22, lz16, uz16, p17, p18, p19, p20, p21⟩ => ?_)
 have hF22 := hF0.tr hR22 (by decide +kernel)
 obtain ⟨z23, k24, lz23, uz23⟩ := hH22.ld (c := 173) (i := 11) (A := 0) (B := 940) (bs_28_6 _ _ (by omega) (by omega))
 obtain ⟨z25, k26, lz25, uz25⟩ := hH22.ld (c := 173) (i := 10) (A := (-2147483648)) (B := 2147483647) (bs_28_5 _ _ (by omega) (by omega))
 exact jx_retz c2 hm rfl rfl ⟨by omega, by omega⟩ ⟨_, rfl, hH22, hF22, by omega, by omega, (fun t σ n hσ => rsgn_no hσ (by omega) (by omega) (by omega) (by omega)), ((LFr.rf _ _).tr p21 (by decide +kernel))⟩
def md_X12_keep_173y : List (Nat × (Nat × Nat)) := [(195, (0, 159))]
theorem ct_X12_keep_173y (X : Int) (hX : 0 ≤ X ∧ X ≤ 100000000) (M0 : JM) (hH0 : HI X M0) (a0 : Int) (ha0 : 0 ≤ a0 ∧ a0 ≤ 159) (a1 : Int) (ha1 : 0 ≤ a1 ∧ a1 ≤ 1) (hp0 : a1 = 0 ∨ ((bnd X 195 (a0).toNat).1 ≤ M0.1 173 13 ∧ M0.1 173 13 ≤ (bnd X 195 (a0).toNat).2)) : JOk shp PJ 1 125 [.inr (.inr (.inl 173)), .inl a0, .inl a1] M0 (jRi (fun v M' => HI X M' ∧ Fr md_X12_keep_173y M0 M' ∧ 0 ≤ v ∧ v ≤ 1 ∧ (v = a1) ∧ (LFr ml_0 M0 M'))) := by
 refine ⟨jr_X12_keep, pj_X12_keep, fun F c1 c2 c3 => ?_⟩
 have hm := pj_X12_keep
 change F 0 [some (.inr (.inr (.inl 173))), some (.inl a0), some (.inl a1)] [] M0
 have hF0 : Fr md_X12_keep_173y M0 M0 := Fr.rf _ _
 obtain ⟨z1, k2, lz1, uz1⟩ := hH0.ld (c := 173) (i := 13) (A := (-2147483648)) (B := 2147483647) (bs_28_7 _ _ (by omega) (by omega))
 refine jx_load c1 hm rfl rfl rfl rfl ?_
 refine jz_eq c1 hm 14 rfl rfl (fun h3 => ?_) (fun h3 => ?_)
 ·
  refine jx_load c1 hm rfl rfl rfl rfl ?_
  exact jx_retz c2 hm rfl rfl ⟨by omega, by omega⟩ ⟨_, rfl, hH0, hF0, by omega, by omega, (by omega), (LFr.rf _ _)⟩
 refine jx_load c1 hm rfl rfl rfl rfl ?_
 refine jx_getr c1 hm rfl sh_173 rfl ?_
 refine jx_load c1 hm rfl rfl rfl rfl ?_
 refine jx_load c1 hm rfl rfl rfl rfl ?_
 refine jx_geti c1 hm rfl sh_173 rfl k2 ?_
 obtain ⟨M4, e4, hH4, hF4, k4, n4, q4⟩ := mup hH0 hF0 (c := 195) (i := (a0).toNat) (v := z1) (A := (bnd (X) 195 (a0).toNat).1) (B := (bnd (X) 195 (a0).toNat).2) rfl (by omega) (jin_of 0 rfl ⟨by omega, by omega⟩)
 refine jm_iast c1 hm rfl sh_195 ⟨by omega, by omega⟩ e4 ?_
 refine jx_load c1 hm rfl rfl rfl rfl ?_
 exact jx_retz c2 hm rfl rfl ⟨by omega, by omega⟩ ⟨_, rfl, hH4, hF4, by omega, by omega, (by omega), ((LFr.rf _ _).eq q4)⟩
def md_X12_readDoes_173y : List (Nat × (Nat × Nat)) := [(173, (5, 5)), (173, (6, 6)), (173, (7, 7)), (173, (8, 8)), (173, (9, 9)), (173, (10, 10)), (173, (11, 11)), (173, (13, 13)), (195, (0, 159))]
theorem ct_X12_readDoes_173y (X : Int) (hX : 0 ≤ X ∧ X ≤ 100000000) (M0 : JM) (hH0 : HI X M0) (a0 : Int) (ha0 : 0 ≤ a0 ∧ a0 ≤ 156) (hp0 : a0 % 4 = 0) : JOk shp PJ 5 156 [.inr (.inr (.inl 173)), .inl a0] M0 (jRi (fun v M' => HI X M' ∧ Fr md_X12_readDoes_173y M0 M' ∧ 0 ≤ v ∧ v ≤ 1 ∧ (∀ (t : TXT) (σ : PSt) (n : Int), CR M0 t σ → LTr t (omQ t (σ, n)) v M') ∧ (M'.1 173 46 = M0.1 173 46) ∧ (LFr ml_X12_go_173p M0 M'))) := by
 refine ⟨jr_X12_readDoes, pj_X12_readDoes, fun F c1 c2 c3 => ?_⟩
 have hm := pj_X12_readDoes
 change F 0 [some (.inr (.inr (.inl 173))), some (.inl a0), none] [] M0
 have hF0 : Fr md_X12_readDoes_173y M0 M0 := Fr.rf _ _
 obtain ⟨z1, k2, lz1, uz1⟩ := hH0.ld (c := 173) (i := 46) (A := 0) (B := 40) (bs_28_20 _ _ (by omega) (by omega))
 obtain ⟨z3, k4, lz3, uz3⟩ := hH0.ld (c := 173) (i := 6) (A := 0) (B := 940) (bs_28_3 _ _ (by omega) (by omega))
 obtain ⟨z5, k6, lz5, uz5⟩ := hH0.ld (c := 173) (i := 7) (A := 0) (B := 4) (bs_28_4 _ _ (by omega) (by omega))
 refine jy_bp c1 hm rfl (by decide) ?_
 refine jx_stor c1 hm (L' := [some (.inr (.inr (.inl 173))), some (.inl a0), some (.inl 7)]) rfl rfl rfl rfl rfl ?_
 have W9 : ∀ (n10 : Nat) (b7 : Int) (hb7 : 7 ≤ b7 ∧ b7 ≤ 11) (hnw : NWf M0 7 b7), (-b7 + 11) < (n10 : Int) → F 3 [some (.inr (.inr (.inl 173))), some (.inl a0), some (.inl b7)] [] M0 := by
  intro n10
  induction n10 with
  | zero => intros; omega
  | succ n10 ihW9 =>
   intro b7 hb7 hnw hrW9
   refine jx_load c1 hm rfl rfl rfl rfl ?_
   refine jy_bp c1 hm rfl (by decide) ?_
   have J17 : ∀ (hwq : W7 M0 b7), F 23 [some (.inr (.inr (.inl 173))), some (.inl a0), some (.inl b7)] [] M0 := by
    intro hwq
    refine jx_load c1 hm rfl rfl rfl rfl ?_
    refine jy_bp c1 hm rfl (by decide) ?_
    refine jc_le c1 hm 35 rfl rfl (fun h18 => ?_) (fun h18 => ?_)
    ·
     refine jx_load c1 hm rfl rfl rfl rfl ?_
     have hw7 := hwq.wd (by omega)
     have hwr : 0 ≤ b7 ∧ b7 < 24 := ⟨by omega, by omega⟩
     refine jx_getr c1 hm rfl sh_173 rfl ?_
     refine jx_load c1 hm rfl rfl rfl rfl ?_
     refine jx_load c1 hm rfl rfl rfl rfl ?_
     refine jy_bp c1 hm rfl (by decide) ?_
     refine jy_sub c1 hm (b7 - 7) rfl (by omega) ?_
     obtain ⟨M19, e19, hH19, hF19, k19, n19, q19⟩ := mup hH0 hF0 (c := 195) (i := (a0).toNat) (v := (b7 - 7)) (A := 0) (B := 5) (bs_17_0 _ _ (by omega) (by omega)) ⟨by omega, by omega⟩ (jin_of 8 rfl ⟨by omega, by omega⟩)
     refine jm_iast c1 hm rfl sh_195 ⟨by omega, by omega⟩ e19 ?_
     refine jx_load c1 hm rfl rfl rfl rfl ?_
     obtain ⟨z20, k21, lz20, uz20⟩ := hH19.ld (c := 173) (i := 5) (A := 0) (B := 940) (bs_28_3 _ _ (by omega) (by omega))
     refine jv_v c3 hm rfl pj_X12_go rfl rfl ⟨_, _, _, rfl, sh_173⟩ rfl ((ct_X12_go_173p X (by omega) M19 hH19 ).le (by decide)) (fun M24 ⟨hH24, hR24, p22, p23⟩ => ?_)
     have hF24 := hF19.tr hR24 (by decide +kernel)
     refine jx_load c1 hm rfl rfl rfl rfl ?_
     refine jx_getr c1 hm rfl sh_173 rfl ?_
     refine jx_load c1 hm rfl rfl rfl rfl ?_
     obtain ⟨z25, k26, lz25, uz25⟩ := hH24.ld (c := 195) (i := (a0).toNat) (A := 0) (B := 5) (bs_17_0 _ _ (by omega) (by omega))
     refine jx_iald c1 hm rfl sh_195 ⟨by omega, by omega⟩ k26 ?_
     have hzz : z25 = b7 - 7 := k26.symm.trans ((hR24 195 (a0).toNat rfl).trans k19)
     by_cases h27 : z25 = 0
     ·
      refine jx_lsw c1 hm 80 rfl rfl (by rw [h27] <;> rfl) rfl ?_
      refine jx_load c1 hm rfl rfl rfl rfl ?_
      refine jx_load c1 hm rfl rfl rfl rfl ?_
      refine jy_ic c1 hm rfl (by decide) ?_
      refine jy_add c1 hm (a0 + 2) rfl (by omega) ?_
      refine jx_load c1 hm rfl rfl rfl rfl ?_
      refine jy_bp c1 hm rfl (by decide) ?_
      refine jx_load c1 hm rfl rfl rfl rfl ?_
      refine jx_getr c1 hm rfl sh_173 rfl ?_
      refine jy_ic c1 hm rfl (by decide) ?_
      obtain ⟨z28, k29, lz28, uz28⟩ := hH24.ld (c := 175) (i := 1) (A := 0) (B := 6) (bs_11_0 _ _ (by omega) (by omega))
      refine jx_iald c1 hm rfl sh_175 ⟨by omega, by omega⟩ k29 ?_
      skip
      refine jv_i c3 hm rfl pj_X12_readNamed rfl rfl ⟨_, _, _, rfl, sh_173⟩ rfl ((ct_X12_readNamed_173q X (by omega) M24 hH24 6 ⟨by omega, by omega⟩ z28 ⟨by omega, by omega⟩).le (by decide)) (fun z30 M34 ⟨hH34, hR34, lz30, uz30, p31, p32, p33⟩ => ?_)
      have hF34 := hF24.tr hR34 (by decide +kernel)
      obtain ⟨z35, k36, lz35, uz35⟩ := hH34.ld (c := 173) (i := 13) (A := (-2147483648)) (B := 2147483647) (bs_28_7 _ _ (by omega) (by omega))
      refine jv_i c3 hm rfl pj_X12_keep rfl rfl ⟨_, _, _, rfl, sh_173⟩ rfl ((ct_X12_keep_173y X (by omega) M34 hH34 (a0 + 2) ⟨by omega, by omega⟩ z30 ⟨by omega, by omega⟩ (by rw [show bnd X 195 ((a0 + 2) : Int).toNat = (0, 5) from (bs_17_1 _ _ (by omega) (by omega))]; dsimp only; omega)).le (by decide)) (fun z37 M40 ⟨hH40, hR40, lz37, uz37, p38, p39⟩ => ?_)
      have hF40 := hF34.tr hR40 (by decide +kernel)
      have k41 : M40.1 173 46 = z1 := (hR40 173 46 (by decide +kernel)).trans ((hR34 173 46 (by decide +kernel)).trans ((hR24 173 46 (by decide +kernel)).trans ((n19 173 46 (fun h => absurd h.1 (by decide))).trans k2)))
      exact jx_retz c2 hm rfl rfl ⟨by omega, by omega⟩ ⟨_, rfl, hH40, hF40, by omega, by omega, (fun t σ n hσ => LTr.eq (omr_7 hσ hw7.2 (by omega)) ((((p32 t _ n 1 (by decide) (CR.next (CR.cg hσ (fun j => (n19 174 j (fun h => absurd h.1 (by decide)))) (fun j hj => (n19 173 j (fun h => absurd h.1 (by decide)))) ((q19 173 12)) ((n19 173 10 (fun h => absurd h.1 (by decide)))) (fun j => (n19 175 j (fun h => absurd h.1 (by decide)))) (fun k => (q19 180 k))) (hσ.ky (n := 0) hw7.2 hwr).k2 p22 (hR24 173 10 rfl) (fun j => hR24 175 j rfl) (fun k => p23 180 k rfl)) (by decide) k29.symm)).fr (fun σ hσ => (CR.cg hσ (fun j => (hR40 174 j rfl)) (fun j hj => (hR40 173 j (jin_lo (b := 10) (by decide +kernel) (by omega)))) ((p39 173 12 rfl)) ((hR40 173 10 rfl)) (fun j => (hR40 175 j rfl)) (fun k => (p39 180 k rfl)))) ((hR40 173 10 rfl)) ((hR40 173 11 rfl))).vc (by omega))), (by omega), (((((LFr.rf _ _).eq q19).tr p23 (by decide +kernel)).tr p33 (by decide +kernel)).tr p39 (by decide +kernel))⟩
     by_cases h42 : z25 = 1
     ·
      refine jx_lsw c1 hm 100 rfl rfl (by rw [h42] <;> rfl) rfl ?_
      refine jx_load c1 hm rfl rfl rfl rfl ?_
      refine jx_load c1 hm rfl rfl rfl rfl ?_
      refine jy_ic c1 hm rfl (by decide) ?_
      refine jy_add c1 hm (a0 + 2) rfl (by omega) ?_
      refine jx_load c1 hm rfl rfl rfl rfl ?_
      refine jy_bp c1 hm rfl (by decide) ?_
      refine jx_load c1 hm rfl rfl rfl rfl ?_
      refine jx_getr c1 hm rfl sh_173 rfl ?_
      refine jy_ic c1 hm rfl (by decide) ?_
      obtain ⟨z43, k44, lz43, uz43⟩ := hH24.ld (c := 175) (i := 2) (A := 0) (B := 6) (bs_11_0 _ _ (by omega) (by omega))
      refine jx_iald c1 hm rfl sh_175 ⟨by omega, by omega⟩ k44 ?_
      skip
      refine jv_i c3 hm rfl pj_X12_readNamed rfl rfl ⟨_, _, _, rfl, sh_173⟩ rfl ((ct_X12_readNamed_173q X (by omega) M24 hH24 12 ⟨by omega, by omega⟩ z43 ⟨by omega, by omega⟩).le (by decide)) (fun z45 M49 ⟨hH49, hR49, lz45, uz45, p46, p47, p48⟩ => ?_)
      have hF49 := hF24.tr hR49 (by decide +kernel)
      obtain ⟨z50, k51, lz50, uz50⟩ := hH49.ld (c := 173) (i := 13) (A := (-2147483648)) (B := 2147483647) (bs_28_7 _ _ (by omega) (by omega))
      refine jv_i c3 hm rfl pj_X12_keep rfl rfl ⟨_, _, _, rfl, sh_173⟩ rfl ((ct_X12_keep_173y X (by omega) M49 hH49 (a0 + 2) ⟨by omega, by omega⟩ z45 ⟨by omega, by omega⟩ (by rw [show bnd X 195 ((a0 + 2) : Int).toNat = (0, 5) from (bs_17_1 _ _ (by omega) (by omega))]; dsimp only; omega)).le (by decide)) (fun z52 M55 ⟨hH55, hR55, lz52, uz52, p53, p54⟩ => ?_)
      have hF55 := hF49.tr hR55 (by decide +kernel)
      have k56 : M55.1 173 46 = z1 := (hR55 173 46 (by decide +kernel)).trans ((hR49 173 46 (by decide +kernel)).trans ((hR24 173 46 (by decide +kernel)).trans ((n19 173 46 (fun h => absurd h.1 (by decide))).trans k2)))
      exact jx_retz c2 hm rfl rfl ⟨by omega, by omega⟩ ⟨_, rfl, hH55, hF55, by omega, by omega, (fun t σ n hσ => LTr.eq (omr_8 hσ hw7.2 (by omega)) ((((p47 t _ n 2 (by decide) (CR.next (CR.cg hσ (fun j => (n19 174 j (fun h => absurd h.1 (by decide)))) (fun j hj => (n19 173 j (fun h => absurd h.1 (by decide)))) ((q19 173 12)) ((n19 173 10 (fun h => absurd h.1 (by decide)))) (fun j => (n19 175 j (fun h => absurd h.1 (by decide)))) (fun k => (q19 180 k))) (hσ.ky (n := 0) hw7.2 hwr).k2 p22 (hR24 173 10 rfl) (fun j => hR24 175 j rfl) (fun k => p23 180 k rfl)) (by decide) k44.symm)).fr (fun σ hσ => (CR.cg hσ (fun j => (hR55 174 j rfl)) (fun j hj => (hR55 173 j (jin_lo (b := 10) (by decide +kernel) (by omega)))) ((p54 173 12 rfl)) ((hR55 173 10 rfl)) (fun j => (hR55 175 j rfl)) (fun k => (p54 180 k rfl)))) ((hR55 173 10 rfl)) ((hR55 173 11 rfl))).vc (by omega))), (by omega), (((((LFr.rf _ _).eq q19).tr p23 (by decide +kernel)).tr p48 (by decide +kernel)).tr p54 (by decide +kernel))⟩
     refine jx_lsw c1 hm 120 rfl rfl (jlsd ⟨by omega, by omega, trivial⟩) rfl ?_
     refine jx_load c1 hm rfl rfl rfl rfl ?_
     refine jx_load c1 hm rfl rfl rfl rfl ?_
     refine jy_ic c1 hm rfl (by decide) ?_
     refine jy_add c1 hm (a0 + 2) rfl (by omega) ?_
     refine jx_load c1 hm rfl rfl rfl rfl ?_
     refine jy_ic c1 hm rfl (by decide) ?_
     refine jx_load c1 hm rfl rfl rfl rfl ?_
     refine jx_getr c1 hm rfl sh_173 rfl ?_
     refine jy_ic c1 hm rfl (by decide) ?_
     obtain ⟨z57, k58, lz57, uz57⟩ := hH24.ld (c := 175) (i := 0) (A := 0) (B := 6) (bs_11_0 _ _ (by omega) (by omega))
     refine jx_iald c1 hm rfl sh_175 ⟨by omega, by omega⟩ k58 ?_
     skip
     refine jv_i c3 hm rfl pj_X12_readNamed rfl rfl ⟨_, _, _, rfl, sh_173⟩ rfl ((ct_X12_readNamed_173q X (by omega) M24 hH24 0 ⟨by omega, by omega⟩ z57 ⟨by omega, by omega⟩).le (by decide)) (fun z59 M63 ⟨hH63, hR63, lz59, uz59, p60, p61, p62⟩ => ?_)
     have hF63 := hF24.tr hR63 (by decide +kernel)
     obtain ⟨z64, k65, lz64, uz64⟩ := hH63.ld (c := 173) (i := 13) (A := (-2147483648)) (B := 2147483647) (bs_28_7 _ _ (by omega) (by omega))
     refine jv_i c3 hm rfl pj_X12_keep rfl rfl ⟨_, _, _, rfl, sh_173⟩ rfl ((ct_X12_keep_173y X (by omega) M63 hH63 (a0 + 2) ⟨by omega, by omega⟩ z59 ⟨by omega, by omega⟩ (by rw [show bnd X 195 ((a0 + 2) : Int).toNat = (0, 5) from (bs_17_1 _ _ (by omega) (by omega))]; dsimp only; omega)).le (by decide)) (fun z66 M69 ⟨hH69, hR69, lz66, uz66, p67, p68⟩ => ?_)
     have hF69 := hF63.tr hR69 (by decide +kernel)
     refine jz_eq c1 hm 162 rfl rfl (fun h70 => ?_) (fun h70 => ?_)
     ·
      refine jy_ic c1 hm rfl (by decide) ?_
      have k71 : M69.1 173 46 = z1 := (hR69 173 46 (by decide +kernel)).trans ((hR63 173 46 (by decide +kernel)).trans ((hR24 173 46 (by decide +kernel)).trans ((n19 173 46 (fun h => absurd h.1 (by decide))).trans k2)))
      exact jx_retz c2 hm rfl rfl ⟨by omega, by omega⟩ ⟨_, rfl, hH69, hF69, by omega, by omega, (fun t σ n hσ => LTr.eq (omr_9 hσ hw7.2 (by omega)) (LTr.sz ((p61 t _ n 0 (by decide) (CR.next (CR.cg hσ (fun j => (n19 174 j (fun h => absurd h.1 (by decide)))) (fun j hj => (n19 173 j (fun h => absurd h.1 (by decide)))) ((q19 173 12)) ((n19 173 10 (fun h => absurd h.1 (by decide)))) (fun j => (n19 175 j (fun h => absurd h.1 (by decide)))) (fun k => (q19 180 k))) (hσ.ky (n := 0) hw7.2 hwr).k2 p22 (hR24 173 10 rfl) (fun j => hR24 175 j rfl) (fun k => p23 180 k rfl)) (by decide) k58.symm).fr (fun σ hσ => (CR.cg hσ (fun j => (hR69 174 j rfl)) (fun j hj => (hR69 173 j (jin_lo (b := 10) (by decide +kernel) (by omega)))) ((p68 173 12 rfl)) ((hR69 173 10 rfl)) (fun j => (hR69 175 j rfl)) (fun k => (p68 180 k rfl)))) ((hR69 173 10 rfl)) ((hR69 173 11 rfl))) (by omega) (by omega))), (by omega), (((((LFr.rf _ _).eq q19).tr p23 (by decide +kernel)).tr p62 (by decide +kernel)).tr p68 (by decide +kernel))⟩
     refine jx_load c1 hm rfl rfl rfl rfl ?_
     refine jx_load c1 hm rfl rfl rfl rfl ?_
     refine jy_ic c1 hm rfl (by decide) ?_
     refine jy_add c1 hm (a0 + 3) rfl (by omega) ?_
     refine jx_load c1 hm rfl rfl rfl rfl ?_
     refine jy_ic c1 hm rfl (by decide) ?_
     refine jy_bp c1 hm rfl (by decide) ?_
     refine jv_i c3 hm rfl pj_X12_readNumber rfl rfl ⟨_, _, _, rfl, sh_173⟩ rfl ((ct_X12_readNumber_173q X (by omega) M69 hH69 1 ⟨by omega, by omega⟩ 99 ⟨by omega, by omega⟩).le (by decide)) (fun z72 M76 ⟨hH76, hR76, lz72, uz72, p73, p74, p75⟩ => ?_)
     have hF76 := hF69.tr hR76 (by decide +kernel)
     obtain ⟨z77, k78, lz77, uz77⟩ := hH76.ld (c := 173) (i := 13) (A := (-2147483648)) (B := 2147483647) (bs_28_7 _ _ (by omega) (by omega))
     refine jv_i c3 hm rfl pj_X12_keep rfl rfl ⟨_, _, _, rfl, sh_173⟩ rfl ((ct_X12_keep_173y X (by omega) M76 hH76 (a0 + 3) ⟨by omega, by omega⟩ z72 ⟨by omega, by omega⟩ (by rw [show bnd X 195 ((a0 + 3) : Int).toNat = (0, 99) from (bs_17_2 _ _ (by omega) (by omega))]; dsimp only; omega)).le (by decide)) (fun z79 M82 ⟨hH82, hR82, lz79, uz79, p80, p81⟩ => ?_)
     have hF82 := hF76.tr hR82 (by decide +kernel)
     refine jz_eq c1 hm 162 rfl rfl (fun h83 => ?_) (fun h83 => ?_)
     ·
      refine jy_ic c1 hm rfl (by decide) ?_
      have k84 : M82.1 173 46 = z1 := (hR82 173 46 (by decide +kernel)).trans ((hR76 173 46 (by decide +kernel)).trans ((hR69 173 46 (by decide +kernel)).trans ((hR63 173 46 (by decide +kernel)).trans ((hR24 173 46 (by decide +kernel)).trans ((n19 173 46 (fun h => absurd h.1 (by decide))).trans k2)))))
      exact jx_retz c2 hm rfl rfl ⟨by omega, by omega⟩ ⟨_, rfl, hH82, hF82, by omega, by omega, (fun t σ n hσ => LTr.eq (omr_9 hσ hw7.2 (by omega)) (LTr.sq ((p61 t _ n 0 (by decide) (CR.next (CR.cg hσ (fun j => (n19 174 j (fun h => absurd h.1 (by decide)))) (fun j hj => (n19 173 j (fun h => absurd h.1 (by decide)))) ((q19 173 12)) ((n19 173 10 (fun h => absurd h.1 (by decide)))) (fun j => (n19 175 j (fun h => absurd h.1 (by decide)))) (fun k => (q19 180 k))) (hσ.ky (n := 0) hw7.2 hwr).k2 p22 (hR24 173 10 rfl) (fun j => hR24 175 j rfl) (fun k => p23 180 k rfl)) (by decide) k58.symm).fr (fun σ hσ => (CR.cg hσ (fun j => (hR69 174 j rfl)) (fun j hj => (hR69 173 j (jin_lo (b := 10) (by decide +kernel) (by omega)))) ((p68 173 12 rfl)) ((hR69 173 10 rfl)) (fun j => (hR69 175 j rfl)) (fun k => (p68 180 k rfl)))) ((hR69 173 10 rfl)) ((hR69 173 11 rfl))) (by omega) (fun σ n hσ => ((p74 t σ n hσ).fr (fun σ hσ => (CR.cg hσ (fun j => (hR82 174 j rfl)) (fun j hj => (hR82 173 j (jin_lo (b := 10) (by decide +kernel) (by omega)))) ((p81 173 12 rfl)) ((hR82 173 10 rfl)) (fun j => (hR82 175 j rfl)) (fun k => (p81 180 k rfl)))) ((hR82 173 10 rfl)) ((hR82 173 11 rfl))).vc (by omega)))), (by omega), (((((((LFr.rf _ _).eq q19).tr p23 (by decide +kernel)).tr p62 (by decide +kernel)).tr p68 (by decide +kernel)).tr p75 (by decide +kernel)).tr p81 (by decide +kernel))⟩
     refine jy_ic c1 hm rfl (by decide) ?_
     refine jx_goto c1 hm 163 rfl rfl ?_
     have k85 : M82.1 173 46 = z1 := (hR82 173 46 (by decide +kernel)).trans ((hR76 173 46 (by decide +kernel)).trans ((hR69 173 46 (by decide +kernel)).trans ((hR63 173 46 (by decide +kernel)).trans ((hR24 173 46 (by decide +kernel)).trans ((n19 173 46 (fun h => absurd h.1 (by decide))).trans k2)))))
     exact jx_retz c2 hm rfl rfl ⟨by omega, by omega⟩ ⟨_, rfl, hH82, hF82, by omega, by omega, (fun t σ n hσ => LTr.eq (omr_9 hσ hw7.2 (by omega)) (LTr.sq ((p61 t _ n 0 (by decide) (CR.next (CR.cg hσ (fun j => (n19 174 j (fun h => absurd h.1 (by decide)))) (fun j hj => (n19 173 j (fun h => absurd h.1 (by decide)))) ((q19 173 12)) ((n19 173 10 (fun h => absurd h.1 (by decide)))) (fun j => (n19 175 j (fun h => absurd h.1 (by decide)))) (fun k => (q19 180 k))) (hσ.ky (n := 0) hw7.2 hwr).k2 p22 (hR24 173 10 rfl) (fun j => hR24 175 j rfl) (fun k => p23 180 k rfl)) (by decide) k58.symm).fr (fun σ hσ => (CR.cg hσ (fun j => (hR69 174 j rfl)) (fun j hj => (hR69 173 j (jin_lo (b := 10) (by decide +kernel) (by omega)))) ((p68 173 12 rfl)) ((hR69 173 10 rfl)) (fun j => (hR69 175 j rfl)) (fun k => (p68 180 k rfl)))) ((hR69 173 10 rfl)) ((hR69 173 11 rfl))) (by omega) (fun σ n hσ => ((p74 t σ n hσ).fr (fun σ hσ => (CR.cg hσ (fun j => (hR82 174 j rfl)) (fun j hj => (hR82 173 j (jin_lo (b := 10) (by decide +kernel) (by omega)))) ((p81 173 12 rfl)) ((hR82 173 10 rfl)) (fun j => (hR82 175 j rfl)) (fun k => (p81 180 k rfl)))) ((hR82 173 10 rfl)) ((hR82 173 11 rfl))).vc (by omega)))), (by omega), (((((((LFr.rf _ _).eq q19).tr p23 (by decide +kernel)).tr p62 (by decide +kernel)).tr p68 (by decide +kernel)).tr p75 (by decide +kernel)).tr p81 (by decide +kernel))⟩
    refine jx_load c1 hm rfl rfl rfl rfl ?_
    refine jy_ic c1 hm rfl (by decide) ?_
    refine jv_i c3 hm rfl pj_X12_bad rfl rfl ⟨_, _, _, rfl, sh_173⟩ rfl ((ct_X12_bad_173q X (by omega) M0 hH0 1 ⟨by omega, by omega⟩).le (by decide)) (fun z86 M92 ⟨hH92, hR92, lz86, uz86, p87, p88, p89, p90, p91⟩ => ?_)
    have hF92 := hF0.tr hR92 (by decide +kernel)
    obtain ⟨z93, k94, lz93, uz93⟩ := hH92.ld (c := 173) (i := 11) (A := 0) (B := 940) (bs_28_6 _ _ (by omega) (by omega))
    obtain ⟨z95, k96, lz95, uz95⟩ := hH92.ld (c := 173) (i := 10) (A := (-2147483648)) (B := 2147483647) (bs_28_5 _ _ (by omega) (by omega))
    have k97 : M92.1 173 46 = z1 := (hR92 173 46 (by decide +kernel)).trans k2
    exact jx_retz c2 hm rfl rfl ⟨by omega, by omega⟩ ⟨_, rfl, hH92, hF92, by omega, by omega, (fun t σ n hσ => omr_no hσ hwq (by omega) (by omega) (by omega) (by omega)), (by omega), ((LFr.rf _ _).tr p91 (by decide +kernel))⟩
   refine jc_gt c1 hm 23 rfl rfl (fun h11 => ?_) (fun h11 => ?_)
   ·
    exact J17 (W7.no hnw (by omega))
   refine jx_load c1 hm rfl rfl rfl rfl ?_
   refine jx_load c1 hm rfl rfl rfl rfl ?_
   refine jv_i c3 hm rfl pj_X12_isWord rfl rfl ⟨_, _, _, rfl, sh_173⟩ rfl ((ct_X12_isWord_173p X (by omega) M0 hH0 b7 ⟨by omega, by omega⟩).le (by decide)) (fun z12 _ ⟨rfl, lz12, uz12, p13, p14⟩ => ?_)
   refine jz_ne c1 hm 23 rfl rfl (fun h15 => ?_) (fun h15 => ?_)
   ·
    exact J17 (W7.yes (p13 (by omega)) ⟨by omega, by omega⟩)
   refine jx_iinc c1 hm (v := (b7 + 1)) (L' := [some (.inr (.inr (.inl 173))), some (.inl a0), some (.inl (b7 + 1))]) rfl rfl (by omega) (by omega) rfl ?_
   refine jx_goto c1 hm 3 rfl rfl ?_
   exact ihW9 (b7 + 1) (by omega) (NWf.st hnw (p14.resolve_left (by omega)) (by omega)) (by omega)
 exact W9 (4 + 1 : Int).toNat 7 (by omega) (NWf.start (by omega)) (by omega)
def md_X12_readBookLine_173y : List (Nat × (Nat × Nat)) := [(173, (5, 5)), (173, (6, 6)), (173, (7, 7)), (173, (8, 8)), (173, (9, 9)), (173, (10, 10)), (173, (11, 11)), (173, (13, 13)), (195, (0, 159))]
theorem ct_X12_readBookLine_173y (X : Int) (hX : 0 ≤ X ∧ X ≤ 100000000) (M0 : JM) (hH0 : HI X M0)  : JOk shp PJ 6 153 [.inr (.inr (.inl 173))] M0 (jRi (fun v M' => HI X M' ∧ Fr md_X12_readBookLine_173y M0 M' ∧ 0 ≤ v ∧ v ≤ 1 ∧ (∀ (t : TXT) (σ : PSt), CR M0 t σ → LTr t (blkQ t (σ, M0.1 173 46)) v M') ∧ (M'.1 173 46 = M0.1 173 46) ∧ (v = 1 → M0.1 173 46 ≤ 39) ∧ (LFr ml_X12_go_173p M0 M'))) := by
 refine ⟨jr_X12_readBookLine, pj_X12_readBookLine, fun F c1 c2 c3 => ?_⟩
 have hm := pj_X12_readBookLine
 change F 0 [some (.inr (.inr (.inl 173))), none, none, none] [] M0
 have hF0 : Fr md_X12_readBookLine_173y M0 M0 := Fr.rf _ _
 obtain ⟨z1, k2, lz1, uz1⟩ := hH0.ld (c := 173) (i := 46) (A := 0) (B := 40) (bs_28_20 _ _ (by omega) (by omega))
 obtain ⟨z3, k4, lz3, uz3⟩ := hH0.ld (c := 173) (i := 6) (A := 0) (B := 940) (bs_28_3 _ _ (by omega) (by omega))
 obtain ⟨z5, k6, lz5, uz5⟩ := hH0.ld (c := 173) (i := 7) (A := 0) (B := 4) (bs_28_4 _ _ (by omega) (by omega))
 refine jx_load c1 hm rfl rfl rfl rfl ?_
 refine jy_bp c1 hm rfl (by decide) ?_
 refine jv_i c3 hm rfl pj_X12_isWord rfl rfl ⟨_, _, _, rfl, sh_173⟩ rfl ((ct_X12_isWord_173p X (by omega) M0 hH0 11 ⟨by omega, by omega⟩).le (by decide)) (fun z7 _ ⟨rfl, lz7, uz7, p8, p9⟩ => ?_)
 refine jx_stor c1 hm (L' := [some (.inr (.inr (.inl 173))), some (.inl z7), none, none]) rfl rfl rfl rfl rfl ?_
 refine jx_load c1 hm rfl rfl rfl rfl ?_
 refine jy_bp c1 hm rfl (by decide) ?_
 refine jv_i c3 hm rfl pj_X12_isWord rfl rfl ⟨_, _, _, rfl, sh_173⟩ rfl ((ct_X12_isWord_173p X (by omega) M0 hH0 12 ⟨by omega, by omega⟩).le (by decide)) (fun z10 _ ⟨rfl, lz10, uz10, p11, p12⟩ => ?_)
 refine jx_stor c1 hm (L' := [some (.inr (.inr (.inl 173))), some (.inl z7), some (.inl z10), none]) rfl rfl rfl rfl rfl ?_
 refine jx_load c1 hm rfl rfl rfl rfl ?_
 refine jz_ne c1 hm 63 rfl rfl (fun h13 => ?_) (fun h13 => ?_)
 ·
  refine jx_load c1 hm rfl rfl rfl rfl ?_
  refine jx_geti c1 hm rfl sh_173 rfl k2 ?_
  refine jy_bp c1 hm rfl (by decide) ?_
  refine jc_ne c1 hm 78 rfl rfl (fun h14 => ?_) (fun h14 => ?_)
  ·
   refine jy_ic c1 hm rfl (by decide) ?_
   refine jx_load c1 hm rfl rfl rfl rfl ?_
   refine jx_geti c1 hm rfl sh_173 rfl k2 ?_
   refine jy_mul c1 hm (4 * z1) rfl (by omega) ?_
   refine jx_stor c1 hm (L' := [some (.inr (.inr (.inl 173))), some (.inl z7), some (.inl z10), some (.inl (4 * z1))]) rfl rfl rfl rfl rfl ?_
   refine jx_load c1 hm rfl rfl rfl rfl ?_
   refine jx_getr c1 hm rfl sh_173 rfl ?_
   refine jx_load c1 hm rfl rfl rfl rfl ?_
   refine jx_load c1 hm rfl rfl rfl rfl ?_
   refine jz_eq c1 hm 98 rfl rfl (fun h15 => ?_) (fun h15 => ?_)
   ·
    exfalso; omega
   refine jy_ic c1 hm rfl (by decide) ?_
   refine jx_goto c1 hm 99 rfl rfl ?_
   obtain ⟨M16, e16, hH16, hF16, k16, n16, q16⟩ := mup hH0 hF0 (c := 195) (i := ((4 * z1)).toNat) (v := 4) (A := 0) (B := 5) (bs_17_0 _ _ (by omega) (by omega)) ⟨by omega, by omega⟩ (jin_of 8 rfl ⟨by omega, by omega⟩)
   refine jm_iast c1 hm rfl sh_195 ⟨by omega, by omega⟩ e16 ?_
   refine jx_load c1 hm rfl rfl rfl rfl ?_
   refine jx_getr c1 hm rfl sh_173 rfl ?_
   refine jx_load c1 hm rfl rfl rfl rfl ?_
   refine jy_ic c1 hm rfl (by decide) ?_
   refine jy_add c1 hm (4 * z1 + 1) rfl (by omega) ?_
   refine jx_load c1 hm rfl rfl rfl rfl ?_
   refine jz_ne c1 hm 115 rfl rfl (fun h17 => ?_) (fun h17 => ?_)
   ·
    refine jy_ic c1 hm rfl (by decide) ?_
    refine jx_goto c1 hm 137 rfl rfl ?_
    obtain ⟨M18, e18, hH18, hF18, k18, n18, q18⟩ := mup hH16 hF16 (c := 195) (i := ((4 * z1 + 1)).toNat) (v := 0) (A := 0) (B := 5) (bs_17_1 _ _ (by omega) (by omega)) ⟨by omega, by omega⟩ (jin_of 8 rfl ⟨by omega, by omega⟩)
    refine jm_iast c1 hm rfl sh_195 ⟨by omega, by omega⟩ e18 ?_
    refine jx_load c1 hm rfl rfl rfl rfl ?_
    obtain ⟨z19, k20, lz19, uz19⟩ := hH18.ld (c := 173) (i := 5) (A := 0) (B := 940) (bs_28_3 _ _ (by omega) (by omega))
    refine jv_v c3 hm rfl pj_X12_go rfl rfl ⟨_, _, _, rfl, sh_173⟩ rfl ((ct_X12_go_173p X (by omega) M18 hH18 ).le (by decide)) (fun M23 ⟨hH23, hR23, p21, p22⟩ => ?_)
    have hF23 := hF18.tr hR23 (by decide +kernel)
    refine jx_load c1 hm rfl rfl rfl rfl ?_
    refine jz_eq c1 hm 151 rfl rfl (fun h24 => ?_) (fun h24 => ?_)
    ·
     exfalso; omega
    refine jx_load c1 hm rfl rfl rfl rfl ?_
    refine jv_i c3 hm rfl pj_X12_readEnd rfl rfl ⟨_, _, _, rfl, sh_173⟩ rfl ((ct_X12_readEnd_173y X (by omega) M23 hH23 ).le (by decide)) (fun z25 M28 ⟨hH28, hR28, lz25, uz25, p26, p27⟩ => ?_)
    have hF28 := hF23.tr hR28 (by decide +kernel)
    have k29 : M28.1 173 46 = z1 := (hR28 173 46 (by decide +kernel)).trans ((hR23 173 46 (by decide +kernel)).trans ((n18 173 46 (fun h => absurd h.1 (by decide))).trans ((n16 173 46 (fun h => absurd h.1 (by decide))).trans k2)))
    exact jx_retz c2 hm rfl rfl ⟨by omega, by omega⟩ ⟨_, rfl, hH28, hF28, by omega, by omega, (fun t σ hσ => LTr.sq (LTr.eq (blnQ_11 (hσ.ky (n := (M0.1 173 46)) (p8 (by omega)) (by decide))) (LTr.eq (if_neg (show ¬ 40 ≤ M0.1 173 46 by omega)) (LTr.o (r := okQ (goQ t (σ, (M0.1 173 46)))) (v := 1) (CR.next (CR.cg hσ (fun j => ((n18 174 j (fun h => absurd h.1 (by decide))).trans (n16 174 j (fun h => absurd h.1 (by decide))))) (fun j hj => ((n18 173 j (fun h => absurd h.1 (by decide))).trans (n16 173 j (fun h => absurd h.1 (by decide))))) (((q18 173 12).trans (q16 173 12))) (((n18 173 10 (fun h => absurd h.1 (by decide))).trans (n16 173 10 (fun h => absurd h.1 (by decide))))) (fun j => ((n18 175 j (fun h => absurd h.1 (by decide))).trans (n16 175 j (fun h => absurd h.1 (by decide))))) (fun k => ((q18 180 k).trans (q16 180 k)))) (hσ.ky (n := (M0.1 173 46)) (p8 (by omega)) (by decide)).k2 p21 (hR23 173 10 rfl) (fun j => hR23 175 j rfl) (fun k => p22 180 k rfl)) rfl rfl))) (by decide) (fun σ n hσ => p26 t σ n hσ)), (by omega), (by omega), (((((LFr.rf _ _).eq q16).eq q18).tr p22 (by decide +kernel)).tr p27 (by decide +kernel))⟩
   exfalso; omega
  refine jx_load c1 hm rfl rfl rfl rfl ?_
  refine jy_ic c1 hm rfl (by decide) ?_
  refine jv_i c3 hm rfl pj_X12_bad rfl rfl ⟨_, _, _, rfl, sh_173⟩ rfl ((ct_X12_bad_173q X (by omega) M0 hH0 4 ⟨by omega, by omega⟩).le (by decide)) (fun z30 M36 ⟨hH36, hR36, lz30, uz30, p31, p32, p33, p34, p35⟩ => ?_)
  have hF36 := hF0.tr hR36 (by decide +kernel)
  obtain ⟨z37, k38, lz37, uz37⟩ := hH36.ld (c := 173) (i := 11) (A := 0) (B := 940) (bs_28_6 _ _ (by omega) (by omega))
  obtain ⟨z39, k40, lz39, uz39⟩ := hH36.ld (c := 173) (i := 10) (A := (-2147483648)) (B := 2147483647) (bs_28_5 _ _ (by omega) (by omega))
  have k41 : M36.1 173 46 = z1 := (hR36 173 46 (by decide +kernel)).trans k2
  exact jx_retz c2 hm rfl rfl ⟨by omega, by omega⟩ ⟨_, rfl, hH36, hF36, by omega, by omega, (fun t σ hσ => LTr.sz (LTr.eq (blnQ_11 (hσ.ky (n := (M0.1 173 46)) (p8 (by omega)) (by decide))) (LTr.eq (if_pos (show 40 ≤ M0.1 173 46 by omega)) (LTr.no (k := 4) (n := (M0.1 173 46)) (v := 0) rfl (by decide) hσ rfl (by have y9 := (p8 (by omega)).1; omega) (by omega)))) rfl (by omega)), (by omega), (by omega), ((LFr.rf _ _).tr p35 (by decide +kernel))⟩
 refine jx_load c1 hm rfl rfl rfl rfl ?_
 refine jz_ne c1 hm 63 rfl rfl (fun h42 => ?_) (fun h42 => ?_)
 ·
  refine jx_load c1 hm rfl rfl rfl rfl ?_
  refine jx_geti c1 hm rfl sh_173 rfl k2 ?_
  refine jy_bp c1 hm rfl (by decide) ?_
  refine jc_ne c1 hm 78 rfl rfl (fun h43 => ?_) (fun h43 => ?_)
  ·
   refine jy_ic c1 hm rfl (by decide) ?_
   refine jx_load c1 hm rfl rfl rfl rfl ?_
   refine jx_geti c1 hm rfl sh_173 rfl k2 ?_
   refine jy_mul c1 hm (4 * z1) rfl (by omega) ?_
   refine jx_stor c1 hm (L' := [some (.inr (.inr (.inl 173))), some (.inl z7), some (.inl z10), some (.inl (4 * z1))]) rfl rfl rfl rfl rfl ?_
   refine jx_load c1 hm rfl rfl rfl rfl ?_
   refine jx_getr c1 hm rfl sh_173 rfl ?_
   refine jx_load c1 hm rfl rfl rfl rfl ?_
   refine jx_load c1 hm rfl rfl rfl rfl ?_
   refine jz_eq c1 hm 98 rfl rfl (fun h44 => ?_) (fun h44 => ?_)
   ·
    refine jy_ic c1 hm rfl (by decide) ?_
    obtain ⟨M45, e45, hH45, hF45, k45, n45, q45⟩ := mup hH0 hF0 (c := 195) (i := ((4 * z1)).toNat) (v := 5) (A := 0) (B := 5) (bs_17_0 _ _ (by omega) (by omega)) ⟨by omega, by omega⟩ (jin_of 8 rfl ⟨by omega, by omega⟩)
    refine jm_iast c1 hm rfl sh_195 ⟨by omega, by omega⟩ e45 ?_
    refine jx_load c1 hm rfl rfl rfl rfl ?_
    refine jx_getr c1 hm rfl sh_173 rfl ?_
    refine jx_load c1 hm rfl rfl rfl rfl ?_
    refine jy_ic c1 hm rfl (by decide) ?_
    refine jy_add c1 hm (4 * z1 + 1) rfl (by omega) ?_
    refine jx_load c1 hm rfl rfl rfl rfl ?_
    refine jz_ne c1 hm 115 rfl rfl (fun h46 => ?_) (fun h46 => ?_)
    ·
     exfalso; omega
    refine jx_load c1 hm rfl rfl rfl rfl ?_
    refine jz_eq c1 hm 119 rfl rfl (fun h47 => ?_) (fun h47 => ?_)
    ·
     exfalso; omega
    refine jy_ic c1 hm rfl (by decide) ?_
    refine jx_goto c1 hm 137 rfl rfl ?_
    obtain ⟨M48, e48, hH48, hF48, k48, n48, q48⟩ := mup hH45 hF45 (c := 195) (i := ((4 * z1 + 1)).toNat) (v := 0) (A := 0) (B := 5) (bs_17_1 _ _ (by omega) (by omega)) ⟨by omega, by omega⟩ (jin_of 8 rfl ⟨by omega, by omega⟩)
    refine jm_iast c1 hm rfl sh_195 ⟨by omega, by omega⟩ e48 ?_
    refine jx_load c1 hm rfl rfl rfl rfl ?_
    obtain ⟨z49, k50, lz49, uz49⟩ := hH48.ld (c := 173) (i := 5) (A := 0) (B := 940) (bs_28_3 _ _ (by omega) (by omega))
    refine jv_v c3 hm rfl pj_X12_go rfl rfl ⟨_, _, _, rfl, sh_173⟩ rfl ((ct_X12_go_173p X (by omega) M48 hH48 ).le (by decide)) (fun M53 ⟨hH53, hR53, p51, p52⟩ => ?_)
    have hF53 := hF48.tr hR53 (by decide +kernel)
    refine jx_load c1 hm rfl rfl rfl rfl ?_
    refine jz_eq c1 hm 151 rfl rfl (fun h54 => ?_) (fun h54 => ?_)
    ·
     refine jx_load c1 hm rfl rfl rfl rfl ?_
     refine jz_ne c1 hm 176 rfl rfl (fun h55 => ?_) (fun h55 => ?_)
     ·
      refine jx_load c1 hm rfl rfl rfl rfl ?_
      refine jx_load c1 hm rfl rfl rfl rfl ?_
      refine jy_ic c1 hm rfl (by decide) ?_
      refine jy_add c1 hm (4 * z1 + 3) rfl (by omega) ?_
      refine jx_load c1 hm rfl rfl rfl rfl ?_
      refine jy_ic c1 hm rfl (by decide) ?_
      refine jy_bp c1 hm rfl (by decide) ?_
      refine jv_i c3 hm rfl pj_X12_readNumber rfl rfl ⟨_, _, _, rfl, sh_173⟩ rfl ((ct_X12_readNumber_173q X (by omega) M53 hH53 1 ⟨by omega, by omega⟩ 60 ⟨by omega, by omega⟩).le (by decide)) (fun z56 M60 ⟨hH60, hR60, lz56, uz56, p57, p58, p59⟩ => ?_)
      have hF60 := hF53.tr hR60 (by decide +kernel)
      obtain ⟨z61, k62, lz61, uz61⟩ := hH60.ld (c := 173) (i := 13) (A := (-2147483648)) (B := 2147483647) (bs_28_7 _ _ (by omega) (by omega))
      refine jv_i c3 hm rfl pj_X12_keep rfl rfl ⟨_, _, _, rfl, sh_173⟩ rfl ((ct_X12_keep_173y X (by omega) M60 hH60 (4 * z1 + 3) ⟨by omega, by omega⟩ z56 ⟨by omega, by omega⟩ (by rw [show bnd X 195 ((4 * z1 + 3) : Int).toNat = (0, 99) from (bs_17_2 _ _ (by omega) (by omega))]; dsimp only; omega)).le (by decide)) (fun z63 M66 ⟨hH66, hR66, lz63, uz63, p64, p65⟩ => ?_)
      have hF66 := hF60.tr hR66 (by decide +kernel)
      refine jz_eq c1 hm 204 rfl rfl (fun h67 => ?_) (fun h67 => ?_)
      ·
       refine jy_ic c1 hm rfl (by decide) ?_
       have k68 : M66.1 173 46 = z1 := (hR66 173 46 (by decide +kernel)).trans ((hR60 173 46 (by decide +kernel)).trans ((hR53 173 46 (by decide +kernel)).trans ((n48 173 46 (fun h => absurd h.1 (by decide))).trans ((n45 173 46 (fun h => absurd h.1 (by decide))).trans k2))))
       exact jx_retz c2 hm rfl rfl ⟨by omega, by omega⟩ ⟨_, rfl, hH66, hF66, by omega, by omega, (fun t σ hσ => LTr.sz (LTr.eq (blnQ_12 (hσ.ky (n := (M0.1 173 46)) (p11 (by omega)) (by decide))) (LTr.eq (if_neg (show ¬ 40 ≤ M0.1 173 46 by omega)) ((p58 t _ (M0.1 173 46) (CR.next (CR.cg hσ (fun j => ((n48 174 j (fun h => absurd h.1 (by decide))).trans (n45 174 j (fun h => absurd h.1 (by decide))))) (fun j hj => ((n48 173 j (fun h => absurd h.1 (by decide))).trans (n45 173 j (fun h => absurd h.1 (by decide))))) (((q48 173 12).trans (q45 173 12))) (((n48 173 10 (fun h => absurd h.1 (by decide))).trans (n45 173 10 (fun h => absurd h.1 (by decide))))) (fun j => ((n48 175 j (fun h => absurd h.1 (by decide))).trans (n45 175 j (fun h => absurd h.1 (by decide))))) (fun k => ((q48 180 k).trans (q45 180 k)))) (hσ.ky (n := (M0.1 173 46)) (p11 (by omega)) (by decide)).k2 p51 (hR53 173 10 rfl) (fun j => hR53 175 j rfl) (fun k => p52 180 k rfl))).fr (fun σ hσ => (CR.cg hσ (fun j => (hR66 174 j rfl)) (fun j hj => (hR66 173 j (jin_lo (b := 10) (by decide +kernel) (by omega)))) ((p65 173 12 rfl)) ((hR66 173 10 rfl)) (fun j => (hR66 175 j rfl)) (fun k => (p65 180 k rfl)))) ((hR66 173 10 rfl)) ((hR66 173 11 rfl))))) (by omega) (by omega)), (by omega), (by omega), ((((((LFr.rf _ _).eq q45).eq q48).tr p52 (by decide +kernel)).tr p59 (by decide +kernel)).tr p65 (by decide +kernel))⟩
      refine jx_load c1 hm rfl rfl rfl rfl ?_
      refine jv_i c3 hm rfl pj_X12_readEnd rfl rfl ⟨_, _, _, rfl, sh_173⟩ rfl ((ct_X12_readEnd_173y X (by omega) M66 hH66 ).le (by decide)) (fun z69 M72 ⟨hH72, hR72, lz69, uz69, p70, p71⟩ => ?_)
      have hF72 := hF66.tr hR72 (by decide +kernel)
      refine jz_eq c1 hm 204 rfl rfl (fun h73 => ?_) (fun h73 => ?_)
      ·
       refine jy_ic c1 hm rfl (by decide) ?_
       have k74 : M72.1 173 46 = z1 := (hR72 173 46 (by decide +kernel)).trans ((hR66 173 46 (by decide +kernel)).trans ((hR60 173 46 (by decide +kernel)).trans ((hR53 173 46 (by decide +kernel)).trans ((n48 173 46 (fun h => absurd h.1 (by decide))).trans ((n45 173 46 (fun h => absurd h.1 (by decide))).trans k2)))))
       exact jx_retz c2 hm rfl rfl ⟨by omega, by omega⟩ ⟨_, rfl, hH72, hF72, by omega, by omega, (fun t σ hσ => LTr.sq (LTr.eq (blnQ_12 (hσ.ky (n := (M0.1 173 46)) (p11 (by omega)) (by decide))) (LTr.eq (if_neg (show ¬ 40 ≤ M0.1 173 46 by omega)) ((p58 t _ (M0.1 173 46) (CR.next (CR.cg hσ (fun j => ((n48 174 j (fun h => absurd h.1 (by decide))).trans (n45 174 j (fun h => absurd h.1 (by decide))))) (fun j hj => ((n48 173 j (fun h => absurd h.1 (by decide))).trans (n45 173 j (fun h => absurd h.1 (by decide))))) (((q48 173 12).trans (q45 173 12))) (((n48 173 10 (fun h => absurd h.1 (by decide))).trans (n45 173 10 (fun h => absurd h.1 (by decide))))) (fun j => ((n48 175 j (fun h => absurd h.1 (by decide))).trans (n45 175 j (fun h => absurd h.1 (by decide))))) (fun k => ((q48 180 k).trans (q45 180 k)))) (hσ.ky (n := (M0.1 173 46)) (p11 (by omega)) (by decide)).k2 p51 (hR53 173 10 rfl) (fun j => hR53 175 j rfl) (fun k => p52 180 k rfl))).fr (fun σ hσ => (CR.cg hσ (fun j => (hR66 174 j rfl)) (fun j hj => (hR66 173 j (jin_lo (b := 10) (by decide +kernel) (by omega)))) ((p65 173 12 rfl)) ((hR66 173 10 rfl)) (fun j => (hR66 175 j rfl)) (fun k => (p65 180 k rfl)))) ((hR66 173 10 rfl)) ((hR66 173 11 rfl))))) (by omega) (fun σ n hσ => (p70 t σ n hσ).vc (by omega))), (by omega), (by omega), (((((((LFr.rf _ _).eq q45).eq q48).tr p52 (by decide +kernel)).tr p59 (by decide +kernel)).tr p65 (by decide +kernel)).tr p71 (by decide +kernel))⟩
      refine jy_ic c1 hm rfl (by decide) ?_
      refine jx_goto c1 hm 205 rfl rfl ?_
      have k75 : M72.1 173 46 = z1 := (hR72 173 46 (by decide +kernel)).trans ((hR66 173 46 (by decide +kernel)).trans ((hR60 173 46 (by decide +kernel)).trans ((hR53 173 46 (by decide +kernel)).trans ((n48 173 46 (fun h => absurd h.1 (by decide))).trans ((n45 173 46 (fun h => absurd h.1 (by decide))).trans k2)))))
      exact jx_retz c2 hm rfl rfl ⟨by omega, by omega⟩ ⟨_, rfl, hH72, hF72, by omega, by omega, (fun t σ hσ => LTr.sq (LTr.eq (blnQ_12 (hσ.ky (n := (M0.1 173 46)) (p11 (by omega)) (by decide))) (LTr.eq (if_neg (show ¬ 40 ≤ M0.1 173 46 by omega)) ((p58 t _ (M0.1 173 46) (CR.next (CR.cg hσ (fun j => ((n48 174 j (fun h => absurd h.1 (by decide))).trans (n45 174 j (fun h => absurd h.1 (by decide))))) (fun j hj => ((n48 173 j (fun h => absurd h.1 (by decide))).trans (n45 173 j (fun h => absurd h.1 (by decide))))) (((q48 173 12).trans (q45 173 12))) (((n48 173 10 (fun h => absurd h.1 (by decide))).trans (n45 173 10 (fun h => absurd h.1 (by decide))))) (fun j => ((n48 175 j (fun h => absurd h.1 (by decide))).trans (n45 175 j (fun h => absurd h.1 (by decide))))) (fun k => ((q48 180 k).trans (q45 180 k)))) (hσ.ky (n := (M0.1 173 46)) (p11 (by omega)) (by decide)).k2 p51 (hR53 173 10 rfl) (fun j => hR53 175 j rfl) (fun k => p52 180 k rfl))).fr (fun σ hσ => (CR.cg hσ (fun j => (hR66 174 j rfl)) (fun j hj => (hR66 173 j (jin_lo (b := 10) (by decide +kernel) (by omega)))) ((p65 173 12 rfl)) ((hR66 173 10 rfl)) (fun j => (hR66 175 j rfl)) (fun k => (p65 180 k rfl)))) ((hR66 173 10 rfl)) ((hR66 173 11 rfl))))) (by omega) (fun σ n hσ => (p70 t σ n hσ).vc (by omega))), (by omega), (by omega), (((((((LFr.rf _ _).eq q45).eq q48).tr p52 (by decide +kernel)).tr p59 (by decide +kernel)).tr p65 (by decide +kernel)).tr p71 (by decide +kernel))⟩
     exfalso; omega
    exfalso; omega
   exfalso; omega
  refine jx_load c1 hm rfl rfl rfl rfl ?_
  refine jy_ic c1 hm rfl (by decide) ?_
  refine jv_i c3 hm rfl pj_X12_bad rfl rfl ⟨_, _, _, rfl, sh_173⟩ rfl ((ct_X12_bad_173q X (by omega) M0 hH0 4 ⟨by omega, by omega⟩).le (by decide)) (fun z76 M82 ⟨hH82, hR82, lz76, uz76, p77, p78, p79, p80, p81⟩ => ?_)
  have hF82 := hF0.tr hR82 (by decide +kernel)
  obtain ⟨z83, k84, lz83, uz83⟩ := hH82.ld (c := 173) (i := 11) (A := 0) (B := 940) (bs_28_6 _ _ (by omega) (by omega))
  obtain ⟨z85, k86, lz85, uz85⟩ := hH82.ld (c := 173) (i := 10) (A := (-2147483648)) (B := 2147483647) (bs_28_5 _ _ (by omega) (by omega))
  have k87 : M82.1 173 46 = z1 := (hR82 173 46 (by decide +kernel)).trans k2
  exact jx_retz c2 hm rfl rfl ⟨by omega, by omega⟩ ⟨_, rfl, hH82, hF82, by omega, by omega, (fun t σ hσ => LTr.sz (LTr.eq (blnQ_12 (hσ.ky (n := (M0.1 173 46)) (p11 (by omega)) (by decide))) (LTr.eq (if_pos (show 40 ≤ M0.1 173 46 by omega)) (LTr.no (k := 4) (n := (M0.1 173 46)) (v := 0) rfl (by decide) hσ rfl (by have y9 := (p11 (by omega)).1; omega) (by omega)))) rfl (by omega)), (by omega), (by omega), ((LFr.rf _ _).tr p81 (by decide +kernel))⟩
 refine jx_load c1 hm rfl rfl rfl rfl ?_
 refine jv_i c3 hm rfl pj_X12_isName rfl rfl ⟨_, _, _, rfl, sh_173⟩ rfl ((ct_X12_isName_173p X (by omega) M0 hH0 ).le (by decide)) (fun z88 _ ⟨rfl, lz88, uz88, p89, p90⟩ => ?_)
 refine jz_ne c1 hm 35 rfl rfl (fun h91 => ?_) (fun h91 => ?_)
 ·
  refine jx_load c1 hm rfl rfl rfl rfl ?_
  refine jx_getr c1 hm rfl sh_173 rfl ?_
  refine jy_ic c1 hm rfl (by decide) ?_
  refine jx_load c1 hm rfl rfl rfl rfl ?_
  refine jx_getr c1 hm rfl sh_173 rfl ?_
  refine jy_ic c1 hm rfl (by decide) ?_
  obtain ⟨z92, k93, lz92, uz92⟩ := hH0.ld (c := 175) (i := 0) (A := 0) (B := 6) (bs_11_0 _ _ (by omega) (by omega))
  refine jx_iald c1 hm rfl sh_175 ⟨by omega, by omega⟩ k93 ?_
  refine jx_load c1 hm rfl rfl rfl rfl ?_
  obtain ⟨w94, kw94⟩ : ∃ w, M0.2 173 12 = w := ⟨_, rfl⟩
  have bw94 : LB w94.toInt := kw94 ▸ hH0.2.1 173 12 rfl
  refine jx_getl c1 hm rfl sh_173 rfl kw94 ?_
  skip
  refine jt_i c3 hm rfl rfl pj_X12_findIn rfl rfl rfl ((ct_X12_findIn_180 X (by omega) M0 hH0 0 ⟨by omega, by omega⟩ z92 ⟨by omega, by omega⟩ w94).le (by decide)) (fun z95 _ ⟨rfl, lz95, uz95, p96, p97, p98⟩ => ?_)
  skip
  refine jy_ic c1 hm rfl (by decide) ?_
  refine jc_ne c1 hm 63 rfl rfl (fun h99 => ?_) (fun h99 => ?_)
  ·
   refine jx_load c1 hm rfl rfl rfl rfl ?_
   refine jx_geti c1 hm rfl sh_173 rfl k2 ?_
   refine jy_bp c1 hm rfl (by decide) ?_
   refine jc_ne c1 hm 78 rfl rfl (fun h100 => ?_) (fun h100 => ?_)
   ·
    refine jy_ic c1 hm rfl (by decide) ?_
    refine jx_load c1 hm rfl rfl rfl rfl ?_
    refine jx_geti c1 hm rfl sh_173 rfl k2 ?_
    refine jy_mul c1 hm (4 * z1) rfl (by omega) ?_
    refine jx_stor c1 hm (L' := [some (.inr (.inr (.inl 173))), some (.inl z7), some (.inl z10), some (.inl (4 * z1))]) rfl rfl rfl rfl rfl ?_
    refine jx_load c1 hm rfl rfl rfl rfl ?_
    refine jx_getr c1 hm rfl sh_173 rfl ?_
    refine jx_load c1 hm rfl rfl rfl rfl ?_
    refine jx_load c1 hm rfl rfl rfl rfl ?_
    refine jz_eq c1 hm 98 rfl rfl (fun h101 => ?_) (fun h101 => ?_)
    ·
     refine jy_ic c1 hm rfl (by decide) ?_
     obtain ⟨M102, e102, hH102, hF102, k102, n102, q102⟩ := mup hH0 hF0 (c := 195) (i := ((4 * z1)).toNat) (v := 5) (A := 0) (B := 5) (bs_17_0 _ _ (by omega) (by omega)) ⟨by omega, by omega⟩ (jin_of 8 rfl ⟨by omega, by omega⟩)
     refine jm_iast c1 hm rfl sh_195 ⟨by omega, by omega⟩ e102 ?_
     refine jx_load c1 hm rfl rfl rfl rfl ?_
     refine jx_getr c1 hm rfl sh_173 rfl ?_
     refine jx_load c1 hm rfl rfl rfl rfl ?_
     refine jy_ic c1 hm rfl (by decide) ?_
     refine jy_add c1 hm (4 * z1 + 1) rfl (by omega) ?_
     refine jx_load c1 hm rfl rfl rfl rfl ?_
     refine jz_ne c1 hm 115 rfl rfl (fun h103 => ?_) (fun h103 => ?_)
     ·
      exfalso; omega
     refine jx_load c1 hm rfl rfl rfl rfl ?_
     refine jz_eq c1 hm 119 rfl rfl (fun h104 => ?_) (fun h104 => ?_)
     ·
      refine jx_load c1 hm rfl rfl rfl rfl ?_
      refine jx_getr c1 hm rfl sh_173 rfl ?_
      refine jy_ic c1 hm rfl (by decide) ?_
      refine jx_load c1 hm rfl rfl rfl rfl ?_
      refine jx_getr c1 hm rfl sh_173 rfl ?_
      refine jy_ic c1 hm rfl (by decide) ?_
      have k105 : M102.1 175 0 = z92 := (n102 175 0 (fun h => absurd h.1 (by decide))).trans k93
      refine jx_iald c1 hm rfl sh_175 ⟨by omega, by omega⟩ k105 ?_
      refine jx_load c1 hm rfl rfl rfl rfl ?_
      have k106 : M102.2 173 12 = w94 := (q102 173 12).trans kw94
      refine jx_getl c1 hm rfl sh_173 rfl k106 ?_
      refine jt_i c3 hm rfl rfl pj_X12_findIn rfl rfl rfl ((ct_X12_findIn_180 X (by omega) M102 hH102 0 ⟨by omega, by omega⟩ z92 ⟨by omega, by omega⟩ w94).le (by decide)) (fun z107 _ ⟨rfl, lz107, uz107, p108, p109, p110⟩ => ?_)
      have hfi : z107 ≠ -1 := fun y => (p109.resolve_left (fun z => z y)) z95 (by omega) (by omega) (by rw [q102 180 _]; exact p96.resolve_left (by omega))
      obtain ⟨M111, e111, hH111, hF111, k111, n111, q111⟩ := mup hH102 hF102 (c := 195) (i := ((4 * z1 + 1)).toNat) (v := z107) (A := 0) (B := 5) (bs_17_1 _ _ (by omega) (by omega)) ⟨by omega, by omega⟩ (jin_of 8 rfl ⟨by omega, by omega⟩)
      refine jm_iast c1 hm rfl sh_195 ⟨by omega, by omega⟩ e111 ?_
      refine jx_load c1 hm rfl rfl rfl rfl ?_
      obtain ⟨z112, k113, lz112, uz112⟩ := hH111.ld (c := 173) (i := 5) (A := 0) (B := 940) (bs_28_3 _ _ (by omega) (by omega))
      refine jv_v c3 hm rfl pj_X12_go rfl rfl ⟨_, _, _, rfl, sh_173⟩ rfl ((ct_X12_go_173p X (by omega) M111 hH111 ).le (by decide)) (fun M116 ⟨hH116, hR116, p114, p115⟩ => ?_)
      have hF116 := hF111.tr hR116 (by decide +kernel)
      refine jx_load c1 hm rfl rfl rfl rfl ?_
      refine jz_eq c1 hm 151 rfl rfl (fun h117 => ?_) (fun h117 => ?_)
      ·
       refine jx_load c1 hm rfl rfl rfl rfl ?_
       refine jz_ne c1 hm 176 rfl rfl (fun h118 => ?_) (fun h118 => ?_)
       ·
        exfalso; omega
       refine jx_load c1 hm rfl rfl rfl rfl ?_
       refine jx_load c1 hm rfl rfl rfl rfl ?_
       have k119 : M116.1 173 46 = z1 := (hR116 173 46 (by decide +kernel)).trans ((n111 173 46 (fun h => absurd h.1 (by decide))).trans ((n102 173 46 (fun h => absurd h.1 (by decide))).trans k2))
       refine jv_i c3 hm rfl pj_X12_readDoes rfl rfl ⟨_, _, _, rfl, sh_173⟩ rfl ((ct_X12_readDoes_173y X (by omega) M116 hH116 (4 * z1) ⟨by omega, by omega⟩ (by omega)).le (by decide)) (fun z120 M124 ⟨hH124, hR124, lz120, uz120, p121, p122, p123⟩ => ?_)
       have hF124 := hF116.tr hR124 (by decide +kernel)
       have k125 : M124.1 173 46 = z1 := (hR124 173 46 (by decide +kernel)).trans k119
       refine jz_eq c1 hm 174 rfl rfl (fun h126 => ?_) (fun h126 => ?_)
       ·
        refine jy_ic c1 hm rfl (by decide) ?_
        exact jx_retz c2 hm rfl rfl ⟨by omega, by omega⟩ ⟨_, rfl, hH124, hF124, by omega, by omega, (fun t σ hσ => LTr.sz (LTr.eq (blnQ_o (hσ.noky (p9.resolve_left (by omega)) (by decide)) (hσ.noky (p12.resolve_left (by omega)) (by decide))) (LTr.sq (LTr.eq (namQ_hit hσ (p89 (by omega)) (FNR.hit hσ (a := 0) (by decide) ⟨by omega, p96, p98, p97⟩ (by decide) k93.symm ((congrArg Int64.toInt kw94).symm.trans (hσ.word (hσ.kind.symm.trans (p89 (by omega)).1))) (by omega)) (by decide)) (LTr.o (r := okQ (goQ t (σ, (M0.1 173 46)))) (v := 1) (CR.next (CR.cg hσ (fun j => ((n111 174 j (fun h => absurd h.1 (by decide))).trans (n102 174 j (fun h => absurd h.1 (by decide))))) (fun j hj => ((n111 173 j (fun h => absurd h.1 (by decide))).trans (n102 173 j (fun h => absurd h.1 (by decide))))) (((q111 173 12).trans (q102 173 12))) (((n111 173 10 (fun h => absurd h.1 (by decide))).trans (n102 173 10 (fun h => absurd h.1 (by decide))))) (fun j => ((n111 175 j (fun h => absurd h.1 (by decide))).trans (n102 175 j (fun h => absurd h.1 (by decide))))) (fun k => ((q111 180 k).trans (q102 180 k)))) (show 2 ≤ kK t σ by have y9 := hσ.kind; have y8 := (p89 (by omega)).1; omega) p114 (hR116 173 10 rfl) (fun j => hR116 175 j rfl) (fun k => p115 180 k rfl)) rfl rfl)) (by decide) (fun σ n hσ => LTr.eq (if_neg (show ¬ 40 ≤ M0.1 173 46 by omega)) (p121 t σ n hσ)))) (by omega) (by omega)), (by omega), (by omega), (((((LFr.rf _ _).eq q102).eq q111).tr p115 (by decide +kernel)).tr p123 (by decide +kernel))⟩
       refine jx_load c1 hm rfl rfl rfl rfl ?_
       refine jv_i c3 hm rfl pj_X12_readEnd rfl rfl ⟨_, _, _, rfl, sh_173⟩ rfl ((ct_X12_readEnd_173y X (by omega) M124 hH124 ).le (by decide)) (fun z127 M130 ⟨hH130, hR130, lz127, uz127, p128, p129⟩ => ?_)
       have hF130 := hF124.tr hR130 (by decide +kernel)
       refine jz_eq c1 hm 174 rfl rfl (fun h131 => ?_) (fun h131 => ?_)
       ·
        refine jy_ic c1 hm rfl (by decide) ?_
        have k132 : M130.1 173 46 = z1 := (hR130 173 46 (by decide +kernel)).trans k125
        exact jx_retz c2 hm rfl rfl ⟨by omega, by omega⟩ ⟨_, rfl, hH130, hF130, by omega, by omega, (fun t σ hσ => LTr.sq (LTr.eq (blnQ_o (hσ.noky (p9.resolve_left (by omega)) (by decide)) (hσ.noky (p12.resolve_left (by omega)) (by decide))) (LTr.sq (LTr.eq (namQ_hit hσ (p89 (by omega)) (FNR.hit hσ (a := 0) (by decide) ⟨by omega, p96, p98, p97⟩ (by decide) k93.symm ((congrArg Int64.toInt kw94).symm.trans (hσ.word (hσ.kind.symm.trans (p89 (by omega)).1))) (by omega)) (by decide)) (LTr.o (r := okQ (goQ t (σ, (M0.1 173 46)))) (v := 1) (CR.next (CR.cg hσ (fun j => ((n111 174 j (fun h => absurd h.1 (by decide))).trans (n102 174 j (fun h => absurd h.1 (by decide))))) (fun j hj => ((n111 173 j (fun h => absurd h.1 (by decide))).trans (n102 173 j (fun h => absurd h.1 (by decide))))) (((q111 173 12).trans (q102 173 12))) (((n111 173 10 (fun h => absurd h.1 (by decide))).trans (n102 173 10 (fun h => absurd h.1 (by decide))))) (fun j => ((n111 175 j (fun h => absurd h.1 (by decide))).trans (n102 175 j (fun h => absurd h.1 (by decide))))) (fun k => ((q111 180 k).trans (q102 180 k)))) (show 2 ≤ kK t σ by have y9 := hσ.kind; have y8 := (p89 (by omega)).1; omega) p114 (hR116 173 10 rfl) (fun j => hR116 175 j rfl) (fun k => p115 180 k rfl)) rfl rfl)) (by decide) (fun σ n hσ => LTr.eq (if_neg (show ¬ 40 ≤ M0.1 173 46 by omega)) (p121 t σ n hσ)))) (by omega) (fun σ n hσ => (p128 t σ n hσ).vc (by omega))), (by omega), (by omega), ((((((LFr.rf _ _).eq q102).eq q111).tr p115 (by decide +kernel)).tr p123 (by decide +kernel)).tr p129 (by decide +kernel))⟩
       refine jy_ic c1 hm rfl (by decide) ?_
       refine jx_goto c1 hm 175 rfl rfl ?_
       have k133 : M130.1 173 46 = z1 := (hR130 173 46 (by decide +kernel)).trans k125
       exact jx_retz c2 hm rfl rfl ⟨by omega, by omega⟩ ⟨_, rfl, hH130, hF130, by omega, by omega, (fun t σ hσ => LTr.sq (LTr.eq (blnQ_o (hσ.noky (p9.resolve_left (by omega)) (by decide)) (hσ.noky (p12.resolve_left (by omega)) (by decide))) (LTr.sq (LTr.eq (namQ_hit hσ (p89 (by omega)) (FNR.hit hσ (a := 0) (by decide) ⟨by omega, p96, p98, p97⟩ (by decide) k93.symm ((congrArg Int64.toInt kw94).symm.trans (hσ.word (hσ.kind.symm.trans (p89 (by omega)).1))) (by omega)) (by decide)) (LTr.o (r := okQ (goQ t (σ, (M0.1 173 46)))) (v := 1) (CR.next (CR.cg hσ (fun j => ((n111 174 j (fun h => absurd h.1 (by decide))).trans (n102 174 j (fun h => absurd h.1 (by decide))))) (fun j hj => ((n111 173 j (fun h => absurd h.1 (by decide))).trans (n102 173 j (fun h => absurd h.1 (by decide))))) (((q111 173 12).trans (q102 173 12))) (((n111 173 10 (fun h => absurd h.1 (by decide))).trans (n102 173 10 (fun h => absurd h.1 (by decide))))) (fun j => ((n111 175 j (fun h => absurd h.1 (by decide))).trans (n102 175 j (fun h => absurd h.1 (by decide))))) (fun k => ((q111 180 k).trans (q102 180 k)))) (show 2 ≤ kK t σ by have y9 := hσ.kind; have y8 := (p89 (by omega)).1; omega) p114 (hR116 173 10 rfl) (fun j => hR116 175 j rfl) (fun k => p115 180 k rfl)) rfl rfl)) (by decide) (fun σ n hσ => LTr.eq (if_neg (show ¬ 40 ≤ M0.1 173 46 by omega)) (p121 t σ n hσ)))) (by omega) (fun σ n hσ => (p128 t σ n hσ).vc (by omega))), (by omega), (by omega), ((((((LFr.rf _ _).eq q102).eq q111).tr p115 (by decide +kernel)).tr p123 (by decide +kernel)).tr p129 (by decide +kernel))⟩
      exfalso; omega
     exfalso; omega
    exfalso; omega
   refine jx_load c1 hm rfl rfl rfl rfl ?_
   refine jy_ic c1 hm rfl (by decide) ?_
   refine jv_i c3 hm rfl pj_X12_bad rfl rfl ⟨_, _, _, rfl, sh_173⟩ rfl ((ct_X12_bad_173q X (by omega) M0 hH0 4 ⟨by omega, by omega⟩).le (by decide)) (fun z134 M140 ⟨hH140, hR140, lz134, uz134, p135, p136, p137, p138, p139⟩ => ?_)
   have hF140 := hF0.tr hR140 (by decide +kernel)
   obtain ⟨z141, k142, lz141, uz141⟩ := hH140.ld (c := 173) (i := 11) (A := 0) (B := 940) (bs_28_6 _ _ (by omega) (by omega))
   obtain ⟨z143, k144, lz143, uz143⟩ := hH140.ld (c := 173) (i := 10) (A := (-2147483648)) (B := 2147483647) (bs_28_5 _ _ (by omega) (by omega))
   have k145 : M140.1 173 46 = z1 := (hR140 173 46 (by decide +kernel)).trans k2
   exact jx_retz c2 hm rfl rfl ⟨by omega, by omega⟩ ⟨_, rfl, hH140, hF140, by omega, by omega, (fun t σ hσ => LTr.sz (LTr.eq (blnQ_o (hσ.noky (p9.resolve_left (by omega)) (by decide)) (hσ.noky (p12.resolve_left (by omega)) (by decide))) (LTr.eq ((seqQ_0 (by rw [namQ_hit hσ (p89 (by omega)) (FNR.hit hσ (a := 0) (by decide) ⟨by omega, p96, p98, p97⟩ (by decide) k93.symm ((congrArg Int64.toInt kw94).symm.trans (hσ.word (hσ.kind.symm.trans (p89 (by omega)).1))) (by omega)) (by decide)]; rfl)).trans (if_pos (show 40 ≤ M0.1 173 46 by omega))) (LTr.no (k := 4) (n := (M0.1 173 46)) (v := 0) rfl (by decide) hσ rfl (by have y9 := (p89 (by omega)).1; omega) (by omega)))) rfl (by omega)), (by omega), (by omega), ((LFr.rf _ _).tr p139 (by decide +kernel))⟩
  refine jx_load c1 hm rfl rfl rfl rfl ?_
  refine jy_ic c1 hm rfl (by decide) ?_
  refine jv_i c3 hm rfl pj_X12_bad rfl rfl ⟨_, _, _, rfl, sh_173⟩ rfl ((ct_X12_bad_173q X (by omega) M0 hH0 3 ⟨by omega, by omega⟩).le (by decide)) (fun z146 M152 ⟨hH152, hR152, lz146, uz146, p147, p148, p149, p150, p151⟩ => ?_)
  have hF152 := hF0.tr hR152 (by decide +kernel)
  obtain ⟨z153, k154, lz153, uz153⟩ := hH152.ld (c := 173) (i := 11) (A := 0) (B := 940) (bs_28_6 _ _ (by omega) (by omega))
  obtain ⟨z155, k156, lz155, uz155⟩ := hH152.ld (c := 173) (i := 10) (A := (-2147483648)) (B := 2147483647) (bs_28_5 _ _ (by omega) (by omega))
  have k157 : M152.1 173 46 = z1 := (hR152 173 46 (by decide +kernel)).trans k2
  exact jx_retz c2 hm rfl rfl ⟨by omega, by omega⟩ ⟨_, rfl, hH152, hF152, by omega, by omega, (fun t σ hσ => LTr.sz (LTr.eq (blnQ_o (hσ.noky (p9.resolve_left (by omega)) (by decide)) (hσ.noky (p12.resolve_left (by omega)) (by decide))) (LTr.sz (rnmq_no3 (n := (M0.1 173 46)) hσ (p89 (by omega)) (FNR.miss hσ (a := 0) (by decide) ⟨by omega, p96, p98, p97⟩ (by decide) k93.symm ((congrArg Int64.toInt kw94).symm.trans (hσ.word (hσ.kind.symm.trans (p89 (by omega)).1))) (by omega)) (by omega) (by have y9 := (p89 (by omega)).1; omega) (by omega)) (by omega) rfl)) rfl (by omega)), (by omega), (by omega), ((LFr.rf _ _).tr p151 (by decide +kernel))⟩
 refine jx_load c1 hm rfl rfl rfl rfl ?_
 refine jy_ic c1 hm rfl (by decide) ?_
 refine jv_i c3 hm rfl pj_X12_bad rfl rfl ⟨_, _, _, rfl, sh_173⟩ rfl ((ct_X12_bad_173q X (by omega) M0 hH0 1 ⟨by omega, by omega⟩).le (by decide)) (fun z158 M164 ⟨hH164, hR164, lz158, uz158, p159, p160, p161, p162, p163⟩ => ?_)
 have hF164 := hF0.tr hR164 (by decide +kernel)
 obtain ⟨z165, k166, lz165, uz165⟩ := hH164.ld (c := 173) (i := 11) (A := 0) (B := 940) (bs_28_6 _ _ (by omega) (by omega))
 obtain ⟨z167, k168, lz167, uz167⟩ := hH164.ld (c := 173) (i := 10) (A := (-2147483648)) (B := 2147483647) (bs_28_5 _ _ (by omega) (by omega))
 have k169 : M164.1 173 46 = z1 := (hR164 173 46 (by decide +kernel)).trans k2
 exact jx_retz c2 hm rfl rfl ⟨by omega, by omega⟩ ⟨_, rfl, hH164, hF164, by omega, by omega, (fun t σ hσ => LTr.sz (LTr.eq (blnQ_o (hσ.noky (p9.resolve_left (by omega)) (by decide)) (hσ.noky (p12.resolve_left (by omega)) (by decide))) (LTr.sz (rnmq_no1 (n := (M0.1 173 46)) hσ (fun y => (p90.resolve_left (by omega)).elim (fun y2 => y2 y.1) (fun y2 => absurd y2 (by have y3 := y.2; omega))) (by omega) (by omega) (by omega)) (by omega) rfl)) rfl (by omega)), (by omega), (by omega), ((LFr.rf _ _).tr p163 (by decide +kernel))⟩
