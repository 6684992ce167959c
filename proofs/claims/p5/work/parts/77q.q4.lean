/-! Contracts of the class over a SENTENCE (by wip/q/wlk.py). -/
def ml_X7_add_42p : List (Nat × (Nat × Nat)) := []
def ml_X7_readPlainOne_42_1_5q : List (Nat × (Nat × Nat)) := [(1, (8, 8))]
def md_X10_takesSign_1q : List (Nat × (Nat × Nat)) := [(1, (4, 4)), (1, (5, 5)), (1, (6, 6)), (1, (7, 7)), (1, (9, 9)), (1, (12, 12)), (1, (13, 13))]
theorem ct_X10_takesSign_1q (X : Int) (hX : 0 ≤ X ∧ X ≤ 100000000) (M0 : JM) (hH0 : HI X M0) (a0 : Int) (ha0 : (-2147483648) ≤ a0 ∧ a0 ≤ 2147483647) : JOk shp PJ 3 24 [.inr (.inr (.inl 1)), .inl a0] M0 (jRi (fun v M' => HI X M' ∧ Fr md_X10_takesSign_1q M0 M' ∧ 0 ≤ v ∧ v ≤ 1 ∧ (∀ (t : TXT) (σ : PSt), CS M0 t σ → LRc t (sgnS t a0 σ) v M') ∧ (LFr ml_X10_takesSign_1p M0 M') ∧ (∀ (t : TXT) (σ : PSt) (n : Int), CQ M0 t σ → LT t (sgnQ t a0 (σ, n)) v M'))) := by
 refine ⟨jr_X10_takesSign, pj_X10_takesSign, fun F c1 c2 c3 => ?_⟩
 have hm := pj_X10_takesSign
 change F 0 [some (.inr (.inr (.inl 1))), some (.inl a0)] [] M0
 have hF0 : Fr md_X10_takesSign_1q M0 M0 := Fr.rf _ _
 refine jx_load c1 hm rfl rfl rfl rfl ?_
 refine jx_load c1 hm rfl rfl rfl rfl ?_
 obtain ⟨z1, k2, lz1, uz1⟩ := hH0.ld (c := 1) (i := 6) (A := 0) (B := 4) (bs_19_4 _ _ (by omega) (by omega))
 obtain ⟨z3, k4, lz3, uz3⟩ := hH0.ld (c := 1) (i := 9) (A := (-2147483648)) (B := 2147483647) (bs_19_6 _ _ (by omega) (by omega))
 refine jv_i c3 hm rfl pj_X10_isSign rfl rfl ⟨_, _, _, rfl, sh_1⟩ rfl ((ct_X10_isSign_1p X (by omega) M0 hH0 a0 ⟨by omega, by omega⟩).le (by decide)) (fun z5 _ ⟨rfl, lz5, uz5, p6, p7⟩ => ?_)
 refine jz_ne c1 hm 18 rfl rfl (fun h8 => ?_) (fun h8 => ?_)
 ·
  refine jx_load c1 hm rfl rfl rfl rfl ?_
  obtain ⟨z9, k10, lz9, uz9⟩ := hH0.ld (c := 1) (i := 2) (A := 0) (B := 940) (bs_19_1 _ _ (by omega) (by omega))
  obtain ⟨z11, k12, lz11, uz11⟩ := hH0.ld (c := 1) (i := 4) (A := 0) (B := 940) (bs_19_3 _ _ (by omega) (by omega))
  refine jv_v c3 hm rfl pj_X10_next rfl rfl ⟨_, _, _, rfl, sh_1⟩ rfl (((ct_X10_next_1p X (by omega) M0 hH0 ).lkv (by decide +kernel) rfl).le (by decide)) (fun M15 ⟨⟨hH15, hR15, p13, p14⟩, hL15⟩ => ?_)
  have hF15 := hF0.tr hR15 (by decide +kernel)
  refine jy_ic c1 hm rfl (by decide) ?_
  exact jx_retz c2 hm rfl rfl ⟨by omega, by omega⟩ ⟨_, rfl, hH15, hF15, by omega, by omega, (fun t σ hσ => sgn_go hσ (by omega) (by omega) rfl p13 (hR15 1 12 rfl) hR15 p14 (by decide +kernel)), ((LFr.rf _ _).tr p14 (by decide +kernel)), (fun t σ n hσ => sgnq_go hσ (by omega) (by omega) rfl p13 (hR15 1 12 rfl) (fun j => hR15 6 j rfl) (fun k => p14 7 k rfl))⟩
 refine jx_load c1 hm rfl rfl rfl rfl ?_
 refine jy_ic c1 hm rfl (by decide) ?_
 refine jx_load c1 hm rfl rfl rfl rfl ?_
 obtain ⟨z16, k17, lz16, uz16⟩ := hH0.ld (c := 1) (i := 5) (A := 0) (B := 940) (bs_19_3 _ _ (by omega) (by omega))
 refine jx_geti c1 hm rfl sh_1 rfl k17 ?_
 refine jv_i c3 hm rfl pj_X10_fails rfl rfl ⟨_, _, _, rfl, sh_1⟩ rfl (((ct_X10_fails_1p X (by omega) M0 hH0 1 ⟨by omega, by omega⟩ z16 ⟨by omega, by omega⟩).lki (by decide +kernel) rfl).le (by decide)) (fun z18 M24 ⟨⟨hH24, hR24, lz18, uz18, p19, p20, p21, p22, p23⟩, hL24⟩ => ?_)
 have hF24 := hF0.tr hR24 (by decide +kernel)
 obtain ⟨z25, k26, lz25, uz25⟩ := hH24.ld (c := 1) (i := 12) (A := 0) (B := 4) (bs_19_8 _ _ (by omega) (by omega))
 obtain ⟨z27, k28, lz27, uz27⟩ := hH24.ld (c := 1) (i := 13) (A := 0) (B := 940) (bs_19_9 _ _ (by omega) (by omega))
 exact jx_retz c2 hm rfl rfl ⟨by omega, by omega⟩ ⟨_, rfl, hH24, hF24, by omega, by omega, (fun t σ hσ => sgn_no hσ (by omega) (by omega) (by omega) (by omega)), ((LFr.rf _ _).tr p23 (by decide +kernel)), (fun t σ n hσ => sgnq_no hσ (by omega) (by omega) (by omega) (by omega))⟩
def md_X10_takesNumber_1q : List (Nat × (Nat × Nat)) := [(1, (4, 4)), (1, (5, 5)), (1, (6, 6)), (1, (7, 7)), (1, (9, 9)), (1, (11, 11)), (1, (12, 12)), (1, (13, 13))]
theorem ct_X10_takesNumber_1q (X : Int) (hX : 0 ≤ X ∧ X ≤ 100000000) (M0 : JM) (hH0 : HI X M0) (a0 : Int) (ha0 : 0 ≤ a0 ∧ a0 ≤ 1) (a1 : Int) (ha1 : 0 ≤ a1 ∧ a1 ≤ 999) : JOk shp PJ 3 23 [.inr (.inr (.inl 1)), .inl a0, .inl a1] M0 (jRi (fun v M' => HI X M' ∧ Fr md_X10_takesNumber_1q M0 M' ∧ 0 ≤ v ∧ v ≤ 1 ∧ (v = 1 → a0 ≤ M'.1 1 11 ∧ M'.1 1 11 ≤ a1) ∧ (∀ (t : TXT) (σ : PSt), CS M0 t σ → LRc t (numS t a0 a1 σ) v M') ∧ (∀ (t : TXT) (σ : PSt), CS M0 t σ → v = 1 → M'.1 1 11 = kV t σ) ∧ (LFr ml_X10_takesNumber_1p M0 M') ∧ (∀ (t : TXT) (σ : PSt) (n : Int), CQ M0 t σ → LT t (numQ t a0 a1 (σ, n)) v M'))) := by
 refine ⟨jr_X10_takesNumber, pj_X10_takesNumber, fun F c1 c2 c3 => ?_⟩
 have hm := pj_X10_takesNumber
 change F 0 [some (.inr (.inr (.inl 1))), some (.inl a0), some (.inl a1)] [] M0
 have hF0 : Fr md_X10_takesNumber_1q M0 M0 := Fr.rf _ _
 obtain ⟨z1, k2, lz1, uz1⟩ := hH0.ld (c := 1) (i := 6) (A := 0) (B := 4) (bs_19_4 _ _ (by omega) (by omega))
 obtain ⟨z3, k4, lz3, uz3⟩ := hH0.ld (c := 1) (i := 9) (A := (-2147483648)) (B := 2147483647) (bs_19_6 _ _ (by omega) (by omega))
 obtain ⟨z5, k6, lz5, uz5⟩ := hH0.ld (c := 1) (i := 5) (A := 0) (B := 940) (bs_19_3 _ _ (by omega) (by omega))
 refine jx_load c1 hm rfl rfl rfl rfl ?_
 refine jx_geti c1 hm rfl sh_1 rfl k2 ?_
 refine jy_ic c1 hm rfl (by decide) ?_
 refine jc_eq c1 hm 18 rfl rfl (fun h7 => ?_) (fun h7 => ?_)
 ·
  refine jx_load c1 hm rfl rfl rfl rfl ?_
  refine jx_geti c1 hm rfl sh_1 rfl k4 ?_
  refine jx_load c1 hm rfl rfl rfl rfl ?_
  refine jc_lt c1 hm 34 rfl rfl (fun h8 => ?_) (fun h8 => ?_)
  ·
   refine jx_load c1 hm rfl rfl rfl rfl ?_
   refine jy_ic c1 hm rfl (by decide) ?_
   refine jx_load c1 hm rfl rfl rfl rfl ?_
   refine jx_geti c1 hm rfl sh_1 rfl k6 ?_
   refine jv_i c3 hm rfl pj_X10_fails rfl rfl ⟨_, _, _, rfl, sh_1⟩ rfl (((ct_X10_fails_1p X (by omega) M0 hH0 2 ⟨by omega, by omega⟩ z5 ⟨by omega, by omega⟩).lki (by decide +kernel) rfl).le (by decide)) (fun z9 M15 ⟨⟨hH15, hR15, lz9, uz9, p10, p11, p12, p13, p14⟩, hL15⟩ => ?_)
   have hF15 := hF0.tr hR15 (by decide +kernel)
   obtain ⟨z16, k17, lz16, uz16⟩ := hH15.ld (c := 1) (i := 12) (A := 0) (B := 4) (bs_19_8 _ _ (by omega) (by omega))
   obtain ⟨z18, k19, lz18, uz18⟩ := hH15.ld (c := 1) (i := 13) (A := 0) (B := 940) (bs_19_9 _ _ (by omega) (by omega))
   obtain ⟨z20, k21, lz20, uz20⟩ := hH15.ld (c := 1) (i := 11) (A := 0) (B := 999) (bs_19_7 _ _ (by omega) (by omega))
   exact jx_retz c2 hm rfl rfl ⟨by omega, by omega⟩ ⟨_, rfl, hH15, hF15, by omega, by omega, (by omega), (fun t σ hσ => num_no hσ (by omega) (by omega) (by omega) (by omega)), (fun t σ hσ y => absurd y (by omega)), ((LFr.rf _ _).tr p14 (by decide +kernel)), (fun t σ n hσ => by first | exact numq_no1 hσ (by omega) (by omega) (by omega) (by omega) | exact numq_no2 hσ (by omega) (by omega) (by omega) (by omega) (by omega))⟩
  refine jx_load c1 hm rfl rfl rfl rfl ?_
  refine jx_geti c1 hm rfl sh_1 rfl k4 ?_
  refine jx_load c1 hm rfl rfl rfl rfl ?_
  refine jc_le c1 hm 44 rfl rfl (fun h22 => ?_) (fun h22 => ?_)
  ·
   refine jx_load c1 hm rfl rfl rfl rfl ?_
   refine jx_load c1 hm rfl rfl rfl rfl ?_
   refine jx_geti c1 hm rfl sh_1 rfl k4 ?_
   skip
   obtain ⟨M23, e23, hH23, hF23, k23, n23, q23⟩ := mup hH0 hF0 (c := 1) (i := 11) (v := z3) (A := 0) (B := 999) (bs_19_7 _ _ (by omega) (by omega)) ⟨by omega, by omega⟩ (jin_of 5 rfl ⟨by omega, by omega⟩)
   refine jm_puti c1 hm rfl sh_1 rfl e23 ?_
   refine jx_load c1 hm rfl rfl rfl rfl ?_
   obtain ⟨z24, k25, lz24, uz24⟩ := hH23.ld (c := 1) (i := 2) (A := 0) (B := 940) (bs_19_1 _ _ (by omega) (by omega))
   obtain ⟨z26, k27, lz26, uz26⟩ := hH23.ld (c := 1) (i := 4) (A := 0) (B := 940) (bs_19_3 _ _ (by omega) (by omega))
   refine jv_v c3 hm rfl pj_X10_next rfl rfl ⟨_, _, _, rfl, sh_1⟩ rfl (((ct_X10_next_1p X (by omega) M23 hH23 ).lkv (by decide +kernel) rfl).le (by decide)) (fun M30 ⟨⟨hH30, hR30, p28, p29⟩, hL30⟩ => ?_)
   have hF30 := hF23.tr hR30 (by decide +kernel)
   refine jy_ic c1 hm rfl (by decide) ?_
   have k31 : M30.1 1 11 = z3 := (hR30 1 11 (by decide +kernel)).trans k23
   exact jx_retz c2 hm rfl rfl ⟨by omega, by omega⟩ ⟨_, rfl, hH30, hF30, by omega, by omega, (by omega), (fun t σ hσ => num_go hσ (by omega) ⟨by omega, by omega⟩ (CS.put rfl hσ n23 q23) rfl p28 (hR30 1 12 rfl) hR30 p29 (by decide +kernel)), (fun t σ hσ _ => ((hR30 1 11 rfl).trans k23).trans (k4.symm.trans (hσ.val (by have y9 := hσ.kind; omega)))), (((LFr.rf _ _).eq q23).tr p29 (by decide +kernel)), (fun t σ n hσ => numq_go hσ (by omega) ⟨by omega, by omega⟩ (CQ.cg hσ (fun j => (n23 2 j (fun h => absurd h.1 (by decide)))) (fun i hi => (n23 1 i (fun e => hi e.2))) ((q23 1 8)) (fun j => (n23 6 j (fun h => absurd h.1 (by decide)))) (fun k => (q23 7 k))) rfl p28 (hR30 1 12 rfl) (fun j => hR30 6 j rfl) (fun k => p29 7 k rfl))⟩
  refine jx_load c1 hm rfl rfl rfl rfl ?_
  refine jy_ic c1 hm rfl (by decide) ?_
  refine jx_load c1 hm rfl rfl rfl rfl ?_
  refine jx_geti c1 hm rfl sh_1 rfl k6 ?_
  refine jv_i c3 hm rfl pj_X10_fails rfl rfl ⟨_, _, _, rfl, sh_1⟩ rfl (((ct_X10_fails_1p X (by omega) M0 hH0 2 ⟨by omega, by omega⟩ z5 ⟨by omega, by omega⟩).lki (by decide +kernel) rfl).le (by decide)) (fun z32 M38 ⟨⟨hH38, hR38, lz32, uz32, p33, p34, p35, p36, p37⟩, hL38⟩ => ?_)
  have hF38 := hF0.tr hR38 (by decide +kernel)
  obtain ⟨z39, k40, lz39, uz39⟩ := hH38.ld (c := 1) (i := 12) (A := 0) (B := 4) (bs_19_8 _ _ (by omega) (by omega))
  obtain ⟨z41, k42, lz41, uz41⟩ := hH38.ld (c := 1) (i := 13) (A := 0) (B := 940) (bs_19_9 _ _ (by omega) (by omega))
  obtain ⟨z43, k44, lz43, uz43⟩ := hH38.ld (c := 1) (i := 11) (A := 0) (B := 999) (bs_19_7 _ _ (by omega) (by omega))
  exact jx_retz c2 hm rfl rfl ⟨by omega, by omega⟩ ⟨_, rfl, hH38, hF38, by omega, by omega, (by omega), (fun t σ hσ => num_no hσ (by omega) (by omega) (by omega) (by omega)), (fun t σ hσ y => absurd y (by omega)), ((LFr.rf _ _).tr p37 (by decide +kernel)), (fun t σ n hσ => by first | exact numq_no1 hσ (by omega) (by omega) (by omega) (by omega) | exact numq_no2 hσ (by omega) (by omega) (by omega) (by omega) (by omega))⟩
 refine jx_load c1 hm rfl rfl rfl rfl ?_
 refine jy_ic c1 hm rfl (by decide) ?_
 refine jx_load c1 hm rfl rfl rfl rfl ?_
 refine jx_geti c1 hm rfl sh_1 rfl k6 ?_
 refine jv_i c3 hm rfl pj_X10_fails rfl rfl ⟨_, _, _, rfl, sh_1⟩ rfl (((ct_X10_fails_1p X (by omega) M0 hH0 1 ⟨by omega, by omega⟩ z5 ⟨by omega, by omega⟩).lki (by decide +kernel) rfl).le (by decide)) (fun z45 M51 ⟨⟨hH51, hR51, lz45, uz45, p46, p47, p48, p49, p50⟩, hL51⟩ => ?_)
 have hF51 := hF0.tr hR51 (by decide +kernel)
 obtain ⟨z52, k53, lz52, uz52⟩ := hH51.ld (c := 1) (i := 12) (A := 0) (B := 4) (bs_19_8 _ _ (by omega) (by omega))
 obtain ⟨z54, k55, lz54, uz54⟩ := hH51.ld (c := 1) (i := 13) (A := 0) (B := 940) (bs_19_9 _ _ (by omega) (by omega))
 obtain ⟨z56, k57, lz56, uz56⟩ := hH51.ld (c := 1) (i := 11) (A := 0) (B := 999) (bs_19_7 _ _ (by omega) (by omega))
 exact jx_retz c2 hm rfl rfl ⟨by omega, by omega⟩ ⟨_, rfl, hH51, hF51, by omega, by omega, (by omega), (fun t σ hσ => num_no hσ (by omega) (by omega) (by omega) (by omega)), (fun t σ hσ y => absurd y (by omega)), ((LFr.rf _ _).tr p50 (by decide +kernel)), (fun t σ n hσ => by first | exact numq_no1 hσ (by omega) (by omega) (by omega) (by omega) | exact numq_no2 hσ (by omega) (by omega) (by omega) (by omega) (by omega))⟩
theorem ct_X2_placeOf_5q (X : Int) (hX : 0 ≤ X ∧ X ≤ 100000000) (M0 : JM) (hH0 : HI X M0) (a0 : Int64) : JOk shp PJ 1 221 [.inr (.inr (.inl 5)), .inr (.inl a0)] M0 (jRi (fun v M' => M0 = M' ∧ (-1) ≤ v ∧ v ≤ 17 ∧ (∀ (t : TXT) (σ : PSt), HC M0 5 σ → PI t σ → ∀ r : Int, wok 7 r → a0.toInt = cw r → v = fndS σ r))) := by
 refine ⟨jr_X2_placeOf, pj_X2_placeOf, fun F c1 c2 c3 => ?_⟩
 have hm := pj_X2_placeOf
 change F 0 [some (.inr (.inr (.inl 5))), some (.inr (.inl a0)), none, none, none] [] M0
 refine jy_ic c1 hm rfl (by decide) ?_
 refine jx_stor c1 hm (L' := [some (.inr (.inr (.inl 5))), some (.inr (.inl a0)), none, some (.inl 0), none]) rfl rfl rfl rfl rfl ?_
 have W4 : ∀ (n5 : Nat) (b1 : Int) (hb1 : 0 ≤ b1 ∧ b1 ≤ 3) (o2 : Option JV) (ho2 : o2 = none ∨ (∃ z, o2 = some (.inl z)) ∨ ∃ r, o2 = some (.inr (.inr r))) (hfo : FNJ M0 a0 (6 * b1)), (-b1 + 3) < (n5 : Int) → F 2 [some (.inr (.inr (.inl 5))), some (.inr (.inl a0)), none, some (.inl b1), o2] [] M0 := by
  intro n5
  induction n5 with
  | zero => intros; omega
  | succ n5 ihW4 =>
   intro b1 hb1 o2 ho2 hfo hrW4
   refine jx_load c1 hm rfl rfl rfl rfl ?_
   refine jy_ic c1 hm rfl (by decide) ?_
   refine jc_ge c1 hm 58 rfl rfl (fun h6 => ?_) (fun h6 => ?_)
   ·
    refine jy_ic c1 hm rfl (by decide) ?_
    exact jx_reti c2 hm rfl rfl ⟨_, rfl, rfl, by omega, by omega, (FNJ.none hfo (by omega))⟩
   refine jy_ic c1 hm rfl (by decide) ?_
   refine jx_stor c1 hm (L' := [some (.inr (.inr (.inl 5))), some (.inr (.inl a0)), none, some (.inl b1), some (.inl 0)]) rfl rfl rfl rfl rfl ?_
   have W9 : ∀ (n10 : Nat) (b7 : Int) (hb7 : 0 ≤ b7 ∧ b7 ≤ 6) (hfi : FNJ M0 a0 (6 * b1 + b7)), (-b7 + 6) < (n10 : Int) → F 10 [some (.inr (.inr (.inl 5))), some (.inr (.inl a0)), none, some (.inl b1), some (.inl b7)] [] M0 := by
    intro n10
    induction n10 with
    | zero => intros; omega
    | succ n10 ihW9 =>
     intro b7 hb7 hfi hrW9
     refine jx_load c1 hm rfl rfl rfl rfl ?_
     refine jx_load c1 hm rfl rfl rfl rfl ?_
     refine jx_getr c1 hm rfl sh_5 rfl ?_
     refine jx_load c1 hm rfl rfl rfl rfl ?_
     obtain ⟨z11, k12, lz11, uz11⟩ := hH0.ld (c := 6) (i := (b1).toNat) (A := 0) (B := 6) rfl
     refine jx_iald c1 hm rfl sh_6 ⟨by omega, by omega⟩ k12 ?_
     refine jc_ge c1 hm 52 rfl rfl (fun h13 => ?_) (fun h13 => ?_)
     ·
      refine jx_iinc c1 hm (v := (b1 + 1)) (L' := [some (.inr (.inr (.inl 5))), some (.inr (.inl a0)), none, some (.inl (b1 + 1)), some (.inl b7)]) rfl rfl (by omega) (by omega) rfl ?_
      refine jx_goto c1 hm 2 rfl rfl ?_
      exact ihW4 (b1 + 1) (by omega) (some (.inl b7)) (Or.inr (Or.inl ⟨_, rfl⟩)) (FNJ.done hfi ⟨by omega, by omega⟩ ⟨by omega, by omega⟩ (by omega)) (by omega)
     refine jx_load c1 hm rfl rfl rfl rfl ?_
     refine jx_getr c1 hm rfl sh_5 rfl ?_
     refine jx_load c1 hm rfl rfl rfl rfl ?_
     refine jy_bp c1 hm rfl (by decide) ?_
     refine jy_mul c1 hm (6 * b1) rfl (by omega) ?_
     refine jx_load c1 hm rfl rfl rfl rfl ?_
     refine jy_add c1 hm (6 * b1 + b7) rfl (by omega) ?_
     obtain ⟨w14, kw14⟩ : ∃ w, M0.2 7 ((6 * b1 + b7)).toNat = w := ⟨_, rfl⟩
     refine jx_lald c1 hm rfl sh_7 ⟨by omega, by omega⟩ kw14 ?_
     skip
     refine jx_load c1 hm rfl rfl rfl rfl ?_
     refine jx_lcmp c1 hm rfl (fun z15 lz15 uz15 ez15 fz15 => ?_)
     skip
     refine jz_ne c1 hm 46 rfl rfl (fun h16 => ?_) (fun h16 => ?_)
     ·
      refine jx_iinc c1 hm (v := (b7 + 1)) (L' := [some (.inr (.inr (.inl 5))), some (.inr (.inl a0)), none, some (.inl b1), some (.inl (b7 + 1))]) rfl rfl (by omega) (by omega) rfl ?_
      refine jx_goto c1 hm 10 rfl rfl ?_
      exact ihW9 (b7 + 1) (by omega) (FNJ.st hfi ⟨by omega, by omega⟩ ⟨by omega, by omega⟩ (Or.inr (fun e9 => absurd (ez15.mpr (kw14.symm.trans e9)) (by omega)))) (by omega)
     refine jx_load c1 hm rfl rfl rfl rfl ?_
     refine jy_bp c1 hm rfl (by decide) ?_
     refine jy_mul c1 hm (6 * b1) rfl (by omega) ?_
     refine jx_load c1 hm rfl rfl rfl rfl ?_
     refine jy_add c1 hm (6 * b1 + b7) rfl (by omega) ?_
     exact jx_reti c2 hm rfl rfl ⟨_, rfl, rfl, by omega, by omega, (FNJ.hit hfi ⟨by omega, by omega⟩ ⟨by omega, by omega⟩ (by omega) (kw14.trans (ez15.mp (by omega))))⟩
   exact W9 (6 + 1 : Int).toNat 0 (by omega) (hfo.cg (by omega)) (by omega)
 exact W4 (3 + 1 : Int).toNat 0 (by omega) none (Or.inl rfl) FNJ.start (by omega)
def md_X10_takesName_1_5q : List (Nat × (Nat × Nat)) := [(1, (4, 4)), (1, (5, 5)), (1, (6, 6)), (1, (7, 7)), (1, (9, 9)), (1, (11, 11)), (1, (12, 12)), (1, (13, 13))]
theorem ct_X10_takesName_1_5q (X : Int) (hX : 0 ≤ X ∧ X ≤ 100000000) (M0 : JM) (hH0 : HI X M0) (a0 : Int) (ha0 : 0 ≤ a0 ∧ a0 ≤ 2) : JOk shp PJ 3 21 [.inr (.inr (.inl 1)), .inr (.inr (.inl 5)), .inl a0] M0 (jRi (fun v M' => HI X M' ∧ Fr md_X10_takesName_1_5q M0 M' ∧ 0 ≤ v ∧ v ≤ 1 ∧ (v = 1 → M'.1 1 11 ≤ 5) ∧ (∀ (t : TXT) (σ : PSt) (n : Int), CQ M0 t σ → LT t (namQ t a0 (σ, n)) v M') ∧ (LFr ml_X10_takesName_1_27p M0 M'))) := by
 refine ⟨jr_X10_takesName, pj_X10_takesName, fun F c1 c2 c3 => ?_⟩
 have hm := pj_X10_takesName
 change F 0 [some (.inr (.inr (.inl 1))), some (.inr (.inr (.inl 5))), some (.inl a0), none] [] M0
 have hF0 : Fr md_X10_takesName_1_5q M0 M0 := Fr.rf _ _
 refine jx_load c1 hm rfl rfl rfl rfl ?_
 obtain ⟨z1, k2, lz1, uz1⟩ := hH0.ld (c := 1) (i := 6) (A := 0) (B := 4) (bs_19_4 _ _ (by omega) (by omega))
 refine jx_geti c1 hm rfl sh_1 rfl k2 ?_
 refine jy_ic c1 hm rfl (by decide) ?_
 refine jc_ne c1 hm 16 rfl rfl (fun h3 => ?_) (fun h3 => ?_)
 ·
  refine jx_load c1 hm rfl rfl rfl rfl ?_
  refine jy_ic c1 hm rfl (by decide) ?_
  refine jx_load c1 hm rfl rfl rfl rfl ?_
  obtain ⟨z4, k5, lz4, uz4⟩ := hH0.ld (c := 1) (i := 5) (A := 0) (B := 940) (bs_19_3 _ _ (by omega) (by omega))
  refine jx_geti c1 hm rfl sh_1 rfl k5 ?_
  refine jv_i c3 hm rfl pj_X10_fails rfl rfl ⟨_, _, _, rfl, sh_1⟩ rfl ((ct_X10_fails_1p X (by omega) M0 hH0 1 ⟨by omega, by omega⟩ z4 ⟨by omega, by omega⟩).le (by decide)) (fun z6 M12 ⟨hH12, hR12, lz6, uz6, p7, p8, p9, p10, p11⟩ => ?_)
  have hF12 := hF0.tr hR12 (by decide +kernel)
  obtain ⟨z13, k14, lz13, uz13⟩ := hH12.ld (c := 1) (i := 12) (A := 0) (B := 4) (bs_19_8 _ _ (by omega) (by omega))
  obtain ⟨z15, k16, lz15, uz15⟩ := hH12.ld (c := 1) (i := 13) (A := 0) (B := 940) (bs_19_9 _ _ (by omega) (by omega))
  obtain ⟨z17, k18, lz17, uz17⟩ := hH12.ld (c := 1) (i := 11) (A := 0) (B := 999) (bs_19_7 _ _ (by omega) (by omega))
  exact jx_retz c2 hm rfl rfl ⟨by omega, by omega⟩ ⟨_, rfl, hH12, hF12, by omega, by omega, (by omega), (fun t σ n hσ => namq_no1 hσ (by omega) (by omega) (by omega) (by omega)), ((LFr.rf _ _).tr p11 (by decide +kernel))⟩
 refine jx_load c1 hm rfl rfl rfl rfl ?_
 obtain ⟨z19, k20, lz19, uz19⟩ := hH0.ld (c := 1) (i := 7) (A := (-1)) (B := 23) (bs_19_5 _ _ (by omega) (by omega))
 refine jx_geti c1 hm rfl sh_1 rfl k20 ?_
 refine jy_ic c1 hm rfl (by decide) ?_
 refine jc_eq c1 hm 26 rfl rfl (fun h21 => ?_) (fun h21 => ?_)
 ·
  refine jx_load c1 hm rfl rfl rfl rfl ?_
  refine jx_load c1 hm rfl rfl rfl rfl ?_
  obtain ⟨w22, kw22⟩ : ∃ w, M0.2 1 8 = w := ⟨_, rfl⟩
  refine jx_getl c1 hm rfl sh_1 rfl kw22 ?_
  skip
  refine jv_i c3 hm rfl pj_X2_placeOf rfl rfl ⟨_, _, _, rfl, sh_5⟩ rfl ((ct_X2_placeOf_5q X (by omega) M0 hH0 w22).le (by decide)) (fun z23 _ ⟨rfl, lz23, uz23, p24⟩ => ?_)
  skip
  refine jx_stor c1 hm (L' := [some (.inr (.inr (.inl 1))), some (.inr (.inr (.inl 5))), some (.inl a0), some (.inl z23)]) rfl rfl rfl rfl rfl ?_
  refine jx_load c1 hm rfl rfl rfl rfl ?_
  refine jy_ic c1 hm rfl (by decide) ?_
  refine jc_eq c1 hm 48 rfl rfl (fun h25 => ?_) (fun h25 => ?_)
  ·
   refine jx_load c1 hm rfl rfl rfl rfl ?_
   refine jy_ic c1 hm rfl (by decide) ?_
   refine jx_load c1 hm rfl rfl rfl rfl ?_
   obtain ⟨z26, k27, lz26, uz26⟩ := hH0.ld (c := 1) (i := 5) (A := 0) (B := 940) (bs_19_3 _ _ (by omega) (by omega))
   refine jx_geti c1 hm rfl sh_1 rfl k27 ?_
   refine jv_i c3 hm rfl pj_X10_fails rfl rfl ⟨_, _, _, rfl, sh_1⟩ rfl ((ct_X10_fails_1p X (by omega) M0 hH0 3 ⟨by omega, by omega⟩ z26 ⟨by omega, by omega⟩).le (by decide)) (fun z28 M34 ⟨hH34, hR34, lz28, uz28, p29, p30, p31, p32, p33⟩ => ?_)
   have hF34 := hF0.tr hR34 (by decide +kernel)
   obtain ⟨z35, k36, lz35, uz35⟩ := hH34.ld (c := 1) (i := 12) (A := 0) (B := 4) (bs_19_8 _ _ (by omega) (by omega))
   obtain ⟨z37, k38, lz37, uz37⟩ := hH34.ld (c := 1) (i := 13) (A := 0) (B := 940) (bs_19_9 _ _ (by omega) (by omega))
   obtain ⟨z39, k40, lz39, uz39⟩ := hH34.ld (c := 1) (i := 11) (A := 0) (B := 999) (bs_19_7 _ _ (by omega) (by omega))
   exact jx_retz c2 hm rfl rfl ⟨by omega, by omega⟩ ⟨_, rfl, hH34, hF34, by omega, by omega, (by omega), (fun t σ n hσ => namq_no3 hσ ⟨by omega, by omega⟩ (by have y9 := p24 t σ hσ.2.2.1 hσ.2.2.2 _ (hσ.wkk (hσ.kind.2.2.1.mp (by omega))) ((congrArg Int64.toInt kw22).symm.trans (hσ.word (hσ.kind.2.2.1.mp (by omega)))); omega) (by omega) (by omega) (by omega)), ((LFr.rf _ _).tr p33 (by decide +kernel))⟩
  refine jx_load c1 hm rfl rfl rfl rfl ?_
  refine jy_bp c1 hm rfl (by decide) ?_
  refine jy_div c1 hm rfl ⟨by omega, by omega, by omega, by omega⟩ (fun z41 ez41 lz41 uz41 => ?_)
  refine jx_load c1 hm rfl rfl rfl rfl ?_
  refine jc_eq c1 hm 58 rfl rfl (fun h42 => ?_) (fun h42 => ?_)
  ·
   refine jx_load c1 hm rfl rfl rfl rfl ?_
   refine jx_load c1 hm rfl rfl rfl rfl ?_
   refine jy_bp c1 hm rfl (by decide) ?_
   refine jy_rem c1 hm rfl ⟨by omega, by omega, by omega, by omega⟩ (fun z43 ez43 lz43 uz43 => ?_)
   obtain ⟨M44, e44, hH44, hF44, k44, n44, q44⟩ := mup hH0 hF0 (c := 1) (i := 11) (v := z43) (A := 0) (B := 999) (bs_19_7 _ _ (by omega) (by omega)) ⟨by omega, by omega⟩ (jin_of 5 rfl ⟨by omega, by omega⟩)
   refine jm_puti c1 hm rfl sh_1 rfl e44 ?_
   refine jx_load c1 hm rfl rfl rfl rfl ?_
   obtain ⟨z45, k46, lz45, uz45⟩ := hH44.ld (c := 1) (i := 2) (A := 0) (B := 940) (bs_19_1 _ _ (by omega) (by omega))
   obtain ⟨z47, k48, lz47, uz47⟩ := hH44.ld (c := 1) (i := 4) (A := 0) (B := 940) (bs_19_3 _ _ (by omega) (by omega))
   refine jv_v c3 hm rfl pj_X10_next rfl rfl ⟨_, _, _, rfl, sh_1⟩ rfl ((ct_X10_next_1p X (by omega) M44 hH44 ).le (by decide)) (fun M51 ⟨hH51, hR51, p49, p50⟩ => ?_)
   have hF51 := hF44.tr hR51 (by decide +kernel)
   refine jy_ic c1 hm rfl (by decide) ?_
   have k52 : M51.1 1 11 = z43 := (hR51 1 11 (by decide +kernel)).trans k44
   exact jx_retz c2 hm rfl rfl ⟨by omega, by omega⟩ ⟨_, rfl, hH51, hF51, by omega, by omega, (by omega), (fun t σ n hσ => namq_go hσ ⟨by omega, by omega⟩ (p24 t σ hσ.2.2.1 hσ.2.2.2 _ (hσ.wkk (hσ.kind.2.2.1.mp (by omega))) ((congrArg Int64.toInt kw22).symm.trans (hσ.word (hσ.kind.2.2.1.mp (by omega))))) (by omega) (by omega) (CQ.cg hσ (fun j => (n44 2 j (fun h => absurd h.1 (by decide)))) (fun i hi => (n44 1 i (fun e => hi e.2))) ((q44 1 8)) (fun j => (n44 6 j (fun h => absurd h.1 (by decide)))) (fun k => (q44 7 k))) rfl p49 (hR51 1 12 rfl) (fun j => hR51 6 j rfl) (fun k => p50 7 k rfl)), (((LFr.rf _ _).eq q44).tr p50 (by decide +kernel))⟩
  refine jx_load c1 hm rfl rfl rfl rfl ?_
  refine jy_ic c1 hm rfl (by decide) ?_
  refine jx_load c1 hm rfl rfl rfl rfl ?_
  obtain ⟨z53, k54, lz53, uz53⟩ := hH0.ld (c := 1) (i := 5) (A := 0) (B := 940) (bs_19_3 _ _ (by omega) (by omega))
  refine jx_geti c1 hm rfl sh_1 rfl k54 ?_
  refine jv_i c3 hm rfl pj_X10_fails rfl rfl ⟨_, _, _, rfl, sh_1⟩ rfl ((ct_X10_fails_1p X (by omega) M0 hH0 3 ⟨by omega, by omega⟩ z53 ⟨by omega, by omega⟩).le (by decide)) (fun z55 M61 ⟨hH61, hR61, lz55, uz55, p56, p57, p58, p59, p60⟩ => ?_)
  have hF61 := hF0.tr hR61 (by decide +kernel)
  obtain ⟨z62, k63, lz62, uz62⟩ := hH61.ld (c := 1) (i := 12) (A := 0) (B := 4) (bs_19_8 _ _ (by omega) (by omega))
  obtain ⟨z64, k65, lz64, uz64⟩ := hH61.ld (c := 1) (i := 13) (A := 0) (B := 940) (bs_19_9 _ _ (by omega) (by omega))
  obtain ⟨z66, k67, lz66, uz66⟩ := hH61.ld (c := 1) (i := 11) (A := 0) (B := 999) (bs_19_7 _ _ (by omega) (by omega))
  exact jx_retz c2 hm rfl rfl ⟨by omega, by omega⟩ ⟨_, rfl, hH61, hF61, by omega, by omega, (by omega), (fun t σ n hσ => namq_no3 hσ ⟨by omega, by omega⟩ (by have y9 := p24 t σ hσ.2.2.1 hσ.2.2.2 _ (hσ.wkk (hσ.kind.2.2.1.mp (by omega))) ((congrArg Int64.toInt kw22).symm.trans (hσ.word (hσ.kind.2.2.1.mp (by omega)))); omega) (by omega) (by omega) (by omega)), ((LFr.rf _ _).tr p60 (by decide +kernel))⟩
 refine jx_load c1 hm rfl rfl rfl rfl ?_
 refine jy_ic c1 hm rfl (by decide) ?_
 refine jx_load c1 hm rfl rfl rfl rfl ?_
 obtain ⟨z68, k69, lz68, uz68⟩ := hH0.ld (c := 1) (i := 5) (A := 0) (B := 940) (bs_19_3 _ _ (by omega) (by omega))
 refine jx_geti c1 hm rfl sh_1 rfl k69 ?_
 refine jv_i c3 hm rfl pj_X10_fails rfl rfl ⟨_, _, _, rfl, sh_1⟩ rfl ((ct_X10_fails_1p X (by omega) M0 hH0 1 ⟨by omega, by omega⟩ z68 ⟨by omega, by omega⟩).le (by decide)) (fun z70 M76 ⟨hH76, hR76, lz70, uz70, p71, p72, p73, p74, p75⟩ => ?_)
 have hF76 := hF0.tr hR76 (by decide +kernel)
 obtain ⟨z77, k78, lz77, uz77⟩ := hH76.ld (c := 1) (i := 12) (A := 0) (B := 4) (bs_19_8 _ _ (by omega) (by omega))
 obtain ⟨z79, k80, lz79, uz79⟩ := hH76.ld (c := 1) (i := 13) (A := 0) (B := 940) (bs_19_9 _ _ (by omega) (by omega))
 obtain ⟨z81, k82, lz81, uz81⟩ := hH76.ld (c := 1) (i := 11) (A := 0) (B := 999) (bs_19_7 _ _ (by omega) (by omega))
 exact jx_retz c2 hm rfl rfl ⟨by omega, by omega⟩ ⟨_, rfl, hH76, hF76, by omega, by omega, (by omega), (fun t σ n hσ => namq_no1 hσ (by omega) (by omega) (by omega) (by omega)), ((LFr.rf _ _).tr p75 (by decide +kernel))⟩
def md_X7_add_42p : List (Nat × (Nat × Nat)) := [(42, (2, 2)), (43, (0, 39))]
theorem ct_X7_add_42p (X : Int) (hX : 0 ≤ X ∧ X ≤ 100000000) (M0 : JM) (hH0 : HI X M0) (a0 : Int) (ha0 : (-2147483648) ≤ a0 ∧ a0 ≤ 2147483647) (a1 : Int) (ha1 : (-2147483648) ≤ a1 ∧ a1 ≤ 2147483647) (a2 : Int) (ha2 : (-2147483648) ≤ a2 ∧ a2 ≤ 2147483647) : JOk shp PJ 1 250 [.inr (.inr (.inl 42)), .inl a0, .inl a1, .inl a2] M0 (jRi (fun v M' => HI X M' ∧ Fr md_X7_add_42p M0 M' ∧ 0 ≤ v ∧ v ≤ 1 ∧ (v = 1) ∧ (LFr ml_X7_add_42p M0 M'))) := by
 refine ⟨jr_X7_add, pj_X7_add, fun F c1 c2 c3 => ?_⟩
 have hm := pj_X7_add
 change F 0 [some (.inr (.inr (.inl 42))), some (.inl a0), some (.inl a1), some (.inl a2)] [] M0
 have hF0 : Fr md_X7_add_42p M0 M0 := Fr.rf _ _
 refine jx_load c1 hm rfl rfl rfl rfl ?_
 obtain ⟨z1, k2, lz1, uz1⟩ := hH0.ld (c := 42) (i := 2) (A := 0) (B := 40) (bs_21_1 _ _ (by omega) (by omega))
 refine jx_geti c1 hm rfl sh_42 rfl k2 ?_
 refine jy_bp c1 hm rfl (by decide) ?_
 refine jc_ge c1 hm 39 rfl rfl (fun h3 => ?_) (fun h3 => ?_)
 ·
  refine jy_ic c1 hm rfl (by decide) ?_
  exact jx_retz c2 hm rfl rfl ⟨by omega, by omega⟩ ⟨_, rfl, hH0, hF0, by omega, by omega, (by omega), (LFr.rf _ _)⟩
 refine jx_load c1 hm rfl rfl rfl rfl ?_
 refine jx_getr c1 hm rfl sh_42 rfl ?_
 refine jx_load c1 hm rfl rfl rfl rfl ?_
 refine jx_geti c1 hm rfl sh_42 rfl k2 ?_
 refine jx_load c1 hm rfl rfl rfl rfl ?_
 refine jx_load c1 hm rfl rfl rfl rfl ?_
 refine jy_bp c1 hm rfl (by decide) ?_
 refine jx_iopw c1 hm rfl rfl (fun z4 lz4 uz4 => ?_)
 refine jx_iopw c1 hm rfl rfl (fun z5 lz5 uz5 => ?_)
 refine jx_load c1 hm rfl rfl rfl rfl ?_
 refine jy_bp c1 hm rfl (by decide) ?_
 refine jx_iopw c1 hm rfl rfl (fun z6 lz6 uz6 => ?_)
 refine jx_iopw c1 hm rfl rfl (fun z7 lz7 uz7 => ?_)
 obtain ⟨M8, e8, hH8, hF8, k8, n8, q8⟩ := mup hH0 hF0 (c := 43) (i := (z1).toNat) (v := z7) (A := (-2147483648)) (B := 2147483647) rfl ⟨by omega, by omega⟩ (jin_of 1 rfl ⟨by omega, by omega⟩)
 refine jm_iast c1 hm rfl sh_43 ⟨by omega, by omega⟩ e8 ?_
 refine jx_load c1 hm rfl rfl rfl rfl ?_
 refine jx_dup c1 hm rfl rfl ?_
 have k9 : M8.1 42 2 = z1 := (n8 42 2 (fun h => absurd h.1 (by decide))).trans k2
 refine jx_geti c1 hm rfl sh_42 rfl k9 ?_
 refine jy_ic c1 hm rfl (by decide) ?_
 refine jy_add c1 hm (z1 + 1) rfl (by omega) ?_
 obtain ⟨M10, e10, hH10, hF10, k10, n10, q10⟩ := mup hH8 hF8 (c := 42) (i := 2) (v := (z1 + 1)) (A := 0) (B := 40) (bs_21_1 _ _ (by omega) (by omega)) ⟨by omega, by omega⟩ (jin_of 0 rfl ⟨by omega, by omega⟩)
 refine jm_puti c1 hm rfl sh_42 rfl e10 ?_
 refine jy_ic c1 hm rfl (by decide) ?_
 exact jx_retz c2 hm rfl rfl ⟨by omega, by omega⟩ ⟨_, rfl, hH10, hF10, by omega, by omega, (by omega), (((LFr.rf _ _).eq q8).eq q10)⟩
def md_X7_readPlainOne_42_1_5q : List (Nat × (Nat × Nat)) := [(1, (4, 4)), (1, (5, 5)), (1, (6, 6)), (1, (7, 7)), (1, (9, 9)), (1, (11, 11)), (1, (12, 12)), (1, (13, 13)), (42, (2, 2)), (43, (0, 39))]
theorem ct_X7_readPlainOne_42_1_5q (X : Int) (hX : 0 ≤ X ∧ X ≤ 100000000) (M0 : JM) (hH0 : HI X M0) (a0 : Int) (ha0 : 15 ≤ a0 ∧ a0 ≤ 23) : JOk shp PJ 4 258 [.inr (.inr (.inl 42)), .inr (.inr (.inl 1)), .inr (.inr (.inl 5)), .inl a0] M0 (jRi (fun v M' => HI X M' ∧ Fr md_X7_readPlainOne_42_1_5q M0 M' ∧ 0 ≤ v ∧ v ≤ 1 ∧ (∀ (t : TXT) (σ : PSt) (n : Int), CQ M0 t σ → 16 ≤ a0 → LT t (plnQ t a0 (σ, n)) v M') ∧ (LFr ml_X7_readPlainOne_42_1_5q M0 M'))) := by
 refine ⟨jr_X7_readPlainOne, pj_X7_readPlainOne, fun F c1 c2 c3 => ?_⟩
 have hm := pj_X7_readPlainOne
 change F 0 [some (.inr (.inr (.inl 42))), some (.inr (.inr (.inl 1))), some (.inr (.inr (.inl 5))), some (.inl a0), none] [] M0
 have hF0 : Fr md_X7_readPlainOne_42_1_5q M0 M0 := Fr.rf _ _
 obtain ⟨z1, k2, lz1, uz1⟩ := hH0.ld (c := 1) (i := 6) (A := 0) (B := 4) (bs_19_4 _ _ (by omega) (by omega))
 obtain ⟨z3, k4, lz3, uz3⟩ := hH0.ld (c := 1) (i := 9) (A := (-2147483648)) (B := 2147483647) (bs_19_6 _ _ (by omega) (by omega))
 obtain ⟨z5, k6, lz5, uz5⟩ := hH0.ld (c := 1) (i := 5) (A := 0) (B := 940) (bs_19_3 _ _ (by omega) (by omega))
 refine jx_load c1 hm rfl rfl rfl rfl ?_
 by_cases h7 : a0 = 16
 ·
  refine jx_tswI c1 hm 32 rfl ⟨by omega, by omega⟩ (by rw [h7] <;> rfl) rfl ?_
  refine jx_load c1 hm rfl rfl rfl rfl ?_
  refine jx_load c1 hm rfl rfl rfl rfl ?_
  refine jy_ic c1 hm rfl (by decide) ?_
  refine jy_ic c1 hm rfl (by decide) ?_
  refine jv_i c3 hm rfl pj_X7_add rfl rfl ⟨_, _, _, rfl, sh_42⟩ rfl (((ct_X7_add_42p X (by omega) M0 hH0 a0 ⟨by omega, by omega⟩ 0 ⟨by omega, by omega⟩ 0 ⟨by omega, by omega⟩).lki (by decide +kernel) rfl).le (by decide)) (fun z8 M11 ⟨⟨hH11, hR11, lz8, uz8, p9, p10⟩, hL11⟩ => ?_)
  have hF11 := hF0.tr hR11 (by decide +kernel)
  exact jx_retz c2 hm rfl rfl ⟨by omega, by omega⟩ ⟨_, rfl, hH11, hF11, by omega, by omega, (fun t σ n hσ h16 => LT.eq (pl_16 (by omega)) (LT.o (CQ.cg hσ (fun j => (hR11 2 j rfl)) (fun i hi => (hR11 1 i rfl)) ((p10 1 8 rfl)) (fun j => (hR11 6 j rfl)) (fun k => (p10 7 k rfl))) rfl (by omega))), ((LFr.rf _ _).tr p10 (by decide +kernel))⟩
 by_cases h12 : a0 = 17
 ·
  refine jx_tswI c1 hm 40 rfl ⟨by omega, by omega⟩ (by rw [h12] <;> rfl) rfl ?_
  refine jx_load c1 hm rfl rfl rfl rfl ?_
  refine jx_load c1 hm rfl rfl rfl rfl ?_
  refine jy_ic c1 hm rfl (by decide) ?_
  refine jv_i c3 hm rfl pj_X10_takesName rfl rfl ⟨_, _, _, rfl, sh_1⟩ rfl (((ct_X10_takesName_1_5q X (by omega) M0 hH0 0 ⟨by omega, by omega⟩).lki (by decide +kernel) rfl).le (by decide)) (fun z13 M17 ⟨⟨hH17, hR17, lz13, uz13, p14, p15, p16⟩, hL17⟩ => ?_)
  have hF17 := hF0.tr hR17 (by decide +kernel)
  obtain ⟨z18, k19, lz18, uz18⟩ := hH17.ld (c := 1) (i := 11) (A := 0) (B := 999) (bs_19_7 _ _ (by omega) (by omega))
  refine jz_eq c1 hm 66 rfl rfl (fun h20 => ?_) (fun h20 => ?_)
  ·
   refine jy_ic c1 hm rfl (by decide) ?_
   exact jx_retz c2 hm rfl rfl ⟨by omega, by omega⟩ ⟨_, rfl, hH17, hF17, by omega, by omega, (fun t σ n hσ h16 => LT.eq (pl_17 (by omega)) ((p15 t σ n hσ).vc (by omega))), ((LFr.rf _ _).tr p16 (by decide +kernel))⟩
  refine jx_load c1 hm rfl rfl rfl rfl ?_
  refine jx_load c1 hm rfl rfl rfl rfl ?_
  refine jy_ic c1 hm rfl (by decide) ?_
  refine jx_load c1 hm rfl rfl rfl rfl ?_
  refine jx_geti c1 hm rfl sh_1 rfl k19 ?_
  refine jv_i c3 hm rfl pj_X7_add rfl rfl ⟨_, _, _, rfl, sh_42⟩ rfl (((ct_X7_add_42p X (by omega) M17 hH17 a0 ⟨by omega, by omega⟩ 0 ⟨by omega, by omega⟩ z18 ⟨by omega, by omega⟩).lki (by decide +kernel) rfl).le (by decide)) (fun z21 M24 ⟨⟨hH24, hR24, lz21, uz21, p22, p23⟩, hL24⟩ => ?_)
  have hF24 := hF17.tr hR24 (by decide +kernel)
  refine jz_eq c1 hm 66 rfl rfl (fun h25 => ?_) (fun h25 => ?_)
  ·
   exfalso; omega
  refine jy_ic c1 hm rfl (by decide) ?_
  refine jx_goto c1 hm 67 rfl rfl ?_
  exact jx_retz c2 hm rfl rfl ⟨by omega, by omega⟩ ⟨_, rfl, hH24, hF24, by omega, by omega, (fun t σ n hσ h16 => LT.eq (pl_17 (by omega)) (by have y9 := (p15 t σ n hσ).ok (by omega); exact LT.o (CQ.cg y9.2 (fun j => (hR24 2 j rfl)) (fun i hi => (hR24 1 i rfl)) ((p23 1 8 rfl)) (fun j => (hR24 6 j rfl)) (fun k => (p23 7 k rfl))) y9.1 (by omega))), (((LFr.rf _ _).tr p16 (by decide +kernel)).tr p23 (by decide +kernel))⟩
 by_cases h26 : a0 = 18
 ·
  refine jx_tswI c1 hm 68 rfl ⟨by omega, by omega⟩ (by rw [h26] <;> rfl) rfl ?_
  refine jx_load c1 hm rfl rfl rfl rfl ?_
  refine jx_load c1 hm rfl rfl rfl rfl ?_
  refine jy_ic c1 hm rfl (by decide) ?_
  refine jv_i c3 hm rfl pj_X10_takesName rfl rfl ⟨_, _, _, rfl, sh_1⟩ rfl (((ct_X10_takesName_1_5q X (by omega) M0 hH0 2 ⟨by omega, by omega⟩).lki (by decide +kernel) rfl).le (by decide)) (fun z27 M31 ⟨⟨hH31, hR31, lz27, uz27, p28, p29, p30⟩, hL31⟩ => ?_)
  have hF31 := hF0.tr hR31 (by decide +kernel)
  obtain ⟨z32, k33, lz32, uz32⟩ := hH31.ld (c := 1) (i := 11) (A := 0) (B := 999) (bs_19_7 _ _ (by omega) (by omega))
  refine jz_eq c1 hm 94 rfl rfl (fun h34 => ?_) (fun h34 => ?_)
  ·
   refine jy_ic c1 hm rfl (by decide) ?_
   exact jx_retz c2 hm rfl rfl ⟨by omega, by omega⟩ ⟨_, rfl, hH31, hF31, by omega, by omega, (fun t σ n hσ h16 => LT.eq (pl_18 (by omega)) ((p29 t σ n hσ).vc (by omega))), ((LFr.rf _ _).tr p30 (by decide +kernel))⟩
  refine jx_load c1 hm rfl rfl rfl rfl ?_
  refine jx_load c1 hm rfl rfl rfl rfl ?_
  refine jy_ic c1 hm rfl (by decide) ?_
  refine jx_load c1 hm rfl rfl rfl rfl ?_
  refine jx_geti c1 hm rfl sh_1 rfl k33 ?_
  refine jv_i c3 hm rfl pj_X7_add rfl rfl ⟨_, _, _, rfl, sh_42⟩ rfl (((ct_X7_add_42p X (by omega) M31 hH31 a0 ⟨by omega, by omega⟩ 0 ⟨by omega, by omega⟩ z32 ⟨by omega, by omega⟩).lki (by decide +kernel) rfl).le (by decide)) (fun z35 M38 ⟨⟨hH38, hR38, lz35, uz35, p36, p37⟩, hL38⟩ => ?_)
  have hF38 := hF31.tr hR38 (by decide +kernel)
  refine jz_eq c1 hm 94 rfl rfl (fun h39 => ?_) (fun h39 => ?_)
  ·
   exfalso; omega
  refine jy_ic c1 hm rfl (by decide) ?_
  refine jx_goto c1 hm 95 rfl rfl ?_
  exact jx_retz c2 hm rfl rfl ⟨by omega, by omega⟩ ⟨_, rfl, hH38, hF38, by omega, by omega, (fun t σ n hσ h16 => LT.eq (pl_18 (by omega)) (by have y9 := (p29 t σ n hσ).ok (by omega); exact LT.o (CQ.cg y9.2 (fun j => (hR38 2 j rfl)) (fun i hi => (hR38 1 i rfl)) ((p37 1 8 rfl)) (fun j => (hR38 6 j rfl)) (fun k => (p37 7 k rfl))) y9.1 (by omega))), (((LFr.rf _ _).tr p30 (by decide +kernel)).tr p37 (by decide +kernel))⟩
 by_cases h40 : a0 = 19
 ·
  refine jx_tswI c1 hm 96 rfl ⟨by omega, by omega⟩ (by rw [h40] <;> rfl) rfl ?_
  refine jx_load c1 hm rfl rfl rfl rfl ?_
  refine jx_load c1 hm rfl rfl rfl rfl ?_
  refine jy_ic c1 hm rfl (by decide) ?_
  refine jv_i c3 hm rfl pj_X10_takesName rfl rfl ⟨_, _, _, rfl, sh_1⟩ rfl (((ct_X10_takesName_1_5q X (by omega) M0 hH0 1 ⟨by omega, by omega⟩).lki (by decide +kernel) rfl).le (by decide)) (fun z41 M45 ⟨⟨hH45, hR45, lz41, uz41, p42, p43, p44⟩, hL45⟩ => ?_)
  have hF45 := hF0.tr hR45 (by decide +kernel)
  obtain ⟨z46, k47, lz46, uz46⟩ := hH45.ld (c := 1) (i := 11) (A := 0) (B := 999) (bs_19_7 _ _ (by omega) (by omega))
  refine jz_eq c1 hm 122 rfl rfl (fun h48 => ?_) (fun h48 => ?_)
  ·
   refine jy_ic c1 hm rfl (by decide) ?_
   exact jx_retz c2 hm rfl rfl ⟨by omega, by omega⟩ ⟨_, rfl, hH45, hF45, by omega, by omega, (fun t σ n hσ h16 => LT.eq (pl_19 (by omega)) ((p43 t σ n hσ).vc (by omega))), ((LFr.rf _ _).tr p44 (by decide +kernel))⟩
  refine jx_load c1 hm rfl rfl rfl rfl ?_
  refine jx_load c1 hm rfl rfl rfl rfl ?_
  refine jy_ic c1 hm rfl (by decide) ?_
  refine jx_load c1 hm rfl rfl rfl rfl ?_
  refine jx_geti c1 hm rfl sh_1 rfl k47 ?_
  refine jv_i c3 hm rfl pj_X7_add rfl rfl ⟨_, _, _, rfl, sh_42⟩ rfl (((ct_X7_add_42p X (by omega) M45 hH45 a0 ⟨by omega, by omega⟩ 0 ⟨by omega, by omega⟩ z46 ⟨by omega, by omega⟩).lki (by decide +kernel) rfl).le (by decide)) (fun z49 M52 ⟨⟨hH52, hR52, lz49, uz49, p50, p51⟩, hL52⟩ => ?_)
  have hF52 := hF45.tr hR52 (by decide +kernel)
  refine jz_eq c1 hm 122 rfl rfl (fun h53 => ?_) (fun h53 => ?_)
  ·
   exfalso; omega
  refine jy_ic c1 hm rfl (by decide) ?_
  refine jx_goto c1 hm 123 rfl rfl ?_
  exact jx_retz c2 hm rfl rfl ⟨by omega, by omega⟩ ⟨_, rfl, hH52, hF52, by omega, by omega, (fun t σ n hσ h16 => LT.eq (pl_19 (by omega)) (by have y9 := (p43 t σ n hσ).ok (by omega); exact LT.o (CQ.cg y9.2 (fun j => (hR52 2 j rfl)) (fun i hi => (hR52 1 i rfl)) ((p51 1 8 rfl)) (fun j => (hR52 6 j rfl)) (fun k => (p51 7 k rfl))) y9.1 (by omega))), (((LFr.rf _ _).tr p44 (by decide +kernel)).tr p51 (by decide +kernel))⟩
 refine jx_tswO c1 hm 124 rfl (by omega) rfl ?_
 refine jx_load c1 hm rfl rfl rfl rfl ?_
 refine jx_geti c1 hm rfl sh_1 rfl k4 ?_
 refine jx_stor c1 hm (L' := [some (.inr (.inr (.inl 42))), some (.inr (.inr (.inl 1))), some (.inr (.inr (.inl 5))), some (.inl a0), some (.inl z3)]) rfl rfl rfl rfl rfl ?_
 refine jx_load c1 hm rfl rfl rfl rfl ?_
 refine jy_bp c1 hm rfl (by decide) ?_
 refine jv_i c3 hm rfl pj_X10_isSign rfl rfl ⟨_, _, _, rfl, sh_1⟩ rfl ((ct_X10_isSign_1p X (by omega) M0 hH0 60 ⟨by omega, by omega⟩).le (by decide)) (fun z54 _ ⟨rfl, lz54, uz54, p55, p56⟩ => ?_)
 refine jz_ne c1 hm 167 rfl rfl (fun h57 => ?_) (fun h57 => ?_)
 ·
  refine jx_load c1 hm rfl rfl rfl rfl ?_
  obtain ⟨z58, k59, lz58, uz58⟩ := hH0.ld (c := 1) (i := 2) (A := 0) (B := 940) (bs_19_1 _ _ (by omega) (by omega))
  obtain ⟨z60, k61, lz60, uz60⟩ := hH0.ld (c := 1) (i := 4) (A := 0) (B := 940) (bs_19_3 _ _ (by omega) (by omega))
  refine jv_v c3 hm rfl pj_X10_next rfl rfl ⟨_, _, _, rfl, sh_1⟩ rfl (((ct_X10_next_1p X (by omega) M0 hH0 ).lkv (by decide +kernel) rfl).le (by decide)) (fun M64 ⟨⟨hH64, hR64, p62, p63⟩, hL64⟩ => ?_)
  have hF64 := hF0.tr hR64 (by decide +kernel)
  refine jx_load c1 hm rfl rfl rfl rfl ?_
  refine jy_ic c1 hm rfl (by decide) ?_
  refine jy_sp c1 hm rfl (by decide) ?_
  refine jv_i c3 hm rfl pj_X10_takesNumber rfl rfl ⟨_, _, _, rfl, sh_1⟩ rfl (((ct_X10_takesNumber_1q X (by omega) M64 hH64 0 ⟨by omega, by omega⟩ 999 ⟨by omega, by omega⟩).lki (by decide +kernel) rfl).le (by decide)) (fun z65 M71 ⟨⟨hH71, hR71, lz65, uz65, p66, p67, p68, p69, p70⟩, hL71⟩ => ?_)
  have hF71 := hF64.tr hR71 (by decide +kernel)
  obtain ⟨z72, k73, lz72, uz72⟩ := hH71.ld (c := 1) (i := 11) (A := 0) (B := 999) (bs_19_7 _ _ (by omega) (by omega))
  refine jz_eq c1 hm 200 rfl rfl (fun h74 => ?_) (fun h74 => ?_)
  ·
   refine jy_ic c1 hm rfl (by decide) ?_
   exact jx_retz c2 hm rfl rfl ⟨by omega, by omega⟩ ⟨_, rfl, hH71, hF71, by omega, by omega, (fun t σ n hσ h16 => LT.eq (pl_20 (by omega)) (LT.eq (cmpq_ok hσ (by omega)) ((p70 t _ n (hσ.next (cmpq_k hσ (by omega)) p62 (hR64 1 12 rfl) (fun j => hR64 6 j rfl) (fun k => p63 7 k rfl))).vc (by omega)))), (((LFr.rf _ _).tr p63 (by decide +kernel)).tr p69 (by decide +kernel))⟩
  refine jx_load c1 hm rfl rfl rfl rfl ?_
  refine jx_load c1 hm rfl rfl rfl rfl ?_
  refine jx_load c1 hm rfl rfl rfl rfl ?_
  refine jx_load c1 hm rfl rfl rfl rfl ?_
  refine jx_geti c1 hm rfl sh_1 rfl k73 ?_
  refine jv_i c3 hm rfl pj_X7_add rfl rfl ⟨_, _, _, rfl, sh_42⟩ rfl (((ct_X7_add_42p X (by omega) M71 hH71 a0 ⟨by omega, by omega⟩ z3 ⟨by omega, by omega⟩ z72 ⟨by omega, by omega⟩).lki (by decide +kernel) rfl).le (by decide)) (fun z75 M78 ⟨⟨hH78, hR78, lz75, uz75, p76, p77⟩, hL78⟩ => ?_)
  have hF78 := hF71.tr hR78 (by decide +kernel)
  refine jz_eq c1 hm 200 rfl rfl (fun h79 => ?_) (fun h79 => ?_)
  ·
   exfalso; omega
  refine jy_ic c1 hm rfl (by decide) ?_
  refine jx_goto c1 hm 201 rfl rfl ?_
  exact jx_retz c2 hm rfl rfl ⟨by omega, by omega⟩ ⟨_, rfl, hH78, hF78, by omega, by omega, (fun t σ n hσ h16 => LT.eq (pl_20 (by omega)) (LT.eq (cmpq_ok hσ (by omega)) (by have y9 := (p70 t _ n (hσ.next (cmpq_k hσ (by omega)) p62 (hR64 1 12 rfl) (fun j => hR64 6 j rfl) (fun k => p63 7 k rfl))).ok (by omega); exact LT.o (CQ.cg y9.2 (fun j => (hR78 2 j rfl)) (fun i hi => (hR78 1 i rfl)) ((p77 1 8 rfl)) (fun j => (hR78 6 j rfl)) (fun k => (p77 7 k rfl))) y9.1 (by omega)))), ((((LFr.rf _ _).tr p63 (by decide +kernel)).tr p69 (by decide +kernel)).tr p77 (by decide +kernel))⟩
 refine jx_load c1 hm rfl rfl rfl rfl ?_
 refine jy_bp c1 hm rfl (by decide) ?_
 refine jv_i c3 hm rfl pj_X10_isSign rfl rfl ⟨_, _, _, rfl, sh_1⟩ rfl ((ct_X10_isSign_1p X (by omega) M0 hH0 61 ⟨by omega, by omega⟩).le (by decide)) (fun z80 _ ⟨rfl, lz80, uz80, p81, p82⟩ => ?_)
 refine jz_ne c1 hm 167 rfl rfl (fun h83 => ?_) (fun h83 => ?_)
 ·
  refine jx_load c1 hm rfl rfl rfl rfl ?_
  obtain ⟨z84, k85, lz84, uz84⟩ := hH0.ld (c := 1) (i := 2) (A := 0) (B := 940) (bs_19_1 _ _ (by omega) (by omega))
  obtain ⟨z86, k87, lz86, uz86⟩ := hH0.ld (c := 1) (i := 4) (A := 0) (B := 940) (bs_19_3 _ _ (by omega) (by omega))
  refine jv_v c3 hm rfl pj_X10_next rfl rfl ⟨_, _, _, rfl, sh_1⟩ rfl (((ct_X10_next_1p X (by omega) M0 hH0 ).lkv (by decide +kernel) rfl).le (by decide)) (fun M90 ⟨⟨hH90, hR90, p88, p89⟩, hL90⟩ => ?_)
  have hF90 := hF0.tr hR90 (by decide +kernel)
  refine jx_load c1 hm rfl rfl rfl rfl ?_
  refine jy_ic c1 hm rfl (by decide) ?_
  refine jy_sp c1 hm rfl (by decide) ?_
  refine jv_i c3 hm rfl pj_X10_takesNumber rfl rfl ⟨_, _, _, rfl, sh_1⟩ rfl (((ct_X10_takesNumber_1q X (by omega) M90 hH90 0 ⟨by omega, by omega⟩ 999 ⟨by omega, by omega⟩).lki (by decide +kernel) rfl).le (by decide)) (fun z91 M97 ⟨⟨hH97, hR97, lz91, uz91, p92, p93, p94, p95, p96⟩, hL97⟩ => ?_)
  have hF97 := hF90.tr hR97 (by decide +kernel)
  obtain ⟨z98, k99, lz98, uz98⟩ := hH97.ld (c := 1) (i := 11) (A := 0) (B := 999) (bs_19_7 _ _ (by omega) (by omega))
  refine jz_eq c1 hm 200 rfl rfl (fun h100 => ?_) (fun h100 => ?_)
  ·
   refine jy_ic c1 hm rfl (by decide) ?_
   exact jx_retz c2 hm rfl rfl ⟨by omega, by omega⟩ ⟨_, rfl, hH97, hF97, by omega, by omega, (fun t σ n hσ h16 => LT.eq (pl_20 (by omega)) (LT.eq (cmpq_ok hσ (by omega)) ((p96 t _ n (hσ.next (cmpq_k hσ (by omega)) p88 (hR90 1 12 rfl) (fun j => hR90 6 j rfl) (fun k => p89 7 k rfl))).vc (by omega)))), (((LFr.rf _ _).tr p89 (by decide +kernel)).tr p95 (by decide +kernel))⟩
  refine jx_load c1 hm rfl rfl rfl rfl ?_
  refine jx_load c1 hm rfl rfl rfl rfl ?_
  refine jx_load c1 hm rfl rfl rfl rfl ?_
  refine jx_load c1 hm rfl rfl rfl rfl ?_
  refine jx_geti c1 hm rfl sh_1 rfl k99 ?_
  refine jv_i c3 hm rfl pj_X7_add rfl rfl ⟨_, _, _, rfl, sh_42⟩ rfl (((ct_X7_add_42p X (by omega) M97 hH97 a0 ⟨by omega, by omega⟩ z3 ⟨by omega, by omega⟩ z98 ⟨by omega, by omega⟩).lki (by decide +kernel) rfl).le (by decide)) (fun z101 M104 ⟨⟨hH104, hR104, lz101, uz101, p102, p103⟩, hL104⟩ => ?_)
  have hF104 := hF97.tr hR104 (by decide +kernel)
  refine jz_eq c1 hm 200 rfl rfl (fun h105 => ?_) (fun h105 => ?_)
  ·
   exfalso; omega
  refine jy_ic c1 hm rfl (by decide) ?_
  refine jx_goto c1 hm 201 rfl rfl ?_
  exact jx_retz c2 hm rfl rfl ⟨by omega, by omega⟩ ⟨_, rfl, hH104, hF104, by omega, by omega, (fun t σ n hσ h16 => LT.eq (pl_20 (by omega)) (LT.eq (cmpq_ok hσ (by omega)) (by have y9 := (p96 t _ n (hσ.next (cmpq_k hσ (by omega)) p88 (hR90 1 12 rfl) (fun j => hR90 6 j rfl) (fun k => p89 7 k rfl))).ok (by omega); exact LT.o (CQ.cg y9.2 (fun j => (hR104 2 j rfl)) (fun i hi => (hR104 1 i rfl)) ((p103 1 8 rfl)) (fun j => (hR104 6 j rfl)) (fun k => (p103 7 k rfl))) y9.1 (by omega)))), ((((LFr.rf _ _).tr p89 (by decide +kernel)).tr p95 (by decide +kernel)).tr p103 (by decide +kernel))⟩
 refine jx_load c1 hm rfl rfl rfl rfl ?_
 refine jy_bp c1 hm rfl (by decide) ?_
 refine jv_i c3 hm rfl pj_X10_isSign rfl rfl ⟨_, _, _, rfl, sh_1⟩ rfl ((ct_X10_isSign_1p X (by omega) M0 hH0 62 ⟨by omega, by omega⟩).le (by decide)) (fun z106 _ ⟨rfl, lz106, uz106, p107, p108⟩ => ?_)
 refine jz_ne c1 hm 167 rfl rfl (fun h109 => ?_) (fun h109 => ?_)
 ·
  refine jx_load c1 hm rfl rfl rfl rfl ?_
  obtain ⟨z110, k111, lz110, uz110⟩ := hH0.ld (c := 1) (i := 2) (A := 0) (B := 940) (bs_19_1 _ _ (by omega) (by omega))
  obtain ⟨z112, k113, lz112, uz112⟩ := hH0.ld (c := 1) (i := 4) (A := 0) (B := 940) (bs_19_3 _ _ (by omega) (by omega))
  refine jv_v c3 hm rfl pj_X10_next rfl rfl ⟨_, _, _, rfl, sh_1⟩ rfl (((ct_X10_next_1p X (by omega) M0 hH0 ).lkv (by decide +kernel) rfl).le (by decide)) (fun M116 ⟨⟨hH116, hR116, p114, p115⟩, hL116⟩ => ?_)
  have hF116 := hF0.tr hR116 (by decide +kernel)
  refine jx_load c1 hm rfl rfl rfl rfl ?_
  refine jy_ic c1 hm rfl (by decide) ?_
  refine jy_sp c1 hm rfl (by decide) ?_
  refine jv_i c3 hm rfl pj_X10_takesNumber rfl rfl ⟨_, _, _, rfl, sh_1⟩ rfl (((ct_X10_takesNumber_1q X (by omega) M116 hH116 0 ⟨by omega, by omega⟩ 999 ⟨by omega, by omega⟩).lki (by decide +kernel) rfl).le (by decide)) (fun z117 M123 ⟨⟨hH123, hR123, lz117, uz117, p118, p119, p120, p121, p122⟩, hL123⟩ => ?_)
  have hF123 := hF116.tr hR123 (by decide +kernel)
  obtain ⟨z124, k125, lz124, uz124⟩ := hH123.ld (c := 1) (i := 11) (A := 0) (B := 999) (bs_19_7 _ _ (by omega) (by omega))
  refine jz_eq c1 hm 200 rfl rfl (fun h126 => ?_) (fun h126 => ?_)
  ·
   refine jy_ic c1 hm rfl (by decide) ?_
   exact jx_retz c2 hm rfl rfl ⟨by omega, by omega⟩ ⟨_, rfl, hH123, hF123, by omega, by omega, (fun t σ n hσ h16 => LT.eq (pl_20 (by omega)) (LT.eq (cmpq_ok hσ (by omega)) ((p122 t _ n (hσ.next (cmpq_k hσ (by omega)) p114 (hR116 1 12 rfl) (fun j => hR116 6 j rfl) (fun k => p115 7 k rfl))).vc (by omega)))), (((LFr.rf _ _).tr p115 (by decide +kernel)).tr p121 (by decide +kernel))⟩
  refine jx_load c1 hm rfl rfl rfl rfl ?_
  refine jx_load c1 hm rfl rfl rfl rfl ?_
  refine jx_load c1 hm rfl rfl rfl rfl ?_
  refine jx_load c1 hm rfl rfl rfl rfl ?_
  refine jx_geti c1 hm rfl sh_1 rfl k125 ?_
  refine jv_i c3 hm rfl pj_X7_add rfl rfl ⟨_, _, _, rfl, sh_42⟩ rfl (((ct_X7_add_42p X (by omega) M123 hH123 a0 ⟨by omega, by omega⟩ z3 ⟨by omega, by omega⟩ z124 ⟨by omega, by omega⟩).lki (by decide +kernel) rfl).le (by decide)) (fun z127 M130 ⟨⟨hH130, hR130, lz127, uz127, p128, p129⟩, hL130⟩ => ?_)
  have hF130 := hF123.tr hR130 (by decide +kernel)
  refine jz_eq c1 hm 200 rfl rfl (fun h131 => ?_) (fun h131 => ?_)
  ·
   exfalso; omega
  refine jy_ic c1 hm rfl (by decide) ?_
  refine jx_goto c1 hm 201 rfl rfl ?_
  exact jx_retz c2 hm rfl rfl ⟨by omega, by omega⟩ ⟨_, rfl, hH130, hF130, by omega, by omega, (fun t σ n hσ h16 => LT.eq (pl_20 (by omega)) (LT.eq (cmpq_ok hσ (by omega)) (by have y9 := (p122 t _ n (hσ.next (cmpq_k hσ (by omega)) p114 (hR116 1 12 rfl) (fun j => hR116 6 j rfl) (fun k => p115 7 k rfl))).ok (by omega); exact LT.o (CQ.cg y9.2 (fun j => (hR130 2 j rfl)) (fun i hi => (hR130 1 i rfl)) ((p129 1 8 rfl)) (fun j => (hR130 6 j rfl)) (fun k => (p129 7 k rfl))) y9.1 (by omega)))), ((((LFr.rf _ _).tr p115 (by decide +kernel)).tr p121 (by decide +kernel)).tr p129 (by decide +kernel))⟩
 refine jx_load c1 hm rfl rfl rfl rfl ?_
 refine jy_ic c1 hm rfl (by decide) ?_
 refine jx_load c1 hm rfl rfl rfl rfl ?_
 refine jx_geti c1 hm rfl sh_1 rfl k6 ?_
 refine jv_i c3 hm rfl pj_X10_fails rfl rfl ⟨_, _, _, rfl, sh_1⟩ rfl (((ct_X10_fails_1p X (by omega) M0 hH0 1 ⟨by omega, by omega⟩ z5 ⟨by omega, by omega⟩).lki (by decide +kernel) rfl).le (by decide)) (fun z132 M138 ⟨⟨hH138, hR138, lz132, uz132, p133, p134, p135, p136, p137⟩, hL138⟩ => ?_)
 have hF138 := hF0.tr hR138 (by decide +kernel)
 obtain ⟨z139, k140, lz139, uz139⟩ := hH138.ld (c := 1) (i := 12) (A := 0) (B := 4) (bs_19_8 _ _ (by omega) (by omega))
 obtain ⟨z141, k142, lz141, uz141⟩ := hH138.ld (c := 1) (i := 13) (A := 0) (B := 940) (bs_19_9 _ _ (by omega) (by omega))
 exact jx_retz c2 hm rfl rfl ⟨by omega, by omega⟩ ⟨_, rfl, hH138, hF138, by omega, by omega, (fun t σ n hσ h16 => LT.eq (pl_20 (by omega)) (LT.eq (seqQ_n (cmpq_no hσ (by omega)).1) (LT.no (k := 1) (n := n) (cmpq_no hσ (by omega)).2 (by decide) hσ (by omega) (by omega) (by omega)))), ((LFr.rf _ _).tr p137 (by decide +kernel))⟩
