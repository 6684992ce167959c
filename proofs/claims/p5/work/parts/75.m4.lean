/-! Contracts of the reference (by wip/q/wlk.py). -/
def md_X12_readSaid_173 : List (Nat × (Nat × Nat)) := [(173, (5, 5)), (173, (6, 6)), (173, (7, 7)), (173, (8, 8)), (173, (9, 9)), (173, (10, 10)), (173, (11, 11)), (173, (13, 13)), (173, (49, 49)), (173, (50, 50)), (173, (51, 51)), (173, (52, 52)), (197, (0, 239))]
def ST_X12_readSaid_173 (n : Nat) : Prop := ∀ (X : Int) (hX : 0 ≤ X ∧ X ≤ 100000000) (M0 : JM) (hH0 : HI X M0) (hp0 : M0.1 173 49 ≤ 2 * M0.1 173 50) (hp1 : TRN M0 (M0.1 173 49)) (hr : 20 - M0.1 173 50 < (n : Int)), JOk shp PJ (4 * n + 7) 171 [.inr (.inr (.inl 173))] M0 (jRi (fun v M' => HI X M' ∧ Fr md_X12_readSaid_173 M0 M' ∧ 0 ≤ v ∧ v ≤ 1 ∧ (M'.1 173 51 = M0.1 173 51) ∧ (v = 0 ∨ M'.1 173 49 - M0.1 173 49 ≤ 2 * (M'.1 173 50 - M0.1 173 50) - 1) ∧ (v = 0 ∨ M0.1 173 50 < M'.1 173 50) ∧ (v = 0 ∨ (0 ≤ M'.1 173 52 ∧ M'.1 173 52 < M'.1 173 49)) ∧ (v = 0 ∨ TRN M' (M'.1 173 49)) ∧ (v = 0 ∨ M0.1 173 49 ≤ M'.1 173 49)))
def md_X12_saysOne_173 : List (Nat × (Nat × Nat)) := [(173, (49, 49)), (197, (0, 236)), (197, (1, 237)), (197, (2, 238)), (197, (3, 239))]
theorem ct_X12_saysOne_173 (X : Int) (hX : 0 ≤ X ∧ X ≤ 100000000) (M0 : JM) (hH0 : HI X M0) (a0 : Int) (ha0 : (-2147483648) ≤ a0 ∧ a0 ≤ 2147483647) (a1 : Int) (ha1 : (-2147483648) ≤ a1 ∧ a1 ≤ 2147483647) (a2 : Int) (ha2 : (-2147483648) ≤ a2 ∧ a2 ≤ 2147483647) (a3 : Int) (ha3 : (-2147483648) ≤ a3 ∧ a3 ≤ 2147483647) (hp0 : M0.1 173 49 ≤ 59) (hp1 : TRN M0 (M0.1 173 49)) (hp2 : TW a0 a1 a2 (M0.1 173 49)) : JOk shp PJ 1 179 [.inr (.inr (.inl 173)), .inl a0, .inl a1, .inl a2, .inl a3] M0 (jRi (fun v M' => HI X M' ∧ Fr md_X12_saysOne_173 M0 M' ∧ 0 ≤ v ∧ v ≤ 59 ∧ (v = M0.1 173 49) ∧ (M'.1 173 49 = M0.1 173 49 + 1) ∧ (TRN M' (M'.1 173 49)))) := by
 refine ⟨jr_X12_saysOne, pj_X12_saysOne, fun F c1 c2 c3 => ?_⟩
 have hm := pj_X12_saysOne
 change F 0 [some (.inr (.inr (.inl 173))), some (.inl a0), some (.inl a1), some (.inl a2), some (.inl a3), none] [] M0
 have hF0 : Fr md_X12_saysOne_173 M0 M0 := Fr.rf _ _
 obtain ⟨z1, k2, lz1, uz1⟩ := hH0.ld (c := 173) (i := 49) (A := 0) (B := 60) (bs_28_23 _ _ (by omega) (by omega))
 refine jy_ic c1 hm rfl (by decide) ?_
 skip
 refine jx_load c1 hm rfl rfl rfl rfl ?_
 refine jx_geti c1 hm rfl sh_173 rfl k2 ?_
 refine jy_mul c1 hm (4 * z1) rfl (by omega) ?_
 refine jx_stor c1 hm (L' := [some (.inr (.inr (.inl 173))), some (.inl a0), some (.inl a1), some (.inl a2), some (.inl a3), some (.inl (4 * z1))]) rfl rfl rfl rfl rfl ?_
 refine jx_load c1 hm rfl rfl rfl rfl ?_
 refine jx_getr c1 hm rfl sh_173 rfl ?_
 refine jx_load c1 hm rfl rfl rfl rfl ?_
 refine jx_load c1 hm rfl rfl rfl rfl ?_
 obtain ⟨M3, e3, hH3, hF3, k3, n3, q3⟩ := mup hH0 hF0 (c := 197) (i := ((4 * z1)).toNat) (v := a0) (A := (-2147483648)) (B := 2147483647) rfl ⟨by omega, by omega⟩ (jin_of 1 rfl ⟨by omega, by omega⟩)
 refine jm_iast c1 hm rfl sh_197 ⟨by omega, by omega⟩ e3 ?_
 refine jx_load c1 hm rfl rfl rfl rfl ?_
 refine jx_getr c1 hm rfl sh_173 rfl ?_
 refine jx_load c1 hm rfl rfl rfl rfl ?_
 refine jy_ic c1 hm rfl (by decide) ?_
 refine jy_add c1 hm (4 * z1 + 1) rfl (by omega) ?_
 refine jx_load c1 hm rfl rfl rfl rfl ?_
 obtain ⟨M4, e4, hH4, hF4, k4, n4, q4⟩ := mup hH3 hF3 (c := 197) (i := ((4 * z1 + 1)).toNat) (v := a1) (A := (-2147483648)) (B := 2147483647) rfl ⟨by omega, by omega⟩ (jin_of 2 rfl ⟨by omega, by omega⟩)
 refine jm_iast c1 hm rfl sh_197 ⟨by omega, by omega⟩ e4 ?_
 refine jx_load c1 hm rfl rfl rfl rfl ?_
 refine jx_getr c1 hm rfl sh_173 rfl ?_
 refine jx_load c1 hm rfl rfl rfl rfl ?_
 refine jy_ic c1 hm rfl (by decide) ?_
 refine jy_add c1 hm (4 * z1 + 2) rfl (by omega) ?_
 refine jx_load c1 hm rfl rfl rfl rfl ?_
 obtain ⟨M5, e5, hH5, hF5, k5, n5, q5⟩ := mup hH4 hF4 (c := 197) (i := ((4 * z1 + 2)).toNat) (v := a2) (A := (-2147483648)) (B := 2147483647) rfl ⟨by omega, by omega⟩ (jin_of 3 rfl ⟨by omega, by omega⟩)
 refine jm_iast c1 hm rfl sh_197 ⟨by omega, by omega⟩ e5 ?_
 refine jx_load c1 hm rfl rfl rfl rfl ?_
 refine jx_getr c1 hm rfl sh_173 rfl ?_
 refine jx_load c1 hm rfl rfl rfl rfl ?_
 refine jy_ic c1 hm rfl (by decide) ?_
 refine jy_add c1 hm (4 * z1 + 3) rfl (by omega) ?_
 refine jx_load c1 hm rfl rfl rfl rfl ?_
 obtain ⟨M6, e6, hH6, hF6, k6, n6, q6⟩ := mup hH5 hF5 (c := 197) (i := ((4 * z1 + 3)).toNat) (v := a3) (A := (-2147483648)) (B := 2147483647) rfl ⟨by omega, by omega⟩ (jin_of 4 rfl ⟨by omega, by omega⟩)
 refine jm_iast c1 hm rfl sh_197 ⟨by omega, by omega⟩ e6 ?_
 refine jx_load c1 hm rfl rfl rfl rfl ?_
 refine jx_dup c1 hm rfl rfl ?_
 have k7 : M6.1 173 49 = z1 := (n6 173 49 (fun h => absurd h.1 (by decide))).trans ((n5 173 49 (fun h => absurd h.1 (by decide))).trans ((n4 173 49 (fun h => absurd h.1 (by decide))).trans ((n3 173 49 (fun h => absurd h.1 (by decide))).trans k2)))
 refine jx_geti c1 hm rfl sh_173 rfl k7 ?_
 refine jy_ic c1 hm rfl (by decide) ?_
 refine jy_add c1 hm (z1 + 1) rfl (by omega) ?_
 obtain ⟨M8, e8, hH8, hF8, k8, n8, q8⟩ := mup hH6 hF6 (c := 173) (i := 49) (v := (z1 + 1)) (A := 0) (B := 60) (bs_28_23 _ _ (by omega) (by omega)) ⟨by omega, by omega⟩ (jin_of 0 rfl ⟨by omega, by omega⟩)
 refine jm_puti c1 hm rfl sh_173 rfl e8 ?_
 refine jx_load c1 hm rfl rfl rfl rfl ?_
 refine jx_geti c1 hm rfl sh_173 rfl k8 ?_
 refine jy_ic c1 hm rfl (by decide) ?_
 refine jy_sub c1 hm z1 rfl (by omega) ?_
 exact jx_reti c2 hm rfl rfl ⟨_, rfl, hH8, hF8, by omega, by omega, (by omega), (by omega), (TRN_s (TRN.cg hp1 (fun _ => rfl) k2.symm) (by have e := k2; rw [e] at hp2; exact hp2) ((n8 197 ((4 * z1)).toNat (by omega)).trans ((n6 197 ((4 * z1)).toNat (by omega)).trans ((n5 197 ((4 * z1)).toNat (by omega)).trans ((n4 197 ((4 * z1)).toNat (by omega)).trans (k3))))) ((n8 197 ((4 * z1 + 1)).toNat (by omega)).trans ((n6 197 ((4 * z1 + 1)).toNat (by omega)).trans ((n5 197 ((4 * z1 + 1)).toNat (by omega)).trans (k4)))) ((n8 197 ((4 * z1 + 2)).toNat (by omega)).trans ((n6 197 ((4 * z1 + 2)).toNat (by omega)).trans (k5))) (fun j hj => ((((n8 197 j (by omega)).trans (n6 197 j (by omega))).trans (n5 197 j (by omega))).trans (n4 197 j (by omega))).trans (n3 197 j (by omega))) (by omega))⟩
def md_X12_readNot_173 : List (Nat × (Nat × Nat)) := [(173, (5, 5)), (173, (6, 6)), (173, (7, 7)), (173, (8, 8)), (173, (9, 9)), (173, (10, 10)), (173, (11, 11)), (173, (13, 13)), (173, (49, 49)), (173, (50, 50)), (173, (51, 51)), (173, (52, 52)), (197, (0, 239))]
theorem ct_X12_readNot_173 (n : Nat) (hy : ST_X12_readSaid_173 n) (X : Int) (hX : 0 ≤ X ∧ X ≤ 100000000) (M0 : JM) (hH0 : HI X M0) (hp0 : M0.1 173 49 ≤ 2 * M0.1 173 50) (hp1 : TRN M0 (M0.1 173 49)) (hr : 20 - M0.1 173 50 < (n : Int)) : JOk shp PJ (4 * n + 7 + 1) 166 [.inr (.inr (.inl 173))] M0 (jRi (fun v M' => HI X M' ∧ Fr md_X12_readNot_173 M0 M' ∧ 0 ≤ v ∧ v ≤ 1 ∧ (M'.1 173 51 = M0.1 173 51) ∧ (v = 0 ∨ M'.1 173 49 - M0.1 173 49 ≤ 2 * (M'.1 173 50 - M0.1 173 50)) ∧ (v = 0 ∨ M0.1 173 50 < M'.1 173 50) ∧ (v = 0 ∨ (0 ≤ M'.1 173 52 ∧ M'.1 173 52 < M'.1 173 49)) ∧ (v = 0 ∨ TRN M' (M'.1 173 49)) ∧ (v = 0 ∨ M0.1 173 49 ≤ M'.1 173 49))) := by
 refine ⟨jr_X12_readNot, pj_X12_readNot, fun F c1 c2 c3 => ?_⟩
 have hm := pj_X12_readNot
 change F 0 [some (.inr (.inr (.inl 173)))] [] M0
 have hF0 : Fr md_X12_readNot_173 M0 M0 := Fr.rf _ _
 obtain ⟨z1, k2, lz1, uz1⟩ := hH0.ld (c := 173) (i := 49) (A := 0) (B := 60) (bs_28_23 _ _ (by omega) (by omega))
 obtain ⟨z3, k4, lz3, uz3⟩ := hH0.ld (c := 173) (i := 50) (A := 0) (B := 20) (bs_28_24 _ _ (by omega) (by omega))
 obtain ⟨z5, k6, lz5, uz5⟩ := hH0.ld (c := 173) (i := 51) (A := 0) (B := 8) (bs_28_25 _ _ (by omega) (by omega))
 refine jx_load c1 hm rfl rfl rfl rfl ?_
 refine jv_i c3 hm rfl pj_X12_readSaid rfl rfl ⟨_, _, _, rfl, sh_173⟩ rfl ((hy X (by omega) M0 hH0 (by omega) (TRN.cg hp1 (fun j => rfl) (by omega)) (by omega)).le (by omega)) (fun z7 M14 ⟨hH14, hR14, lz7, uz7, p8, p9, p10, p11, p12, p13⟩ => ?_)
 have hF14 := hF0.tr hR14 (by decide +kernel)
 obtain ⟨z15, k16, lz15, uz15⟩ := hH14.ld (c := 173) (i := 51) (A := 0) (B := 8) (bs_28_25 _ _ (by omega) (by omega))
 obtain ⟨z17, k18, lz17, uz17⟩ := hH14.ld (c := 173) (i := 49) (A := 0) (B := 60) (bs_28_23 _ _ (by omega) (by omega))
 obtain ⟨z19, k20, lz19, uz19⟩ := hH14.ld (c := 173) (i := 50) (A := 0) (B := 20) (bs_28_24 _ _ (by omega) (by omega))
 obtain ⟨z21, k22, lz21, uz21⟩ := hH14.ld (c := 173) (i := 52) (A := (-2147483648)) (B := 2147483647) (bs_28_26 _ _ (by omega))
 skip
 refine jz_ne c1 hm 9 rfl rfl (fun h23 => ?_) (fun h23 => ?_)
 ·
  refine jx_load c1 hm rfl rfl rfl rfl ?_
  refine jx_load c1 hm rfl rfl rfl rfl ?_
  refine jy_ic c1 hm rfl (by decide) ?_
  refine jx_load c1 hm rfl rfl rfl rfl ?_
  refine jx_geti c1 hm rfl sh_173 rfl k22 ?_
  refine jy_ic c1 hm rfl (by decide) ?_
  refine jy_ic c1 hm rfl (by decide) ?_
  refine jv_i c3 hm rfl pj_X12_saysOne rfl rfl ⟨_, _, _, rfl, sh_173⟩ rfl ((ct_X12_saysOne_173 X (by omega) M14 hH14 1 ⟨by omega, by omega⟩ z21 ⟨by omega, by omega⟩ 0 ⟨by omega, by omega⟩ 0 ⟨by omega, by omega⟩ (by omega) (TRN.cg (p12.resolve_left (by omega)) (fun j => rfl) (by omega)) ⟨by omega, fun _ => ⟨by omega, by omega, by omega, by omega⟩, by omega⟩).le (by omega)) (fun z24 M28 ⟨hH28, hR28, lz24, uz24, p25, p26, p27⟩ => ?_)
  have hF28 := hF14.tr hR28 (by decide +kernel)
  obtain ⟨z29, k30, lz29, uz29⟩ := hH28.ld (c := 173) (i := 49) (A := 0) (B := 60) (bs_28_23 _ _ (by omega) (by omega))
  skip
  obtain ⟨M31, e31, hH31, hF31, k31, n31, q31⟩ := mup hH28 hF28 (c := 173) (i := 52) (v := z24) (A := (-2147483648)) (B := 2147483647) (bs_28_26 _ _ (by omega)) ⟨by omega, by omega⟩ (jin_of 11 rfl ⟨by omega, by omega⟩)
  refine jm_puti c1 hm rfl sh_173 rfl e31 ?_
  refine jy_ic c1 hm rfl (by decide) ?_
  have k32 : M31.1 173 49 = z29 := (n31 173 49 (by decide)).trans k30
  have k33 : M31.1 173 50 = z19 := (n31 173 50 (by decide)).trans ((hR28 173 50 (by decide +kernel)).trans k20)
  have k34 : M31.1 173 51 = z15 := (n31 173 51 (by decide)).trans ((hR28 173 51 (by decide +kernel)).trans k16)
  exact jx_retz c2 hm rfl rfl ⟨by omega, by omega⟩ ⟨_, rfl, hH31, hF31, by omega, by omega, (by omega), (by omega), (by omega), (by omega), (Or.inr (TRN.cg p27 (fun j => (n31 197 j (fun h => absurd h.1 (by decide)))) (by omega))), (by omega)⟩
 refine jy_ic c1 hm rfl (by decide) ?_
 exact jx_retz c2 hm rfl rfl ⟨by omega, by omega⟩ ⟨_, rfl, hH14, hF14, by omega, by omega, (by omega), (by omega), (by omega), (by omega), (Or.inl rfl), (by omega)⟩
def md_X12_readWhich_173 : List (Nat × (Nat × Nat)) := [(173, (5, 5)), (173, (6, 6)), (173, (7, 7)), (173, (8, 8)), (173, (9, 9)), (173, (10, 10)), (173, (11, 11)), (173, (13, 13))]
theorem ct_X12_readWhich_173 (X : Int) (hX : 0 ≤ X ∧ X ≤ 100000000) (M0 : JM) (hH0 : HI X M0) (a0 : Int) (ha0 : 17 ≤ a0 ∧ a0 ≤ 19) : JOk shp PJ 5 172 [.inr (.inr (.inl 173)), .inl a0] M0 (jRi (fun v M' => HI X M' ∧ Fr md_X12_readWhich_173 M0 M' ∧ 0 ≤ v ∧ v ≤ 1 ∧ (v = 1 → 0 ≤ M'.1 173 13 ∧ M'.1 173 13 ≤ 5))) := by
 refine ⟨jr_X12_readWhich, pj_X12_readWhich, fun F c1 c2 c3 => ?_⟩
 have hm := pj_X12_readWhich
 change F 0 [some (.inr (.inr (.inl 173))), some (.inl a0)] [] M0
 have hF0 : Fr md_X12_readWhich_173 M0 M0 := Fr.rf _ _
 refine jx_load c1 hm rfl rfl rfl rfl ?_
 refine jy_bp c1 hm rfl (by decide) ?_
 refine jc_ne c1 hm 20 rfl rfl (fun h1 => ?_) (fun h1 => ?_)
 ·
  refine jx_load c1 hm rfl rfl rfl rfl ?_
  refine jy_bp c1 hm rfl (by decide) ?_
  refine jc_ne c1 hm 41 rfl rfl (fun h2 => ?_) (fun h2 => ?_)
  ·
   refine jx_load c1 hm rfl rfl rfl rfl ?_
   refine jy_bp c1 hm rfl (by decide) ?_
   refine jx_load c1 hm rfl rfl rfl rfl ?_
   refine jx_getr c1 hm rfl sh_173 rfl ?_
   refine jy_ic c1 hm rfl (by decide) ?_
   obtain ⟨z3, k4, lz3, uz3⟩ := hH0.ld (c := 175) (i := 1) (A := 0) (B := 6) (bs_11_0 _ _ (by omega) (by omega))
   refine jx_iald c1 hm rfl sh_175 ⟨by omega, by omega⟩ k4 ?_
   obtain ⟨z5, k6, lz5, uz5⟩ := hH0.ld (c := 173) (i := 5) (A := 0) (B := 940) (bs_28_3 _ _ (by omega) (by omega))
   obtain ⟨z7, k8, lz7, uz7⟩ := hH0.ld (c := 173) (i := 7) (A := 0) (B := 4) (bs_28_4 _ _ (by omega) (by omega))
   refine jv_i c3 hm rfl pj_X12_readNamed rfl rfl ⟨_, _, _, rfl, sh_173⟩ rfl ((ct_X12_readNamed_173 X (by omega) M0 hH0 6 ⟨by omega, by omega⟩ z3 ⟨by omega, by omega⟩).le (by decide)) (fun z9 M13 ⟨hH13, hR13, lz9, uz9, p10, p11, p12⟩ => ?_)
   have hF13 := hF0.tr hR13 (by decide +kernel)
   obtain ⟨z14, k15, lz14, uz14⟩ := hH13.ld (c := 173) (i := 5) (A := 0) (B := 940) (bs_28_3 _ _ (by omega) (by omega))
   obtain ⟨z16, k17, lz16, uz16⟩ := hH13.ld (c := 173) (i := 13) (A := (-2147483648)) (B := 2147483647) (bs_28_7 _ _ (by omega) (by omega))
   exact jx_retz c2 hm rfl rfl ⟨by omega, by omega⟩ ⟨_, rfl, hH13, hF13, by omega, by omega, (by omega)⟩
  refine jx_load c1 hm rfl rfl rfl rfl ?_
  refine jy_bp c1 hm rfl (by decide) ?_
  refine jx_load c1 hm rfl rfl rfl rfl ?_
  refine jx_getr c1 hm rfl sh_173 rfl ?_
  refine jy_ic c1 hm rfl (by decide) ?_
  obtain ⟨z18, k19, lz18, uz18⟩ := hH0.ld (c := 175) (i := 2) (A := 0) (B := 6) (bs_11_0 _ _ (by omega) (by omega))
  refine jx_iald c1 hm rfl sh_175 ⟨by omega, by omega⟩ k19 ?_
  obtain ⟨z20, k21, lz20, uz20⟩ := hH0.ld (c := 173) (i := 5) (A := 0) (B := 940) (bs_28_3 _ _ (by omega) (by omega))
  obtain ⟨z22, k23, lz22, uz22⟩ := hH0.ld (c := 173) (i := 7) (A := 0) (B := 4) (bs_28_4 _ _ (by omega) (by omega))
  refine jv_i c3 hm rfl pj_X12_readNamed rfl rfl ⟨_, _, _, rfl, sh_173⟩ rfl ((ct_X12_readNamed_173 X (by omega) M0 hH0 12 ⟨by omega, by omega⟩ z18 ⟨by omega, by omega⟩).le (by decide)) (fun z24 M28 ⟨hH28, hR28, lz24, uz24, p25, p26, p27⟩ => ?_)
  have hF28 := hF0.tr hR28 (by decide +kernel)
  obtain ⟨z29, k30, lz29, uz29⟩ := hH28.ld (c := 173) (i := 5) (A := 0) (B := 940) (bs_28_3 _ _ (by omega) (by omega))
  obtain ⟨z31, k32, lz31, uz31⟩ := hH28.ld (c := 173) (i := 13) (A := (-2147483648)) (B := 2147483647) (bs_28_7 _ _ (by omega) (by omega))
  refine jx_goto c1 hm 53 rfl rfl ?_
  exact jx_retz c2 hm rfl rfl ⟨by omega, by omega⟩ ⟨_, rfl, hH28, hF28, by omega, by omega, (by omega)⟩
 refine jx_load c1 hm rfl rfl rfl rfl ?_
 refine jy_ic c1 hm rfl (by decide) ?_
 refine jx_load c1 hm rfl rfl rfl rfl ?_
 refine jx_getr c1 hm rfl sh_173 rfl ?_
 refine jy_ic c1 hm rfl (by decide) ?_
 obtain ⟨z33, k34, lz33, uz33⟩ := hH0.ld (c := 175) (i := 0) (A := 0) (B := 6) (bs_11_0 _ _ (by omega) (by omega))
 refine jx_iald c1 hm rfl sh_175 ⟨by omega, by omega⟩ k34 ?_
 obtain ⟨z35, k36, lz35, uz35⟩ := hH0.ld (c := 173) (i := 5) (A := 0) (B := 940) (bs_28_3 _ _ (by omega) (by omega))
 obtain ⟨z37, k38, lz37, uz37⟩ := hH0.ld (c := 173) (i := 7) (A := 0) (B := 4) (bs_28_4 _ _ (by omega) (by omega))
 refine jv_i c3 hm rfl pj_X12_readNamed rfl rfl ⟨_, _, _, rfl, sh_173⟩ rfl ((ct_X12_readNamed_173 X (by omega) M0 hH0 0 ⟨by omega, by omega⟩ z33 ⟨by omega, by omega⟩).le (by decide)) (fun z39 M43 ⟨hH43, hR43, lz39, uz39, p40, p41, p42⟩ => ?_)
 have hF43 := hF0.tr hR43 (by decide +kernel)
 obtain ⟨z44, k45, lz44, uz44⟩ := hH43.ld (c := 173) (i := 5) (A := 0) (B := 940) (bs_28_3 _ _ (by omega) (by omega))
 obtain ⟨z46, k47, lz46, uz46⟩ := hH43.ld (c := 173) (i := 13) (A := (-2147483648)) (B := 2147483647) (bs_28_7 _ _ (by omega) (by omega))
 refine jx_goto c1 hm 53 rfl rfl ?_
 exact jx_retz c2 hm rfl rfl ⟨by omega, by omega⟩ ⟨_, rfl, hH43, hF43, by omega, by omega, (by omega)⟩
def md_X12_readOf_173 : List (Nat × (Nat × Nat)) := [(173, (5, 5)), (173, (6, 6)), (173, (7, 7)), (173, (8, 8)), (173, (9, 9)), (173, (10, 10)), (173, (11, 11)), (173, (13, 13)), (173, (49, 49)), (173, (52, 52)), (197, (0, 236)), (197, (1, 237)), (197, (2, 238)), (197, (3, 239))]
theorem ct_X12_readOf_173 (X : Int) (hX : 0 ≤ X ∧ X ≤ 100000000) (M0 : JM) (hH0 : HI X M0) (a0 : Int) (ha0 : 17 ≤ a0 ∧ a0 ≤ 19) (hp0 : M0.1 173 49 ≤ 2 * M0.1 173 50) (hp1 : TRN M0 (M0.1 173 49)) : JOk shp PJ 6 168 [.inr (.inr (.inl 173)), .inl a0] M0 (jRi (fun v M' => HI X M' ∧ Fr md_X12_readOf_173 M0 M' ∧ 0 ≤ v ∧ v ≤ 1 ∧ (M'.1 173 51 = M0.1 173 51) ∧ (v = 0 ∨ M'.1 173 49 = M0.1 173 49 + 1) ∧ (M'.1 173 50 = M0.1 173 50) ∧ (v = 0 ∨ (0 ≤ M'.1 173 52 ∧ M'.1 173 52 < M'.1 173 49)) ∧ (v = 0 ∨ TRN M' (M'.1 173 49)) ∧ (v = 0 ∨ M0.1 173 49 ≤ M'.1 173 49))) := by
 refine ⟨jr_X12_readOf, pj_X12_readOf, fun F c1 c2 c3 => ?_⟩
 have hm := pj_X12_readOf
 change F 0 [some (.inr (.inr (.inl 173))), some (.inl a0)] [] M0
 have hF0 : Fr md_X12_readOf_173 M0 M0 := Fr.rf _ _
 obtain ⟨z1, k2, lz1, uz1⟩ := hH0.ld (c := 173) (i := 49) (A := 0) (B := 60) (bs_28_23 _ _ (by omega) (by omega))
 obtain ⟨z3, k4, lz3, uz3⟩ := hH0.ld (c := 173) (i := 50) (A := 0) (B := 20) (bs_28_24 _ _ (by omega) (by omega))
 obtain ⟨z5, k6, lz5, uz5⟩ := hH0.ld (c := 173) (i := 51) (A := 0) (B := 8) (bs_28_25 _ _ (by omega) (by omega))
 refine jx_load c1 hm rfl rfl rfl rfl ?_
 refine jx_load c1 hm rfl rfl rfl rfl ?_
 refine jv_i c3 hm rfl pj_X12_readWhich rfl rfl ⟨_, _, _, rfl, sh_173⟩ rfl ((ct_X12_readWhich_173 X (by omega) M0 hH0 a0 ⟨by omega, by omega⟩).le (by decide)) (fun z7 M9 ⟨hH9, hR9, lz7, uz7, p8⟩ => ?_)
 have hF9 := hF0.tr hR9 (by decide +kernel)
 obtain ⟨z10, k11, lz10, uz10⟩ := hH9.ld (c := 173) (i := 13) (A := (-2147483648)) (B := 2147483647) (bs_28_7 _ _ (by omega) (by omega))
 refine jz_ne c1 hm 10 rfl rfl (fun h12 => ?_) (fun h12 => ?_)
 ·
  refine jx_load c1 hm rfl rfl rfl rfl ?_
  refine jx_load c1 hm rfl rfl rfl rfl ?_
  refine jy_bp c1 hm rfl (by decide) ?_
  refine jx_load c1 hm rfl rfl rfl rfl ?_
  refine jy_add c1 hm (a0 + 50) rfl (by omega) ?_
  refine jx_load c1 hm rfl rfl rfl rfl ?_
  refine jx_geti c1 hm rfl sh_173 rfl k11 ?_
  refine jy_ic c1 hm rfl (by decide) ?_
  refine jy_ic c1 hm rfl (by decide) ?_
  have k13 : M9.1 173 49 = z1 := (hR9 173 49 (by decide +kernel)).trans k2
  refine jv_i c3 hm rfl pj_X12_saysOne rfl rfl ⟨_, _, _, rfl, sh_173⟩ rfl ((ct_X12_saysOne_173 X (by omega) M9 hH9 (a0 + 50) ⟨by omega, by omega⟩ z10 ⟨by omega, by omega⟩ 0 ⟨by omega, by omega⟩ 0 ⟨by omega, by omega⟩ (by omega) (TRN.cg hp1 (fun j => (hR9 197 j rfl)) (by omega)) ⟨by omega, by omega, by omega⟩).le (by decide)) (fun z14 M18 ⟨hH18, hR18, lz14, uz14, p15, p16, p17⟩ => ?_)
  have hF18 := hF9.tr hR18 (by decide +kernel)
  obtain ⟨z19, k20, lz19, uz19⟩ := hH18.ld (c := 173) (i := 49) (A := 0) (B := 60) (bs_28_23 _ _ (by omega) (by omega))
  skip
  obtain ⟨M21, e21, hH21, hF21, k21, n21, q21⟩ := mup hH18 hF18 (c := 173) (i := 52) (v := z14) (A := (-2147483648)) (B := 2147483647) (bs_28_26 _ _ (by omega)) ⟨by omega, by omega⟩ (jin_of 9 rfl ⟨by omega, by omega⟩)
  refine jm_puti c1 hm rfl sh_173 rfl e21 ?_
  refine jy_ic c1 hm rfl (by decide) ?_
  have k22 : M21.1 173 49 = z19 := (n21 173 49 (by decide)).trans k20
  have k23 : M21.1 173 50 = z3 := (n21 173 50 (by decide)).trans ((hR18 173 50 (by decide +kernel)).trans ((hR9 173 50 (by decide +kernel)).trans k4))
  have k24 : M21.1 173 51 = z5 := (n21 173 51 (by decide)).trans ((hR18 173 51 (by decide +kernel)).trans ((hR9 173 51 (by decide +kernel)).trans k6))
  exact jx_retz c2 hm rfl rfl ⟨by omega, by omega⟩ ⟨_, rfl, hH21, hF21, by omega, by omega, (by omega), (by omega), (by omega), (by omega), (Or.inr (TRN.cg p17 (fun j => (n21 197 j (fun h => absurd h.1 (by decide)))) (by omega))), (by omega)⟩
 refine jy_ic c1 hm rfl (by decide) ?_
 have k25 : M9.1 173 49 = z1 := (hR9 173 49 (by decide +kernel)).trans k2
 have k26 : M9.1 173 50 = z3 := (hR9 173 50 (by decide +kernel)).trans k4
 have k27 : M9.1 173 51 = z5 := (hR9 173 51 (by decide +kernel)).trans k6
 obtain ⟨z28, k29, lz28, uz28⟩ := hH9.ld (c := 173) (i := 52) (A := (-2147483648)) (B := 2147483647) (bs_28_26 _ _ (by omega))
 exact jx_retz c2 hm rfl rfl ⟨by omega, by omega⟩ ⟨_, rfl, hH9, hF9, by omega, by omega, (by omega), (by omega), (by omega), (by omega), (Or.inl rfl), (by omega)⟩
def md_X12_readCompare_173 : List (Nat × (Nat × Nat)) := [(173, (5, 5)), (173, (6, 6)), (173, (7, 7)), (173, (8, 8)), (173, (9, 9)), (173, (10, 10)), (173, (11, 11)), (173, (13, 13)), (173, (49, 49)), (173, (52, 52)), (197, (0, 236)), (197, (1, 237)), (197, (2, 238)), (197, (3, 239))]
theorem ct_X12_readCompare_173 (X : Int) (hX : 0 ≤ X ∧ X ≤ 100000000) (M0 : JM) (hH0 : HI X M0) (a0 : Int) (ha0 : 20 ≤ a0 ∧ a0 ≤ 23) (hp0 : M0.1 173 49 ≤ 2 * M0.1 173 50) (hp1 : TRN M0 (M0.1 173 49)) : JOk shp PJ 4 155 [.inr (.inr (.inl 173)), .inl a0] M0 (jRi (fun v M' => HI X M' ∧ Fr md_X12_readCompare_173 M0 M' ∧ 0 ≤ v ∧ v ≤ 1 ∧ (M'.1 173 51 = M0.1 173 51) ∧ (v = 0 ∨ M'.1 173 49 = M0.1 173 49 + 1) ∧ (M'.1 173 50 = M0.1 173 50) ∧ (v = 0 ∨ (0 ≤ M'.1 173 52 ∧ M'.1 173 52 < M'.1 173 49)) ∧ (v = 0 ∨ TRN M' (M'.1 173 49)) ∧ (v = 0 ∨ M0.1 173 49 ≤ M'.1 173 49))) := by
 refine ⟨jr_X12_readCompare, pj_X12_readCompare, fun F c1 c2 c3 => ?_⟩
 have hm := pj_X12_readCompare
 change F 0 [some (.inr (.inr (.inl 173))), some (.inl a0), none] [] M0
 have hF0 : Fr md_X12_readCompare_173 M0 M0 := Fr.rf _ _
 obtain ⟨z1, k2, lz1, uz1⟩ := hH0.ld (c := 173) (i := 49) (A := 0) (B := 60) (bs_28_23 _ _ (by omega) (by omega))
 obtain ⟨z3, k4, lz3, uz3⟩ := hH0.ld (c := 173) (i := 50) (A := 0) (B := 20) (bs_28_24 _ _ (by omega) (by omega))
 obtain ⟨z5, k6, lz5, uz5⟩ := hH0.ld (c := 173) (i := 51) (A := 0) (B := 8) (bs_28_25 _ _ (by omega) (by omega))
 refine jx_load c1 hm rfl rfl rfl rfl ?_
 refine jy_bp c1 hm rfl (by decide) ?_
 obtain ⟨z7, k8, lz7, uz7⟩ := hH0.ld (c := 173) (i := 7) (A := 0) (B := 4) (bs_28_4 _ _ (by omega) (by omega))
 refine jv_i c3 hm rfl pj_X12_isSign rfl rfl ⟨_, _, _, rfl, sh_173⟩ rfl ((ct_X12_isSign_173 X (by omega) M0 hH0 60 ⟨by omega, by omega⟩).le (by decide)) (fun z9 _ ⟨rfl, lz9, uz9, p10⟩ => ?_)
 have J27 : ∀ (h26 : 4 ≤ z7 ∧ z7 ≤ 4), F 33 [some (.inr (.inr (.inl 173))), some (.inl a0), none] [] M0 := by
  intro h26
  refine jx_load c1 hm rfl rfl rfl rfl ?_
  obtain ⟨z28, k29, lz28, uz28⟩ := hH0.ld (c := 173) (i := 9) (A := (-2147483648)) (B := 2147483647) (bs_28_5 _ _ (by omega) (by omega))
  refine jx_geti c1 hm rfl sh_173 rfl k29 ?_
  refine jx_stor c1 hm (L' := [some (.inr (.inr (.inl 173))), some (.inl a0), some (.inl z28)]) rfl rfl rfl rfl rfl ?_
  refine jx_load c1 hm rfl rfl rfl rfl ?_
  obtain ⟨z30, k31, lz30, uz30⟩ := hH0.ld (c := 173) (i := 5) (A := 0) (B := 940) (bs_28_3 _ _ (by omega) (by omega))
  refine jv_v c3 hm rfl pj_X12_go rfl rfl ⟨_, _, _, rfl, sh_173⟩ rfl ((ct_X12_go_173 X (by omega) M0 hH0 ).le (by decide)) (fun M34 ⟨hH34, hR34, p32, p33⟩ => ?_)
  have hF34 := hF0.tr hR34 (by decide +kernel)
  obtain ⟨z35, k36, lz35, uz35⟩ := hH34.ld (c := 173) (i := 5) (A := 0) (B := 940) (bs_28_3 _ _ (by omega) (by omega))
  obtain ⟨z37, k38, lz37, uz37⟩ := hH34.ld (c := 173) (i := 7) (A := 0) (B := 4) (bs_28_4 _ _ (by omega) (by omega))
  refine jx_load c1 hm rfl rfl rfl rfl ?_
  refine jy_ic c1 hm rfl (by decide) ?_
  refine jy_sp c1 hm rfl (by decide) ?_
  refine jv_i c3 hm rfl pj_X12_readNumber rfl rfl ⟨_, _, _, rfl, sh_173⟩ rfl ((ct_X12_readNumber_173 X (by omega) M34 hH34 0 ⟨by omega, by omega⟩ 999 ⟨by omega, by omega⟩).le (by decide)) (fun z39 M43 ⟨hH43, hR43, lz39, uz39, p40, p41, p42⟩ => ?_)
  have hF43 := hF34.tr hR43 (by decide +kernel)
  obtain ⟨z44, k45, lz44, uz44⟩ := hH43.ld (c := 173) (i := 5) (A := 0) (B := 940) (bs_28_3 _ _ (by omega) (by omega))
  obtain ⟨z46, k47, lz46, uz46⟩ := hH43.ld (c := 173) (i := 13) (A := (-2147483648)) (B := 2147483647) (bs_28_7 _ _ (by omega) (by omega))
  refine jz_ne c1 hm 55 rfl rfl (fun h48 => ?_) (fun h48 => ?_)
  ·
   refine jx_load c1 hm rfl rfl rfl rfl ?_
   refine jx_load c1 hm rfl rfl rfl rfl ?_
   refine jy_bp c1 hm rfl (by decide) ?_
   refine jx_load c1 hm rfl rfl rfl rfl ?_
   refine jy_add c1 hm (a0 + 50) rfl (by omega) ?_
   refine jy_ic c1 hm rfl (by decide) ?_
   refine jx_load c1 hm rfl rfl rfl rfl ?_
   refine jx_geti c1 hm rfl sh_173 rfl k47 ?_
   refine jx_load c1 hm rfl rfl rfl rfl ?_
   have k49 : M43.1 173 49 = z1 := (hR43 173 49 (by decide +kernel)).trans ((hR34 173 49 (by decide +kernel)).trans k2)
   refine jv_i c3 hm rfl pj_X12_saysOne rfl rfl ⟨_, _, _, rfl, sh_173⟩ rfl ((ct_X12_saysOne_173 X (by omega) M43 hH43 (a0 + 50) ⟨by omega, by omega⟩ 0 ⟨by omega, by omega⟩ z46 ⟨by omega, by omega⟩ z28 ⟨by omega, by omega⟩ (by omega) (TRN.cg hp1 (fun j => ((hR43 197 j rfl).trans (hR34 197 j rfl))) (by omega)) ⟨by omega, by omega, by omega⟩).le (by decide)) (fun z50 M54 ⟨hH54, hR54, lz50, uz50, p51, p52, p53⟩ => ?_)
   have hF54 := hF43.tr hR54 (by decide +kernel)
   obtain ⟨z55, k56, lz55, uz55⟩ := hH54.ld (c := 173) (i := 49) (A := 0) (B := 60) (bs_28_23 _ _ (by omega) (by omega))
   skip
   obtain ⟨M57, e57, hH57, hF57, k57, n57, q57⟩ := mup hH54 hF54 (c := 173) (i := 52) (v := z50) (A := (-2147483648)) (B := 2147483647) (bs_28_26 _ _ (by omega)) ⟨by omega, by omega⟩ (jin_of 9 rfl ⟨by omega, by omega⟩)
   refine jm_puti c1 hm rfl sh_173 rfl e57 ?_
   refine jy_ic c1 hm rfl (by decide) ?_
   have k58 : M57.1 173 49 = z55 := (n57 173 49 (by decide)).trans k56
   have k59 : M57.1 173 50 = z3 := (n57 173 50 (by decide)).trans ((hR54 173 50 (by decide +kernel)).trans ((hR43 173 50 (by decide +kernel)).trans ((hR34 173 50 (by decide +kernel)).trans k4)))
   have k60 : M57.1 173 51 = z5 := (n57 173 51 (by decide)).trans ((hR54 173 51 (by decide +kernel)).trans ((hR43 173 51 (by decide +kernel)).trans ((hR34 173 51 (by decide +kernel)).trans k6)))
   exact jx_retz c2 hm rfl rfl ⟨by omega, by omega⟩ ⟨_, rfl, hH57, hF57, by omega, by omega, (by omega), (by omega), (by omega), (by omega), (Or.inr (TRN.cg p53 (fun j => (n57 197 j (fun h => absurd h.1 (by decide)))) (by omega))), (by omega)⟩
  refine jy_ic c1 hm rfl (by decide) ?_
  have k61 : M43.1 173 49 = z1 := (hR43 173 49 (by decide +kernel)).trans ((hR34 173 49 (by decide +kernel)).trans k2)
  have k62 : M43.1 173 50 = z3 := (hR43 173 50 (by decide +kernel)).trans ((hR34 173 50 (by decide +kernel)).trans k4)
  have k63 : M43.1 173 51 = z5 := (hR43 173 51 (by decide +kernel)).trans ((hR34 173 51 (by decide +kernel)).trans k6)
  obtain ⟨z64, k65, lz64, uz64⟩ := hH43.ld (c := 173) (i := 52) (A := (-2147483648)) (B := 2147483647) (bs_28_26 _ _ (by omega))
  exact jx_retz c2 hm rfl rfl ⟨by omega, by omega⟩ ⟨_, rfl, hH43, hF43, by omega, by omega, (by omega), (by omega), (by omega), (by omega), (Or.inl rfl), (by omega)⟩
 refine jz_ne c1 hm 33 rfl rfl (fun h11 => ?_) (fun h11 => ?_)
 ·
  exact J27 (by omega)
 refine jx_load c1 hm rfl rfl rfl rfl ?_
 refine jy_bp c1 hm rfl (by decide) ?_
 refine jv_i c3 hm rfl pj_X12_isSign rfl rfl ⟨_, _, _, rfl, sh_173⟩ rfl ((ct_X12_isSign_173 X (by omega) M0 hH0 61 ⟨by omega, by omega⟩).le (by decide)) (fun z12 _ ⟨rfl, lz12, uz12, p13⟩ => ?_)
 refine jz_ne c1 hm 33 rfl rfl (fun h14 => ?_) (fun h14 => ?_)
 ·
  exact J27 (by omega)
 refine jx_load c1 hm rfl rfl rfl rfl ?_
 refine jy_bp c1 hm rfl (by decide) ?_
 refine jv_i c3 hm rfl pj_X12_isSign rfl rfl ⟨_, _, _, rfl, sh_173⟩ rfl ((ct_X12_isSign_173 X (by omega) M0 hH0 62 ⟨by omega, by omega⟩).le (by decide)) (fun z15 _ ⟨rfl, lz15, uz15, p16⟩ => ?_)
 refine jz_ne c1 hm 33 rfl rfl (fun h17 => ?_) (fun h17 => ?_)
 ·
  exact J27 (by omega)
 refine jx_load c1 hm rfl rfl rfl rfl ?_
 refine jy_ic c1 hm rfl (by decide) ?_
 refine jv_i c3 hm rfl pj_X12_bad rfl rfl ⟨_, _, _, rfl, sh_173⟩ rfl ((ct_X12_bad_173 X (by omega) M0 hH0 1 ⟨by omega, by omega⟩).le (by decide)) (fun z18 M20 ⟨hH20, hR20, lz18, uz18, p19⟩ => ?_)
 have hF20 := hF0.tr hR20 (by decide +kernel)
 have k21 : M20.1 173 49 = z1 := (hR20 173 49 (by decide +kernel)).trans k2
 have k22 : M20.1 173 50 = z3 := (hR20 173 50 (by decide +kernel)).trans k4
 have k23 : M20.1 173 51 = z5 := (hR20 173 51 (by decide +kernel)).trans k6
 obtain ⟨z24, k25, lz24, uz24⟩ := hH20.ld (c := 173) (i := 52) (A := (-2147483648)) (B := 2147483647) (bs_28_26 _ _ (by omega))
 exact jx_retz c2 hm rfl rfl ⟨by omega, by omega⟩ ⟨_, rfl, hH20, hF20, by omega, by omega, (by omega), (by omega), (by omega), (by omega), (Or.inl (by omega)), (by omega)⟩
def md_X12_readAnd_173 : List (Nat × (Nat × Nat)) := [(173, (5, 5)), (173, (6, 6)), (173, (7, 7)), (173, (8, 8)), (173, (9, 9)), (173, (10, 10)), (173, (11, 11)), (173, (13, 13)), (173, (49, 49)), (173, (50, 50)), (173, (51, 51)), (173, (52, 52)), (197, (0, 239))]
theorem ct_X12_readAnd_173 (n : Nat) (hy : ST_X12_readSaid_173 n) (X : Int) (hX : 0 ≤ X ∧ X ≤ 100000000) (M0 : JM) (hH0 : HI X M0) (hp0 : M0.1 173 49 ≤ 2 * M0.1 173 50) (hp1 : TRN M0 (M0.1 173 49)) (hr : 20 - M0.1 173 50 < (n : Int)) : JOk shp PJ (4 * n + 7 + 1) 152 [.inr (.inr (.inl 173))] M0 (jRi (fun v M' => HI X M' ∧ Fr md_X12_readAnd_173 M0 M' ∧ 0 ≤ v ∧ v ≤ 1 ∧ (M'.1 173 51 = M0.1 173 51) ∧ (v = 0 ∨ M'.1 173 49 - M0.1 173 49 ≤ 2 * (M'.1 173 50 - M0.1 173 50) - 1) ∧ (v = 0 ∨ M0.1 173 50 < M'.1 173 50) ∧ (v = 0 ∨ (0 ≤ M'.1 173 52 ∧ M'.1 173 52 < M'.1 173 49)) ∧ (v = 0 ∨ TRN M' (M'.1 173 49)) ∧ (v = 0 ∨ M0.1 173 49 ≤ M'.1 173 49))) := by
 refine ⟨jr_X12_readAnd, pj_X12_readAnd, fun F c1 c2 c3 => ?_⟩
 have hm := pj_X12_readAnd
 change F 0 [some (.inr (.inr (.inl 173))), none] [] M0
 have hF0 : Fr md_X12_readAnd_173 M0 M0 := Fr.rf _ _
 obtain ⟨z1, k2, lz1, uz1⟩ := hH0.ld (c := 173) (i := 49) (A := 0) (B := 60) (bs_28_23 _ _ (by omega) (by omega))
 obtain ⟨z3, k4, lz3, uz3⟩ := hH0.ld (c := 173) (i := 50) (A := 0) (B := 20) (bs_28_24 _ _ (by omega) (by omega))
 obtain ⟨z5, k6, lz5, uz5⟩ := hH0.ld (c := 173) (i := 51) (A := 0) (B := 8) (bs_28_25 _ _ (by omega) (by omega))
 refine jx_load c1 hm rfl rfl rfl rfl ?_
 refine jv_i c3 hm rfl pj_X12_readSaid rfl rfl ⟨_, _, _, rfl, sh_173⟩ rfl ((hy X (by omega) M0 hH0 (by omega) (TRN.cg hp1 (fun j => rfl) (by omega)) (by omega)).le (by omega)) (fun z7 M14 ⟨hH14, hR14, lz7, uz7, p8, p9, p10, p11, p12, p13⟩ => ?_)
 have hF14 := hF0.tr hR14 (by decide +kernel)
 obtain ⟨z15, k16, lz15, uz15⟩ := hH14.ld (c := 173) (i := 51) (A := 0) (B := 8) (bs_28_25 _ _ (by omega) (by omega))
 obtain ⟨z17, k18, lz17, uz17⟩ := hH14.ld (c := 173) (i := 49) (A := 0) (B := 60) (bs_28_23 _ _ (by omega) (by omega))
 obtain ⟨z19, k20, lz19, uz19⟩ := hH14.ld (c := 173) (i := 50) (A := 0) (B := 20) (bs_28_24 _ _ (by omega) (by omega))
 obtain ⟨z21, k22, lz21, uz21⟩ := hH14.ld (c := 173) (i := 52) (A := (-2147483648)) (B := 2147483647) (bs_28_26 _ _ (by omega))
 skip
 refine jz_ne c1 hm 9 rfl rfl (fun h23 => ?_) (fun h23 => ?_)
 ·
  refine jx_load c1 hm rfl rfl rfl rfl ?_
  refine jx_geti c1 hm rfl sh_173 rfl k22 ?_
  refine jx_stor c1 hm (L' := [some (.inr (.inr (.inl 173))), some (.inl z21)]) rfl rfl rfl rfl rfl ?_
  have W39 : ∀ (n40 : Nat) (b24 : Int) (hb24 : 0 ≤ b24 ∧ b24 ≤ 59) (M25 : JM) (hH25 : HI (X) M25) (hF25 : Fr md_X12_readAnd_173 M0 M25) (b26 : Int) (hb26 : 1 ≤ b26 ∧ b26 ≤ 60) (k27 : M25.1 173 49 = b26) (b28 : Int) (hb28 : 1 ≤ b28 ∧ b28 ≤ 20) (k29 : M25.1 173 50 = b28) (b30 : Int) (hb30 : 0 ≤ b30 ∧ b30 ≤ 8) (k31 : M25.1 173 51 = b30) (b32 : Int) (hb32 : 0 ≤ b32 ∧ b32 ≤ 59) (k33 : M25.1 173 52 = b32) (h34 : M25.1 173 51 = M0.1 173 51 ∧ M0.1 173 49 ≤ M25.1 173 49) (h35 : M25.1 173 49 - M0.1 173 49 ≤ 2 * (M25.1 173 50 - M0.1 173 50) - 1) (h36 : M0.1 173 50 < M25.1 173 50 ∧ M25.1 173 50 ≤ 20) (h37 : 0 ≤ b24 ∧ b24 < M25.1 173 49) (ht : TRN M25 (M25.1 173 49)), 20 - M25.1 173 50 < (n40 : Int) → F 14 [some (.inr (.inr (.inl 173))), some (.inl b24)] [] M25 := by
   intro n40
   induction n40 with
   | zero => intros; omega
   | succ n40 ihW39 =>
    intro b24 hb24 M25 hH25 hF25 b26 hb26 k27 b28 hb28 k29 b30 hb30 k31 b32 hb32 k33 h34 h35 h36 h37 ht hrW39
    refine jx_load c1 hm rfl rfl rfl rfl ?_
    skip
    refine jy_bp c1 hm rfl (by decide) ?_
    obtain ⟨z41, k42, lz41, uz41⟩ := hH25.ld (c := 173) (i := 7) (A := 0) (B := 4) (bs_28_4 _ _ (by omega) (by omega))
    refine jv_i c3 hm rfl pj_X12_isWord rfl rfl ⟨_, _, _, rfl, sh_173⟩ rfl ((ct_X12_isWord_173 X (by omega) M25 hH25 14 ⟨by omega, by omega⟩).le (by omega)) (fun z43 _ ⟨rfl, lz43, uz43, p44⟩ => ?_)
    refine jz_eq c1 hm 51 rfl rfl (fun h45 => ?_) (fun h45 => ?_)
    ·
     refine jx_load c1 hm rfl rfl rfl rfl ?_
     refine jx_load c1 hm rfl rfl rfl rfl ?_
     obtain ⟨M46, e46, hH46, hF46, k46, n46, q46⟩ := mup hH25 hF25 (c := 173) (i := 52) (v := b24) (A := (-2147483648)) (B := 2147483647) (bs_28_26 _ _ (by omega)) ⟨by omega, by omega⟩ (jin_of 11 rfl ⟨by omega, by omega⟩)
     refine jm_puti c1 hm rfl sh_173 rfl e46 ?_
     refine jy_ic c1 hm rfl (by decide) ?_
     have k47 : M46.1 173 49 = b26 := (n46 173 49 (by decide)).trans k27
     have k48 : M46.1 173 50 = b28 := (n46 173 50 (by decide)).trans k29
     have k49 : M46.1 173 51 = b30 := (n46 173 51 (by decide)).trans k31
     exact jx_retz c2 hm rfl rfl ⟨by omega, by omega⟩ ⟨_, rfl, hH46, hF46, by omega, by omega, (by omega), (by omega), (by omega), (by omega), (Or.inr (TRN.cg ht (fun j => (n46 197 j (fun h => absurd h.1 (by decide)))) (by omega))), (by omega)⟩
    refine jx_load c1 hm rfl rfl rfl rfl ?_
    obtain ⟨z50, k51, lz50, uz50⟩ := hH25.ld (c := 173) (i := 5) (A := 0) (B := 940) (bs_28_3 _ _ (by omega) (by omega))
    refine jv_v c3 hm rfl pj_X12_go rfl rfl ⟨_, _, _, rfl, sh_173⟩ rfl ((ct_X12_go_173 X (by omega) M25 hH25 ).le (by omega)) (fun M54 ⟨hH54, hR54, p52, p53⟩ => ?_)
    have hF54 := hF25.tr hR54 (by decide +kernel)
    obtain ⟨z55, k56, lz55, uz55⟩ := hH54.ld (c := 173) (i := 5) (A := 0) (B := 940) (bs_28_3 _ _ (by omega) (by omega))
    obtain ⟨z57, k58, lz57, uz57⟩ := hH54.ld (c := 173) (i := 7) (A := 0) (B := 4) (bs_28_4 _ _ (by omega) (by omega))
    refine jx_load c1 hm rfl rfl rfl rfl ?_
    have k59 : M54.1 173 49 = b26 := (hR54 173 49 (by decide +kernel)).trans k27
    have k60 : M54.1 173 50 = b28 := (hR54 173 50 (by decide +kernel)).trans k29
    have k61 : M54.1 173 51 = b30 := (hR54 173 51 (by decide +kernel)).trans k31
    refine jv_i c3 hm rfl pj_X12_readSaid rfl rfl ⟨_, _, _, rfl, sh_173⟩ rfl ((hy X (by omega) M54 hH54 (by omega) (TRN.cg ht (fun j => (hR54 197 j rfl)) (by omega)) (by omega)).le (by omega)) (fun z62 M69 ⟨hH69, hR69, lz62, uz62, p63, p64, p65, p66, p67, p68⟩ => ?_)
    have hF69 := hF54.tr hR69 (by decide +kernel)
    obtain ⟨z70, k71, lz70, uz70⟩ := hH69.ld (c := 173) (i := 51) (A := 0) (B := 8) (bs_28_25 _ _ (by omega) (by omega))
    obtain ⟨z72, k73, lz72, uz72⟩ := hH69.ld (c := 173) (i := 49) (A := 0) (B := 60) (bs_28_23 _ _ (by omega) (by omega))
    obtain ⟨z74, k75, lz74, uz74⟩ := hH69.ld (c := 173) (i := 50) (A := 0) (B := 20) (bs_28_24 _ _ (by omega) (by omega))
    obtain ⟨z76, k77, lz76, uz76⟩ := hH69.ld (c := 173) (i := 52) (A := (-2147483648)) (B := 2147483647) (bs_28_26 _ _ (by omega))
    skip
    refine jz_ne c1 hm 36 rfl rfl (fun h78 => ?_) (fun h78 => ?_)
    ·
     refine jx_load c1 hm rfl rfl rfl rfl ?_
     refine jy_ic c1 hm rfl (by decide) ?_
     refine jx_load c1 hm rfl rfl rfl rfl ?_
     refine jx_load c1 hm rfl rfl rfl rfl ?_
     refine jx_geti c1 hm rfl sh_173 rfl k77 ?_
     refine jy_ic c1 hm rfl (by decide) ?_
     refine jv_i c3 hm rfl pj_X12_saysOne rfl rfl ⟨_, _, _, rfl, sh_173⟩ rfl ((ct_X12_saysOne_173 X (by omega) M69 hH69 2 ⟨by omega, by omega⟩ b24 ⟨by omega, by omega⟩ z76 ⟨by omega, by omega⟩ 0 ⟨by omega, by omega⟩ (by omega) (TRN.cg (p67.resolve_left (by omega)) (fun j => rfl) (by omega)) ⟨by omega, fun _ => ⟨by omega, by omega, by omega, by omega⟩, by omega⟩).le (by omega)) (fun z79 M83 ⟨hH83, hR83, lz79, uz79, p80, p81, p82⟩ => ?_)
     have hF83 := hF69.tr hR83 (by decide +kernel)
     obtain ⟨z84, k85, lz84, uz84⟩ := hH83.ld (c := 173) (i := 49) (A := 0) (B := 60) (bs_28_23 _ _ (by omega) (by omega))
     skip
     refine jx_stor c1 hm (L' := [some (.inr (.inr (.inl 173))), some (.inl z79)]) rfl rfl rfl rfl rfl ?_
     refine jx_goto c1 hm 14 rfl rfl ?_
     have k86 : M83.1 173 50 = z74 := (hR83 173 50 (by decide +kernel)).trans k75
     have k87 : M83.1 173 51 = z70 := (hR83 173 51 (by decide +kernel)).trans k71
     have k88 : M83.1 173 52 = z76 := (hR83 173 52 (by decide +kernel)).trans k77
     exact ihW39 z79 (by omega) M83 hH83 hF83 z84 (by omega) k85 z74 (by omega) k86 z70 (by omega) k87 z76 (by omega) k88 (by omega) (by omega) (by omega) (by omega) (TRN.cg p82 (fun j => rfl) (by omega)) (by omega)
    refine jy_ic c1 hm rfl (by decide) ?_
    exact jx_retz c2 hm rfl rfl ⟨by omega, by omega⟩ ⟨_, rfl, hH69, hF69, by omega, by omega, (by omega), (by omega), (by omega), (by omega), (Or.inl rfl), (by omega)⟩
  exact W39 (20 - M14.1 173 50 + 1 : Int).toNat z21 (by omega) M14 hH14 hF14 z17 (by omega) k18 z19 (by omega) k20 z15 (by omega) k16 z21 (by omega) k22 (by omega) (by omega) (by omega) (by omega) (TRN.cg (p12.resolve_left (by omega)) (fun j => rfl) (by omega)) (by omega)
 refine jy_ic c1 hm rfl (by decide) ?_
 exact jx_retz c2 hm rfl rfl ⟨by omega, by omega⟩ ⟨_, rfl, hH14, hF14, by omega, by omega, (by omega), (by omega), (by omega), (by omega), (Or.inl rfl), (by omega)⟩
def md_X12_readOr_173 : List (Nat × (Nat × Nat)) := [(173, (5, 5)), (173, (6, 6)), (173, (7, 7)), (173, (8, 8)), (173, (9, 9)), (173, (10, 10)), (173, (11, 11)), (173, (13, 13)), (173, (49, 49)), (173, (50, 50)), (173, (51, 51)), (173, (52, 52)), (197, (0, 239))]
theorem ct_X12_readOr_173 (n : Nat) (hy : ST_X12_readSaid_173 n) (X : Int) (hX : 0 ≤ X ∧ X ≤ 100000000) (M0 : JM) (hH0 : HI X M0) (hp0 : M0.1 173 49 ≤ 2 * M0.1 173 50) (hp1 : TRN M0 (M0.1 173 49)) (hr : 20 - M0.1 173 50 < (n : Int)) : JOk shp PJ (4 * n + 7 + 2) 169 [.inr (.inr (.inl 173))] M0 (jRi (fun v M' => HI X M' ∧ Fr md_X12_readOr_173 M0 M' ∧ 0 ≤ v ∧ v ≤ 1 ∧ (M'.1 173 51 = M0.1 173 51) ∧ (v = 0 ∨ M'.1 173 49 - M0.1 173 49 ≤ 2 * (M'.1 173 50 - M0.1 173 50) - 1) ∧ (v = 0 ∨ M0.1 173 50 < M'.1 173 50) ∧ (v = 0 ∨ (0 ≤ M'.1 173 52 ∧ M'.1 173 52 < M'.1 173 49)) ∧ (v = 0 ∨ TRN M' (M'.1 173 49)) ∧ (v = 0 ∨ M0.1 173 49 ≤ M'.1 173 49))) := by
 refine ⟨jr_X12_readOr, pj_X12_readOr, fun F c1 c2 c3 => ?_⟩
 have hm := pj_X12_readOr
 change F 0 [some (.inr (.inr (.inl 173))), none] [] M0
 have hF0 : Fr md_X12_readOr_173 M0 M0 := Fr.rf _ _
 obtain ⟨z1, k2, lz1, uz1⟩ := hH0.ld (c := 173) (i := 49) (A := 0) (B := 60) (bs_28_23 _ _ (by omega) (by omega))
 obtain ⟨z3, k4, lz3, uz3⟩ := hH0.ld (c := 173) (i := 50) (A := 0) (B := 20) (bs_28_24 _ _ (by omega) (by omega))
 obtain ⟨z5, k6, lz5, uz5⟩ := hH0.ld (c := 173) (i := 51) (A := 0) (B := 8) (bs_28_25 _ _ (by omega) (by omega))
 refine jx_load c1 hm rfl rfl rfl rfl ?_
 refine jv_i c3 hm rfl pj_X12_readAnd rfl rfl ⟨_, _, _, rfl, sh_173⟩ rfl ((ct_X12_readAnd_173 n hy X (by omega) M0 hH0 (by omega) (TRN.cg hp1 (fun j => rfl) (by omega)) (by omega)).le (by omega)) (fun z7 M14 ⟨hH14, hR14, lz7, uz7, p8, p9, p10, p11, p12, p13⟩ => ?_)
 have hF14 := hF0.tr hR14 (by decide +kernel)
 obtain ⟨z15, k16, lz15, uz15⟩ := hH14.ld (c := 173) (i := 51) (A := 0) (B := 8) (bs_28_25 _ _ (by omega) (by omega))
 obtain ⟨z17, k18, lz17, uz17⟩ := hH14.ld (c := 173) (i := 49) (A := 0) (B := 60) (bs_28_23 _ _ (by omega) (by omega))
 obtain ⟨z19, k20, lz19, uz19⟩ := hH14.ld (c := 173) (i := 50) (A := 0) (B := 20) (bs_28_24 _ _ (by omega) (by omega))
 obtain ⟨z21, k22, lz21, uz21⟩ := hH14.ld (c := 173) (i := 52) (A := (-2147483648)) (B := 2147483647) (bs_28_26 _ _ (by omega))
 skip
 refine jz_ne c1 hm 9 rfl rfl (fun h23 => ?_) (fun h23 => ?_)
 ·
  refine jx_load c1 hm rfl rfl rfl rfl ?_
  refine jx_geti c1 hm rfl sh_173 rfl k22 ?_
  refine jx_stor c1 hm (L' := [some (.inr (.inr (.inl 173))), some (.inl z21)]) rfl rfl rfl rfl rfl ?_
  have W39 : ∀ (n40 : Nat) (b24 : Int) (hb24 : 0 ≤ b24 ∧ b24 ≤ 59) (M25 : JM) (hH25 : HI (X) M25) (hF25 : Fr md_X12_readOr_173 M0 M25) (b26 : Int) (hb26 : 1 ≤ b26 ∧ b26 ≤ 60) (k27 : M25.1 173 49 = b26) (b28 : Int) (hb28 : 1 ≤ b28 ∧ b28 ≤ 20) (k29 : M25.1 173 50 = b28) (b30 : Int) (hb30 : 0 ≤ b30 ∧ b30 ≤ 8) (k31 : M25.1 173 51 = b30) (b32 : Int) (hb32 : 0 ≤ b32 ∧ b32 ≤ 59) (k33 : M25.1 173 52 = b32) (h34 : M25.1 173 51 = M0.1 173 51 ∧ M0.1 173 49 ≤ M25.1 173 49) (h35 : M25.1 173 49 - M0.1 173 49 ≤ 2 * (M25.1 173 50 - M0.1 173 50) - 1) (h36 : M0.1 173 50 < M25.1 173 50 ∧ M25.1 173 50 ≤ 20) (h37 : 0 ≤ b24 ∧ b24 < M25.1 173 49) (ht : TRN M25 (M25.1 173 49)), 20 - M25.1 173 50 < (n40 : Int) → F 14 [some (.inr (.inr (.inl 173))), some (.inl b24)] [] M25 := by
   intro n40
   induction n40 with
   | zero => intros; omega
   | succ n40 ihW39 =>
    intro b24 hb24 M25 hH25 hF25 b26 hb26 k27 b28 hb28 k29 b30 hb30 k31 b32 hb32 k33 h34 h35 h36 h37 ht hrW39
    refine jx_load c1 hm rfl rfl rfl rfl ?_
    skip
    refine jy_bp c1 hm rfl (by decide) ?_
    obtain ⟨z41, k42, lz41, uz41⟩ := hH25.ld (c := 173) (i := 7) (A := 0) (B := 4) (bs_28_4 _ _ (by omega) (by omega))
    refine jv_i c3 hm rfl pj_X12_isWord rfl rfl ⟨_, _, _, rfl, sh_173⟩ rfl ((ct_X12_isWord_173 X (by omega) M25 hH25 13 ⟨by omega, by omega⟩).le (by omega)) (fun z43 _ ⟨rfl, lz43, uz43, p44⟩ => ?_)
    refine jz_eq c1 hm 51 rfl rfl (fun h45 => ?_) (fun h45 => ?_)
    ·
     refine jx_load c1 hm rfl rfl rfl rfl ?_
     refine jx_load c1 hm rfl rfl rfl rfl ?_
     obtain ⟨M46, e46, hH46, hF46, k46, n46, q46⟩ := mup hH25 hF25 (c := 173) (i := 52) (v := b24) (A := (-2147483648)) (B := 2147483647) (bs_28_26 _ _ (by omega)) ⟨by omega, by omega⟩ (jin_of 11 rfl ⟨by omega, by omega⟩)
     refine jm_puti c1 hm rfl sh_173 rfl e46 ?_
     refine jy_ic c1 hm rfl (by decide) ?_
     have k47 : M46.1 173 49 = b26 := (n46 173 49 (by decide)).trans k27
     have k48 : M46.1 173 50 = b28 := (n46 173 50 (by decide)).trans k29
     have k49 : M46.1 173 51 = b30 := (n46 173 51 (by decide)).trans k31
     exact jx_retz c2 hm rfl rfl ⟨by omega, by omega⟩ ⟨_, rfl, hH46, hF46, by omega, by omega, (by omega), (by omega), (by omega), (by omega), (Or.inr (TRN.cg ht (fun j => (n46 197 j (fun h => absurd h.1 (by decide)))) (by omega))), (by omega)⟩
    refine jx_load c1 hm rfl rfl rfl rfl ?_
    obtain ⟨z50, k51, lz50, uz50⟩ := hH25.ld (c := 173) (i := 5) (A := 0) (B := 940) (bs_28_3 _ _ (by omega) (by omega))
    refine jv_v c3 hm rfl pj_X12_go rfl rfl ⟨_, _, _, rfl, sh_173⟩ rfl ((ct_X12_go_173 X (by omega) M25 hH25 ).le (by omega)) (fun M54 ⟨hH54, hR54, p52, p53⟩ => ?_)
    have hF54 := hF25.tr hR54 (by decide +kernel)
    obtain ⟨z55, k56, lz55, uz55⟩ := hH54.ld (c := 173) (i := 5) (A := 0) (B := 940) (bs_28_3 _ _ (by omega) (by omega))
    obtain ⟨z57, k58, lz57, uz57⟩ := hH54.ld (c := 173) (i := 7) (A := 0) (B := 4) (bs_28_4 _ _ (by omega) (by omega))
    refine jx_load c1 hm rfl rfl rfl rfl ?_
    have k59 : M54.1 173 49 = b26 := (hR54 173 49 (by decide +kernel)).trans k27
    have k60 : M54.1 173 50 = b28 := (hR54 173 50 (by decide +kernel)).trans k29
    have k61 : M54.1 173 51 = b30 := (hR54 173 51 (by decide +kernel)).trans k31
    refine jv_i c3 hm rfl pj_X12_readAnd rfl rfl ⟨_, _, _, rfl, sh_173⟩ rfl ((ct_X12_readAnd_173 n hy X (by omega) M54 hH54 (by omega) (TRN.cg ht (fun j => (hR54 197 j rfl)) (by omega)) (by omega)).le (by omega)) (fun z62 M69 ⟨hH69, hR69, lz62, uz62, p63, p64, p65, p66, p67, p68⟩ => ?_)
    have hF69 := hF54.tr hR69 (by decide +kernel)
    obtain ⟨z70, k71, lz70, uz70⟩ := hH69.ld (c := 173) (i := 51) (A := 0) (B := 8) (bs_28_25 _ _ (by omega) (by omega))
    obtain ⟨z72, k73, lz72, uz72⟩ := hH69.ld (c := 173) (i := 49) (A := 0) (B := 60) (bs_28_23 _ _ (by omega) (by omega))
    obtain ⟨z74, k75, lz74, uz74⟩ := hH69.ld (c := 173) (i := 50) (A := 0) (B := 20) (bs_28_24 _ _ (by omega) (by omega))
    obtain ⟨z76, k77, lz76, uz76⟩ := hH69.ld (c := 173) (i := 52) (A := (-2147483648)) (B := 2147483647) (bs_28_26 _ _ (by omega))
    skip
    refine jz_ne c1 hm 36 rfl rfl (fun h78 => ?_) (fun h78 => ?_)
    ·
     refine jx_load c1 hm rfl rfl rfl rfl ?_
     refine jy_ic c1 hm rfl (by decide) ?_
     refine jx_load c1 hm rfl rfl rfl rfl ?_
     refine jx_load c1 hm rfl rfl rfl rfl ?_
     refine jx_geti c1 hm rfl sh_173 rfl k77 ?_
     refine jy_ic c1 hm rfl (by decide) ?_
     refine jv_i c3 hm rfl pj_X12_saysOne rfl rfl ⟨_, _, _, rfl, sh_173⟩ rfl ((ct_X12_saysOne_173 X (by omega) M69 hH69 3 ⟨by omega, by omega⟩ b24 ⟨by omega, by omega⟩ z76 ⟨by omega, by omega⟩ 0 ⟨by omega, by omega⟩ (by omega) (TRN.cg (p67.resolve_left (by omega)) (fun j => rfl) (by omega)) ⟨by omega, fun _ => ⟨by omega, by omega, by omega, by omega⟩, by omega⟩).le (by omega)) (fun z79 M83 ⟨hH83, hR83, lz79, uz79, p80, p81, p82⟩ => ?_)
     have hF83 := hF69.tr hR83 (by decide +kernel)
     obtain ⟨z84, k85, lz84, uz84⟩ := hH83.ld (c := 173) (i := 49) (A := 0) (B := 60) (bs_28_23 _ _ (by omega) (by omega))
     skip
     refine jx_stor c1 hm (L' := [some (.inr (.inr (.inl 173))), some (.inl z79)]) rfl rfl rfl rfl rfl ?_
     refine jx_goto c1 hm 14 rfl rfl ?_
     have k86 : M83.1 173 50 = z74 := (hR83 173 50 (by decide +kernel)).trans k75
     have k87 : M83.1 173 51 = z70 := (hR83 173 51 (by decide +kernel)).trans k71
     have k88 : M83.1 173 52 = z76 := (hR83 173 52 (by decide +kernel)).trans k77
     exact ihW39 z79 (by omega) M83 hH83 hF83 z84 (by omega) k85 z74 (by omega) k86 z70 (by omega) k87 z76 (by omega) k88 (by omega) (by omega) (by omega) (by omega) (TRN.cg p82 (fun j => rfl) (by omega)) (by omega)
    refine jy_ic c1 hm rfl (by decide) ?_
    exact jx_retz c2 hm rfl rfl ⟨by omega, by omega⟩ ⟨_, rfl, hH69, hF69, by omega, by omega, (by omega), (by omega), (by omega), (by omega), (Or.inl rfl), (by omega)⟩
  exact W39 (20 - M14.1 173 50 + 1 : Int).toNat z21 (by omega) M14 hH14 hF14 z17 (by omega) k18 z19 (by omega) k20 z15 (by omega) k16 z21 (by omega) k22 (by omega) (by omega) (by omega) (by omega) (TRN.cg (p12.resolve_left (by omega)) (fun j => rfl) (by omega)) (by omega)
 refine jy_ic c1 hm rfl (by decide) ?_
 exact jx_retz c2 hm rfl rfl ⟨by omega, by omega⟩ ⟨_, rfl, hH14, hF14, by omega, by omega, (by omega), (by omega), (by omega), (by omega), (Or.inl rfl), (by omega)⟩
def md_X12_readBracket_173 : List (Nat × (Nat × Nat)) := [(173, (5, 5)), (173, (6, 6)), (173, (7, 7)), (173, (8, 8)), (173, (9, 9)), (173, (10, 10)), (173, (11, 11)), (173, (13, 13)), (173, (49, 49)), (173, (50, 50)), (173, (51, 51)), (173, (52, 52)), (197, (0, 239))]
theorem ct_X12_readBracket_173 (n : Nat) (hy : ST_X12_readSaid_173 n) (X : Int) (hX : 0 ≤ X ∧ X ≤ 100000000) (M0 : JM) (hH0 : HI X M0) (hp0 : M0.1 173 49 ≤ 2 * M0.1 173 50) (hp1 : TRN M0 (M0.1 173 49)) (hr : 20 - M0.1 173 50 < (n : Int)) : JOk shp PJ (4 * n + 7 + 3) 154 [.inr (.inr (.inl 173))] M0 (jRi (fun v M' => HI X M' ∧ Fr md_X12_readBracket_173 M0 M' ∧ 0 ≤ v ∧ v ≤ 1 ∧ (M'.1 173 51 = M0.1 173 51) ∧ (v = 0 ∨ M'.1 173 49 - M0.1 173 49 ≤ 2 * (M'.1 173 50 - M0.1 173 50) - 1) ∧ (v = 0 ∨ M0.1 173 50 < M'.1 173 50) ∧ (v = 0 ∨ (0 ≤ M'.1 173 52 ∧ M'.1 173 52 < M'.1 173 49)) ∧ (v = 0 ∨ TRN M' (M'.1 173 49)) ∧ (v = 0 ∨ M0.1 173 49 ≤ M'.1 173 49))) := by
 refine ⟨jr_X12_readBracket, pj_X12_readBracket, fun F c1 c2 c3 => ?_⟩
 have hm := pj_X12_readBracket
 change F 0 [some (.inr (.inr (.inl 173)))] [] M0
 have hF0 : Fr md_X12_readBracket_173 M0 M0 := Fr.rf _ _
 obtain ⟨z1, k2, lz1, uz1⟩ := hH0.ld (c := 173) (i := 49) (A := 0) (B := 60) (bs_28_23 _ _ (by omega) (by omega))
 obtain ⟨z3, k4, lz3, uz3⟩ := hH0.ld (c := 173) (i := 50) (A := 0) (B := 20) (bs_28_24 _ _ (by omega) (by omega))
 obtain ⟨z5, k6, lz5, uz5⟩ := hH0.ld (c := 173) (i := 51) (A := 0) (B := 8) (bs_28_25 _ _ (by omega) (by omega))
 refine jx_load c1 hm rfl rfl rfl rfl ?_
 refine jv_i c3 hm rfl pj_X12_readOr rfl rfl ⟨_, _, _, rfl, sh_173⟩ rfl ((ct_X12_readOr_173 n hy X (by omega) M0 hH0 (by omega) (TRN.cg hp1 (fun j => rfl) (by omega)) (by omega)).le (by omega)) (fun z7 M14 ⟨hH14, hR14, lz7, uz7, p8, p9, p10, p11, p12, p13⟩ => ?_)
 have hF14 := hF0.tr hR14 (by decide +kernel)
 obtain ⟨z15, k16, lz15, uz15⟩ := hH14.ld (c := 173) (i := 51) (A := 0) (B := 8) (bs_28_25 _ _ (by omega) (by omega))
 obtain ⟨z17, k18, lz17, uz17⟩ := hH14.ld (c := 173) (i := 49) (A := 0) (B := 60) (bs_28_23 _ _ (by omega) (by omega))
 obtain ⟨z19, k20, lz19, uz19⟩ := hH14.ld (c := 173) (i := 50) (A := 0) (B := 20) (bs_28_24 _ _ (by omega) (by omega))
 obtain ⟨z21, k22, lz21, uz21⟩ := hH14.ld (c := 173) (i := 52) (A := (-2147483648)) (B := 2147483647) (bs_28_26 _ _ (by omega))
 skip
 refine jz_ne c1 hm 9 rfl rfl (fun h23 => ?_) (fun h23 => ?_)
 ·
  refine jx_load c1 hm rfl rfl rfl rfl ?_
  refine jy_bp c1 hm rfl (by decide) ?_
  obtain ⟨z24, k25, lz24, uz24⟩ := hH14.ld (c := 173) (i := 7) (A := 0) (B := 4) (bs_28_4 _ _ (by omega) (by omega))
  refine jv_i c3 hm rfl pj_X12_isSign rfl rfl ⟨_, _, _, rfl, sh_173⟩ rfl ((ct_X12_isSign_173 X (by omega) M14 hH14 41 ⟨by omega, by omega⟩).le (by omega)) (fun z26 _ ⟨rfl, lz26, uz26, p27⟩ => ?_)
  refine jz_ne c1 hm 24 rfl rfl (fun h28 => ?_) (fun h28 => ?_)
  ·
   refine jx_load c1 hm rfl rfl rfl rfl ?_
   obtain ⟨z29, k30, lz29, uz29⟩ := hH14.ld (c := 173) (i := 5) (A := 0) (B := 940) (bs_28_3 _ _ (by omega) (by omega))
   refine jv_v c3 hm rfl pj_X12_go rfl rfl ⟨_, _, _, rfl, sh_173⟩ rfl ((ct_X12_go_173 X (by omega) M14 hH14 ).le (by omega)) (fun M33 ⟨hH33, hR33, p31, p32⟩ => ?_)
   have hF33 := hF14.tr hR33 (by decide +kernel)
   obtain ⟨z34, k35, lz34, uz34⟩ := hH33.ld (c := 173) (i := 5) (A := 0) (B := 940) (bs_28_3 _ _ (by omega) (by omega))
   obtain ⟨z36, k37, lz36, uz36⟩ := hH33.ld (c := 173) (i := 7) (A := 0) (B := 4) (bs_28_4 _ _ (by omega) (by omega))
   refine jy_ic c1 hm rfl (by decide) ?_
   have k38 : M33.1 173 49 = z17 := (hR33 173 49 (by decide +kernel)).trans k18
   have k39 : M33.1 173 50 = z19 := (hR33 173 50 (by decide +kernel)).trans k20
   have k40 : M33.1 173 51 = z15 := (hR33 173 51 (by decide +kernel)).trans k16
   have k41 : M33.1 173 52 = z21 := (hR33 173 52 (by decide +kernel)).trans k22
   exact jx_retz c2 hm rfl rfl ⟨by omega, by omega⟩ ⟨_, rfl, hH33, hF33, by omega, by omega, (by omega), (by omega), (by omega), (by omega), (Or.inr (TRN.cg (p12.resolve_left (by omega)) (fun j => (hR33 197 j rfl)) (by omega))), (by omega)⟩
  refine jx_load c1 hm rfl rfl rfl rfl ?_
  refine jy_ic c1 hm rfl (by decide) ?_
  refine jv_i c3 hm rfl pj_X12_bad rfl rfl ⟨_, _, _, rfl, sh_173⟩ rfl ((ct_X12_bad_173 X (by omega) M14 hH14 1 ⟨by omega, by omega⟩).le (by omega)) (fun z42 M44 ⟨hH44, hR44, lz42, uz42, p43⟩ => ?_)
  have hF44 := hF14.tr hR44 (by decide +kernel)
  have k45 : M44.1 173 49 = z17 := (hR44 173 49 (by decide +kernel)).trans k18
  have k46 : M44.1 173 50 = z19 := (hR44 173 50 (by decide +kernel)).trans k20
  have k47 : M44.1 173 51 = z15 := (hR44 173 51 (by decide +kernel)).trans k16
  have k48 : M44.1 173 52 = z21 := (hR44 173 52 (by decide +kernel)).trans k22
  exact jx_retz c2 hm rfl rfl ⟨by omega, by omega⟩ ⟨_, rfl, hH44, hF44, by omega, by omega, (by omega), (by omega), (by omega), (by omega), (Or.inl (by omega)), (by omega)⟩
 refine jy_ic c1 hm rfl (by decide) ?_
 exact jx_retz c2 hm rfl rfl ⟨by omega, by omega⟩ ⟨_, rfl, hH14, hF14, by omega, by omega, (by omega), (by omega), (by omega), (by omega), (Or.inl rfl), (by omega)⟩
theorem ct_X12_readSaid_173 : ∀ n : Nat, ST_X12_readSaid_173 n := by
 intro n
 induction n with
 | zero =>
  unfold ST_X12_readSaid_173
  intro X hX M0 hH0 hp0 hp1 hr; obtain ⟨z, k, l, u⟩ := hH0.ld (c := 173) (i := 50) (A := 0) (B := 20) (bs_28_24 _ _ (by omega) (by omega)); omega
 | succ n ih =>
  unfold ST_X12_readSaid_173
  intro X hX M0 hH0 hp0 hp1 hr
  refine ⟨jr_X12_readSaid, pj_X12_readSaid, fun F c1 c2 c3 => ?_⟩
  have hm := pj_X12_readSaid
  change F 0 [some (.inr (.inr (.inl 173))), none, none, none] [] M0
  have hF0 : Fr md_X12_readSaid_173 M0 M0 := Fr.rf _ _
  obtain ⟨z1, k2, lz1, uz1⟩ := hH0.ld (c := 173) (i := 49) (A := 0) (B := 60) (bs_28_23 _ _ (by omega) (by omega))
  obtain ⟨z3, k4, lz3, uz3⟩ := hH0.ld (c := 173) (i := 50) (A := 0) (B := 20) (bs_28_24 _ _ (by omega) (by omega))
  obtain ⟨z5, k6, lz5, uz5⟩ := hH0.ld (c := 173) (i := 51) (A := 0) (B := 8) (bs_28_25 _ _ (by omega) (by omega))
  refine jx_load c1 hm rfl rfl rfl rfl ?_
  refine jy_bp c1 hm rfl (by decide) ?_
  obtain ⟨z7, k8, lz7, uz7⟩ := hH0.ld (c := 173) (i := 7) (A := 0) (B := 4) (bs_28_4 _ _ (by omega) (by omega))
  refine jv_i c3 hm rfl pj_X12_isSign rfl rfl ⟨_, _, _, rfl, sh_173⟩ rfl ((ct_X12_isSign_173 X (by omega) M0 hH0 40 ⟨by omega, by omega⟩).le (by omega)) (fun z9 _ ⟨rfl, lz9, uz9, p10⟩ => ?_)
  refine jx_stor c1 hm (L' := [some (.inr (.inr (.inl 173))), some (.inl z9), none, none]) rfl rfl rfl rfl rfl ?_
  refine jy_bp c1 hm rfl (by decide) ?_
  refine jx_stor c1 hm (L' := [some (.inr (.inr (.inl 173))), some (.inl z9), some (.inl 15), none]) rfl rfl rfl rfl rfl ?_
  have W12 : ∀ (n13 : Nat) (b11 : Int) (hb11 : 15 ≤ b11 ∧ b11 ≤ 24), (-b11 + 24) < (n13 : Int) → F 10 [some (.inr (.inr (.inl 173))), some (.inl z9), some (.inl b11), none] [] M0 := by
   intro n13
   induction n13 with
   | zero => intros; omega
   | succ n13 ihW12 =>
    intro b11 hb11 hrW12
    refine jx_load c1 hm rfl rfl rfl rfl ?_
    refine jy_bp c1 hm rfl (by decide) ?_
    have J18 : F 30 [some (.inr (.inr (.inl 173))), some (.inl z9), some (.inl b11), none] [] M0 := by
     refine jx_load c1 hm rfl rfl rfl rfl ?_
     refine jz_ne c1 hm 46 rfl rfl (fun h19 => ?_) (fun h19 => ?_)
     ·
      refine jx_load c1 hm rfl rfl rfl rfl ?_
      refine jx_geti c1 hm rfl sh_173 rfl k4 ?_
      refine jy_bp c1 hm rfl (by decide) ?_
      refine jc_eq c1 hm 64 rfl rfl (fun h20 => ?_) (fun h20 => ?_)
      ·
       refine jx_load c1 hm rfl rfl rfl rfl ?_
       refine jy_ic c1 hm rfl (by decide) ?_
       refine jv_i c3 hm rfl pj_X12_bad rfl rfl ⟨_, _, _, rfl, sh_173⟩ rfl ((ct_X12_bad_173 X (by omega) M0 hH0 4 ⟨by omega, by omega⟩).le (by omega)) (fun z21 M23 ⟨hH23, hR23, lz21, uz21, p22⟩ => ?_)
       have hF23 := hF0.tr hR23 (by decide +kernel)
       have k24 : M23.1 173 49 = z1 := (hR23 173 49 (by decide +kernel)).trans k2
       have k25 : M23.1 173 50 = z3 := (hR23 173 50 (by decide +kernel)).trans k4
       have k26 : M23.1 173 51 = z5 := (hR23 173 51 (by decide +kernel)).trans k6
       obtain ⟨z27, k28, lz27, uz27⟩ := hH23.ld (c := 173) (i := 52) (A := (-2147483648)) (B := 2147483647) (bs_28_26 _ _ (by omega))
       exact jx_retz c2 hm rfl rfl ⟨by omega, by omega⟩ ⟨_, rfl, hH23, hF23, by omega, by omega, (by omega), (by omega), (by omega), (by omega), (Or.inl (by omega)), (by omega)⟩
      refine jx_load c1 hm rfl rfl rfl rfl ?_
      refine jx_geti c1 hm rfl sh_173 rfl k6 ?_
      refine jy_bp c1 hm rfl (by decide) ?_
      refine jc_ne c1 hm 70 rfl rfl (fun h29 => ?_) (fun h29 => ?_)
      ·
       refine jx_load c1 hm rfl rfl rfl rfl ?_
       refine jx_dup c1 hm rfl rfl ?_
       refine jx_geti c1 hm rfl sh_173 rfl k4 ?_
       refine jy_ic c1 hm rfl (by decide) ?_
       refine jy_add c1 hm (z3 + 1) rfl (by omega) ?_
       obtain ⟨M30, e30, hH30, hF30, k30, n30, q30⟩ := mup hH0 hF0 (c := 173) (i := 50) (v := (z3 + 1)) (A := 0) (B := 20) (bs_28_24 _ _ (by omega) (by omega)) ⟨by omega, by omega⟩ (jin_of 9 rfl ⟨by omega, by omega⟩)
       refine jm_puti c1 hm rfl sh_173 rfl e30 ?_
       refine jx_load c1 hm rfl rfl rfl rfl ?_
       refine jx_dup c1 hm rfl rfl ?_
       have k31 : M30.1 173 51 = z5 := (n30 173 51 (by decide)).trans k6
       refine jx_geti c1 hm rfl sh_173 rfl k31 ?_
       refine jy_ic c1 hm rfl (by decide) ?_
       refine jy_add c1 hm (z5 + 1) rfl (by omega) ?_
       obtain ⟨M32, e32, hH32, hF32, k32, n32, q32⟩ := mup hH30 hF30 (c := 173) (i := 51) (v := (z5 + 1)) (A := 0) (B := 8) (bs_28_25 _ _ (by omega) (by omega)) ⟨by omega, by omega⟩ (jin_of 10 rfl ⟨by omega, by omega⟩)
       refine jm_puti c1 hm rfl sh_173 rfl e32 ?_
       refine jx_load c1 hm rfl rfl rfl rfl ?_
       obtain ⟨z33, k34, lz33, uz33⟩ := hH32.ld (c := 173) (i := 5) (A := 0) (B := 940) (bs_28_3 _ _ (by omega) (by omega))
       refine jv_v c3 hm rfl pj_X12_go rfl rfl ⟨_, _, _, rfl, sh_173⟩ rfl ((ct_X12_go_173 X (by omega) M32 hH32 ).le (by omega)) (fun M37 ⟨hH37, hR37, p35, p36⟩ => ?_)
       have hF37 := hF32.tr hR37 (by decide +kernel)
       obtain ⟨z38, k39, lz38, uz38⟩ := hH37.ld (c := 173) (i := 5) (A := 0) (B := 940) (bs_28_3 _ _ (by omega) (by omega))
       obtain ⟨z40, k41, lz40, uz40⟩ := hH37.ld (c := 173) (i := 7) (A := 0) (B := 4) (bs_28_4 _ _ (by omega) (by omega))
       refine jy_ic c1 hm rfl (by decide) ?_
       refine jx_stor c1 hm (L' := [some (.inr (.inr (.inl 173))), some (.inl z9), some (.inl b11), some (.inl 1)]) rfl rfl rfl rfl rfl ?_
       refine jx_load c1 hm rfl rfl rfl rfl ?_
       refine jz_eq c1 hm 108 rfl rfl (fun h42 => ?_) (fun h42 => ?_)
       ·
        exfalso; omega
       refine jx_load c1 hm rfl rfl rfl rfl ?_
       have k43 : M37.1 173 49 = z1 := (hR37 173 49 (by decide +kernel)).trans ((n32 173 49 (by decide)).trans ((n30 173 49 (by decide)).trans k2))
       have k44 : M37.1 173 50 = (z3 + 1) := (hR37 173 50 (by decide +kernel)).trans ((n32 173 50 (by decide)).trans k30)
       have k45 : M37.1 173 51 = (z5 + 1) := (hR37 173 51 (by decide +kernel)).trans k32
       refine jv_i c3 hm rfl pj_X12_readBracket rfl rfl ⟨_, _, _, rfl, sh_173⟩ rfl ((ct_X12_readBracket_173 n ih X (by omega) M37 hH37 (by omega) (TRN.cg hp1 (fun j => (((hR37 197 j rfl).trans (n32 197 j (fun h => absurd h.1 (by decide)))).trans (n30 197 j (fun h => absurd h.1 (by decide))))) (by omega)) (by omega)).le (by omega)) (fun z46 M53 ⟨hH53, hR53, lz46, uz46, p47, p48, p49, p50, p51, p52⟩ => ?_)
       have hF53 := hF37.tr hR53 (by decide +kernel)
       obtain ⟨z54, k55, lz54, uz54⟩ := hH53.ld (c := 173) (i := 51) (A := 0) (B := 8) (bs_28_25 _ _ (by omega) (by omega))
       obtain ⟨z56, k57, lz56, uz56⟩ := hH53.ld (c := 173) (i := 49) (A := 0) (B := 60) (bs_28_23 _ _ (by omega) (by omega))
       obtain ⟨z58, k59, lz58, uz58⟩ := hH53.ld (c := 173) (i := 50) (A := 0) (B := 20) (bs_28_24 _ _ (by omega) (by omega))
       obtain ⟨z60, k61, lz60, uz60⟩ := hH53.ld (c := 173) (i := 52) (A := (-2147483648)) (B := 2147483647) (bs_28_26 _ _ (by omega))
       skip
       refine jx_stor c1 hm (L' := [some (.inr (.inr (.inl 173))), some (.inl z9), some (.inl b11), some (.inl z46)]) rfl rfl rfl rfl rfl ?_
       refine jx_goto c1 hm 166 rfl rfl ?_
       refine jx_load c1 hm rfl rfl rfl rfl ?_
       refine jx_dup c1 hm rfl rfl ?_
       refine jx_geti c1 hm rfl sh_173 rfl k55 ?_
       refine jy_ic c1 hm rfl (by decide) ?_
       refine jy_sub c1 hm (z54 - 1) rfl (by omega) ?_
       obtain ⟨M62, e62, hH62, hF62, k62, n62, q62⟩ := mup hH53 hF53 (c := 173) (i := 51) (v := (z54 - 1)) (A := 0) (B := 8) (bs_28_25 _ _ (by omega) (by omega)) ⟨by omega, by omega⟩ (jin_of 10 rfl ⟨by omega, by omega⟩)
       refine jm_puti c1 hm rfl sh_173 rfl e62 ?_
       refine jx_load c1 hm rfl rfl rfl rfl ?_
       have k63 : M62.1 173 49 = z56 := (n62 173 49 (by decide)).trans k57
       have k64 : M62.1 173 50 = z58 := (n62 173 50 (by decide)).trans k59
       have k65 : M62.1 173 52 = z60 := (n62 173 52 (by decide)).trans k61
       exact jx_retz c2 hm rfl rfl ⟨by omega, by omega⟩ ⟨_, rfl, hH62, hF62, by omega, by omega, (by omega), (by omega), (by omega), (by omega), (Or.imp id (fun ht => TRN.cg ht (fun j => (n62 197 j (fun h => absurd h.1 (by decide)))) (by omega)) p51), (by omega)⟩
      refine jx_load c1 hm rfl rfl rfl rfl ?_
      refine jy_ic c1 hm rfl (by decide) ?_
      refine jv_i c3 hm rfl pj_X12_bad rfl rfl ⟨_, _, _, rfl, sh_173⟩ rfl ((ct_X12_bad_173 X (by omega) M0 hH0 4 ⟨by omega, by omega⟩).le (by omega)) (fun z66 M68 ⟨hH68, hR68, lz66, uz66, p67⟩ => ?_)
      have hF68 := hF0.tr hR68 (by decide +kernel)
      have k69 : M68.1 173 49 = z1 := (hR68 173 49 (by decide +kernel)).trans k2
      have k70 : M68.1 173 50 = z3 := (hR68 173 50 (by decide +kernel)).trans k4
      have k71 : M68.1 173 51 = z5 := (hR68 173 51 (by decide +kernel)).trans k6
      obtain ⟨z72, k73, lz72, uz72⟩ := hH68.ld (c := 173) (i := 52) (A := (-2147483648)) (B := 2147483647) (bs_28_26 _ _ (by omega))
      exact jx_retz c2 hm rfl rfl ⟨by omega, by omega⟩ ⟨_, rfl, hH68, hF68, by omega, by omega, (by omega), (by omega), (by omega), (by omega), (Or.inl (by omega)), (by omega)⟩
     refine jx_load c1 hm rfl rfl rfl rfl ?_
     refine jy_bp c1 hm rfl (by decide) ?_
     refine jc_le c1 hm 46 rfl rfl (fun h74 => ?_) (fun h74 => ?_)
     ·
      refine jx_load c1 hm rfl rfl rfl rfl ?_
      refine jx_geti c1 hm rfl sh_173 rfl k4 ?_
      refine jy_bp c1 hm rfl (by decide) ?_
      refine jc_eq c1 hm 64 rfl rfl (fun h75 => ?_) (fun h75 => ?_)
      ·
       refine jx_load c1 hm rfl rfl rfl rfl ?_
       refine jy_ic c1 hm rfl (by decide) ?_
       refine jv_i c3 hm rfl pj_X12_bad rfl rfl ⟨_, _, _, rfl, sh_173⟩ rfl ((ct_X12_bad_173 X (by omega) M0 hH0 4 ⟨by omega, by omega⟩).le (by omega)) (fun z76 M78 ⟨hH78, hR78, lz76, uz76, p77⟩ => ?_)
       have hF78 := hF0.tr hR78 (by decide +kernel)
       have k79 : M78.1 173 49 = z1 := (hR78 173 49 (by decide +kernel)).trans k2
       have k80 : M78.1 173 50 = z3 := (hR78 173 50 (by decide +kernel)).trans k4
       have k81 : M78.1 173 51 = z5 := (hR78 173 51 (by decide +kernel)).trans k6
       obtain ⟨z82, k83, lz82, uz82⟩ := hH78.ld (c := 173) (i := 52) (A := (-2147483648)) (B := 2147483647) (bs_28_26 _ _ (by omega))
       exact jx_retz c2 hm rfl rfl ⟨by omega, by omega⟩ ⟨_, rfl, hH78, hF78, by omega, by omega, (by omega), (by omega), (by omega), (by omega), (Or.inl (by omega)), (by omega)⟩
      refine jx_load c1 hm rfl rfl rfl rfl ?_
      refine jx_geti c1 hm rfl sh_173 rfl k6 ?_
      refine jy_bp c1 hm rfl (by decide) ?_
      refine jc_ne c1 hm 70 rfl rfl (fun h84 => ?_) (fun h84 => ?_)
      ·
       refine jx_load c1 hm rfl rfl rfl rfl ?_
       refine jx_dup c1 hm rfl rfl ?_
       refine jx_geti c1 hm rfl sh_173 rfl k4 ?_
       refine jy_ic c1 hm rfl (by decide) ?_
       refine jy_add c1 hm (z3 + 1) rfl (by omega) ?_
       obtain ⟨M85, e85, hH85, hF85, k85, n85, q85⟩ := mup hH0 hF0 (c := 173) (i := 50) (v := (z3 + 1)) (A := 0) (B := 20) (bs_28_24 _ _ (by omega) (by omega)) ⟨by omega, by omega⟩ (jin_of 9 rfl ⟨by omega, by omega⟩)
       refine jm_puti c1 hm rfl sh_173 rfl e85 ?_
       refine jx_load c1 hm rfl rfl rfl rfl ?_
       refine jx_dup c1 hm rfl rfl ?_
       have k86 : M85.1 173 51 = z5 := (n85 173 51 (by decide)).trans k6
       refine jx_geti c1 hm rfl sh_173 rfl k86 ?_
       refine jy_ic c1 hm rfl (by decide) ?_
       refine jy_add c1 hm (z5 + 1) rfl (by omega) ?_
       obtain ⟨M87, e87, hH87, hF87, k87, n87, q87⟩ := mup hH85 hF85 (c := 173) (i := 51) (v := (z5 + 1)) (A := 0) (B := 8) (bs_28_25 _ _ (by omega) (by omega)) ⟨by omega, by omega⟩ (jin_of 10 rfl ⟨by omega, by omega⟩)
       refine jm_puti c1 hm rfl sh_173 rfl e87 ?_
       refine jx_load c1 hm rfl rfl rfl rfl ?_
       obtain ⟨z88, k89, lz88, uz88⟩ := hH87.ld (c := 173) (i := 5) (A := 0) (B := 940) (bs_28_3 _ _ (by omega) (by omega))
       refine jv_v c3 hm rfl pj_X12_go rfl rfl ⟨_, _, _, rfl, sh_173⟩ rfl ((ct_X12_go_173 X (by omega) M87 hH87 ).le (by omega)) (fun M92 ⟨hH92, hR92, p90, p91⟩ => ?_)
       have hF92 := hF87.tr hR92 (by decide +kernel)
       obtain ⟨z93, k94, lz93, uz93⟩ := hH92.ld (c := 173) (i := 5) (A := 0) (B := 940) (bs_28_3 _ _ (by omega) (by omega))
       obtain ⟨z95, k96, lz95, uz95⟩ := hH92.ld (c := 173) (i := 7) (A := 0) (B := 4) (bs_28_4 _ _ (by omega) (by omega))
       refine jy_ic c1 hm rfl (by decide) ?_
       refine jx_stor c1 hm (L' := [some (.inr (.inr (.inl 173))), some (.inl z9), some (.inl b11), some (.inl 1)]) rfl rfl rfl rfl rfl ?_
       refine jx_load c1 hm rfl rfl rfl rfl ?_
       refine jz_eq c1 hm 108 rfl rfl (fun h97 => ?_) (fun h97 => ?_)
       ·
        refine jx_load c1 hm rfl rfl rfl rfl ?_
        refine jy_bp c1 hm rfl (by decide) ?_
        refine jc_ne c1 hm 122 rfl rfl (fun h98 => ?_) (fun h98 => ?_)
        ·
         refine jx_load c1 hm rfl rfl rfl rfl ?_
         refine jy_bp c1 hm rfl (by decide) ?_
         refine jc_ge c1 hm 146 rfl rfl (fun h99 => ?_) (fun h99 => ?_)
         ·
          refine jx_load c1 hm rfl rfl rfl rfl ?_
          refine jy_bp c1 hm rfl (by decide) ?_
          refine jc_ge c1 hm 160 rfl rfl (fun h100 => ?_) (fun h100 => ?_)
          ·
           refine jx_load c1 hm rfl rfl rfl rfl ?_
           refine jx_load c1 hm rfl rfl rfl rfl ?_
           have k101 : M92.1 173 49 = z1 := (hR92 173 49 (by decide +kernel)).trans ((n87 173 49 (by decide)).trans ((n85 173 49 (by decide)).trans k2))
           have k102 : M92.1 173 50 = (z3 + 1) := (hR92 173 50 (by decide +kernel)).trans ((n87 173 50 (by decide)).trans k85)
           have k103 : M92.1 173 51 = (z5 + 1) := (hR92 173 51 (by decide +kernel)).trans k87
           refine jv_i c3 hm rfl pj_X12_readCompare rfl rfl ⟨_, _, _, rfl, sh_173⟩ rfl ((ct_X12_readCompare_173 X (by omega) M92 hH92 b11 ⟨by omega, by omega⟩ (by omega) (TRN.cg hp1 (fun j => (((hR92 197 j rfl).trans (n87 197 j (fun h => absurd h.1 (by decide)))).trans (n85 197 j (fun h => absurd h.1 (by decide))))) (by omega))).le (by omega)) (fun z104 M111 ⟨hH111, hR111, lz104, uz104, p105, p106, p107, p108, p109, p110⟩ => ?_)
           have hF111 := hF92.tr hR111 (by decide +kernel)
           have k112 : M111.1 173 51 = (z5 + 1) := (hR111 173 51 (by decide +kernel)).trans k103
           obtain ⟨z113, k114, lz113, uz113⟩ := hH111.ld (c := 173) (i := 49) (A := 0) (B := 60) (bs_28_23 _ _ (by omega) (by omega))
           have k115 : M111.1 173 50 = (z3 + 1) := (hR111 173 50 (by decide +kernel)).trans k102
           obtain ⟨z116, k117, lz116, uz116⟩ := hH111.ld (c := 173) (i := 52) (A := (-2147483648)) (B := 2147483647) (bs_28_26 _ _ (by omega))
           skip
           refine jx_stor c1 hm (L' := [some (.inr (.inr (.inl 173))), some (.inl z9), some (.inl b11), some (.inl z104)]) rfl rfl rfl rfl rfl ?_
           refine jx_load c1 hm rfl rfl rfl rfl ?_
           refine jx_dup c1 hm rfl rfl ?_
           refine jx_geti c1 hm rfl sh_173 rfl k112 ?_
           refine jy_ic c1 hm rfl (by decide) ?_
           refine jy_sub c1 hm z5 rfl (by omega) ?_
           obtain ⟨M118, e118, hH118, hF118, k118, n118, q118⟩ := mup hH111 hF111 (c := 173) (i := 51) (v := z5) (A := 0) (B := 8) (bs_28_25 _ _ (by omega) (by omega)) ⟨by omega, by omega⟩ (jin_of 10 rfl ⟨by omega, by omega⟩)
           refine jm_puti c1 hm rfl sh_173 rfl e118 ?_
           refine jx_load c1 hm rfl rfl rfl rfl ?_
           have k119 : M118.1 173 49 = z113 := (n118 173 49 (by decide)).trans k114
           have k120 : M118.1 173 50 = (z3 + 1) := (n118 173 50 (by decide)).trans k115
           have k121 : M118.1 173 52 = z116 := (n118 173 52 (by decide)).trans k117
           exact jx_retz c2 hm rfl rfl ⟨by omega, by omega⟩ ⟨_, rfl, hH118, hF118, by omega, by omega, (by omega), (by omega), (by omega), (by omega), (Or.imp id (fun ht => TRN.cg ht (fun j => (n118 197 j (fun h => absurd h.1 (by decide)))) (by omega)) p109), (by omega)⟩
          refine jx_load c1 hm rfl rfl rfl rfl ?_
          refine jx_load c1 hm rfl rfl rfl rfl ?_
          have k122 : M92.1 173 49 = z1 := (hR92 173 49 (by decide +kernel)).trans ((n87 173 49 (by decide)).trans ((n85 173 49 (by decide)).trans k2))
          have k123 : M92.1 173 50 = (z3 + 1) := (hR92 173 50 (by decide +kernel)).trans ((n87 173 50 (by decide)).trans k85)
          have k124 : M92.1 173 51 = (z5 + 1) := (hR92 173 51 (by decide +kernel)).trans k87
          refine jv_i c3 hm rfl pj_X12_readOf rfl rfl ⟨_, _, _, rfl, sh_173⟩ rfl ((ct_X12_readOf_173 X (by omega) M92 hH92 b11 ⟨by omega, by omega⟩ (by omega) (TRN.cg hp1 (fun j => (((hR92 197 j rfl).trans (n87 197 j (fun h => absurd h.1 (by decide)))).trans (n85 197 j (fun h => absurd h.1 (by decide))))) (by omega))).le (by omega)) (fun z125 M132 ⟨hH132, hR132, lz125, uz125, p126, p127, p128, p129, p130, p131⟩ => ?_)
          have hF132 := hF92.tr hR132 (by decide +kernel)
          have k133 : M132.1 173 51 = (z5 + 1) := (hR132 173 51 (by decide +kernel)).trans k124
          obtain ⟨z134, k135, lz134, uz134⟩ := hH132.ld (c := 173) (i := 49) (A := 0) (B := 60) (bs_28_23 _ _ (by omega) (by omega))
          have k136 : M132.1 173 50 = (z3 + 1) := (hR132 173 50 (by decide +kernel)).trans k123
          obtain ⟨z137, k138, lz137, uz137⟩ := hH132.ld (c := 173) (i := 52) (A := (-2147483648)) (B := 2147483647) (bs_28_26 _ _ (by omega))
          skip
          refine jx_goto c1 hm 165 rfl rfl ?_
          refine jx_stor c1 hm (L' := [some (.inr (.inr (.inl 173))), some (.inl z9), some (.inl b11), some (.inl z125)]) rfl rfl rfl rfl rfl ?_
          refine jx_load c1 hm rfl rfl rfl rfl ?_
          refine jx_dup c1 hm rfl rfl ?_
          refine jx_geti c1 hm rfl sh_173 rfl k133 ?_
          refine jy_ic c1 hm rfl (by decide) ?_
          refine jy_sub c1 hm z5 rfl (by omega) ?_
          obtain ⟨M139, e139, hH139, hF139, k139, n139, q139⟩ := mup hH132 hF132 (c := 173) (i := 51) (v := z5) (A := 0) (B := 8) (bs_28_25 _ _ (by omega) (by omega)) ⟨by omega, by omega⟩ (jin_of 10 rfl ⟨by omega, by omega⟩)
          refine jm_puti c1 hm rfl sh_173 rfl e139 ?_
          refine jx_load c1 hm rfl rfl rfl rfl ?_
          have k140 : M139.1 173 49 = z134 := (n139 173 49 (by decide)).trans k135
          have k141 : M139.1 173 50 = (z3 + 1) := (n139 173 50 (by decide)).trans k136
          have k142 : M139.1 173 52 = z137 := (n139 173 52 (by decide)).trans k138
          exact jx_retz c2 hm rfl rfl ⟨by omega, by omega⟩ ⟨_, rfl, hH139, hF139, by omega, by omega, (by omega), (by omega), (by omega), (by omega), (Or.imp id (fun ht => TRN.cg ht (fun j => (n139 197 j (fun h => absurd h.1 (by decide)))) (by omega)) p130), (by omega)⟩
         refine jx_load c1 hm rfl rfl rfl rfl ?_
         refine jx_load c1 hm rfl rfl rfl rfl ?_
         refine jy_bp c1 hm rfl (by decide) ?_
         refine jx_load c1 hm rfl rfl rfl rfl ?_
         refine jy_add c1 hm (b11 + 50) rfl (by omega) ?_
         refine jy_ic c1 hm rfl (by decide) ?_
         refine jy_ic c1 hm rfl (by decide) ?_
         refine jy_ic c1 hm rfl (by decide) ?_
         have k143 : M92.1 173 49 = z1 := (hR92 173 49 (by decide +kernel)).trans ((n87 173 49 (by decide)).trans ((n85 173 49 (by decide)).trans k2))
         refine jv_i c3 hm rfl pj_X12_saysOne rfl rfl ⟨_, _, _, rfl, sh_173⟩ rfl ((ct_X12_saysOne_173 X (by omega) M92 hH92 (b11 + 50) ⟨by omega, by omega⟩ 0 ⟨by omega, by omega⟩ 0 ⟨by omega, by omega⟩ 0 ⟨by omega, by omega⟩ (by omega) (TRN.cg hp1 (fun j => (((hR92 197 j rfl).trans (n87 197 j (fun h => absurd h.1 (by decide)))).trans (n85 197 j (fun h => absurd h.1 (by decide))))) (by omega)) ⟨by omega, by omega, by omega⟩).le (by omega)) (fun z144 M148 ⟨hH148, hR148, lz144, uz144, p145, p146, p147⟩ => ?_)
         have hF148 := hF92.tr hR148 (by decide +kernel)
         obtain ⟨z149, k150, lz149, uz149⟩ := hH148.ld (c := 173) (i := 49) (A := 0) (B := 60) (bs_28_23 _ _ (by omega) (by omega))
         skip
         obtain ⟨M151, e151, hH151, hF151, k151, n151, q151⟩ := mup hH148 hF148 (c := 173) (i := 52) (v := z144) (A := (-2147483648)) (B := 2147483647) (bs_28_26 _ _ (by omega)) ⟨by omega, by omega⟩ (jin_of 11 rfl ⟨by omega, by omega⟩)
         refine jm_puti c1 hm rfl sh_173 rfl e151 ?_
         refine jx_goto c1 hm 166 rfl rfl ?_
         refine jx_load c1 hm rfl rfl rfl rfl ?_
         refine jx_dup c1 hm rfl rfl ?_
         have k152 : M151.1 173 51 = (z5 + 1) := (n151 173 51 (by decide)).trans ((hR148 173 51 (by decide +kernel)).trans ((hR92 173 51 (by decide +kernel)).trans k87))
         refine jx_geti c1 hm rfl sh_173 rfl k152 ?_
         refine jy_ic c1 hm rfl (by decide) ?_
         refine jy_sub c1 hm z5 rfl (by omega) ?_
         obtain ⟨M153, e153, hH153, hF153, k153, n153, q153⟩ := mup hH151 hF151 (c := 173) (i := 51) (v := z5) (A := 0) (B := 8) (bs_28_25 _ _ (by omega) (by omega)) ⟨by omega, by omega⟩ (jin_of 10 rfl ⟨by omega, by omega⟩)
         refine jm_puti c1 hm rfl sh_173 rfl e153 ?_
         refine jx_load c1 hm rfl rfl rfl rfl ?_
         have k154 : M153.1 173 49 = z149 := (n153 173 49 (by decide)).trans ((n151 173 49 (by decide)).trans k150)
         have k155 : M153.1 173 50 = (z3 + 1) := (n153 173 50 (by decide)).trans ((n151 173 50 (by decide)).trans ((hR148 173 50 (by decide +kernel)).trans ((hR92 173 50 (by decide +kernel)).trans ((n87 173 50 (by decide)).trans k85))))
         have k156 : M153.1 173 52 = z144 := (n153 173 52 (by decide)).trans k151
         exact jx_retz c2 hm rfl rfl ⟨by omega, by omega⟩ ⟨_, rfl, hH153, hF153, by omega, by omega, (by omega), (by omega), (by omega), (by omega), (Or.inr (TRN.cg p147 (fun j => ((n153 197 j (fun h => absurd h.1 (by decide))).trans (n151 197 j (fun h => absurd h.1 (by decide))))) (by omega))), (by omega)⟩
        refine jx_load c1 hm rfl rfl rfl rfl ?_
        have k157 : M92.1 173 49 = z1 := (hR92 173 49 (by decide +kernel)).trans ((n87 173 49 (by decide)).trans ((n85 173 49 (by decide)).trans k2))
        have k158 : M92.1 173 50 = (z3 + 1) := (hR92 173 50 (by decide +kernel)).trans ((n87 173 50 (by decide)).trans k85)
        have k159 : M92.1 173 51 = (z5 + 1) := (hR92 173 51 (by decide +kernel)).trans k87
        refine jv_i c3 hm rfl pj_X12_readNot rfl rfl ⟨_, _, _, rfl, sh_173⟩ rfl ((ct_X12_readNot_173 n ih X (by omega) M92 hH92 (by omega) (TRN.cg hp1 (fun j => (((hR92 197 j rfl).trans (n87 197 j (fun h => absurd h.1 (by decide)))).trans (n85 197 j (fun h => absurd h.1 (by decide))))) (by omega)) (by omega)).le (by omega)) (fun z160 M167 ⟨hH167, hR167, lz160, uz160, p161, p162, p163, p164, p165, p166⟩ => ?_)
        have hF167 := hF92.tr hR167 (by decide +kernel)
        obtain ⟨z168, k169, lz168, uz168⟩ := hH167.ld (c := 173) (i := 51) (A := 0) (B := 8) (bs_28_25 _ _ (by omega) (by omega))
        obtain ⟨z170, k171, lz170, uz170⟩ := hH167.ld (c := 173) (i := 49) (A := 0) (B := 60) (bs_28_23 _ _ (by omega) (by omega))
        obtain ⟨z172, k173, lz172, uz172⟩ := hH167.ld (c := 173) (i := 50) (A := 0) (B := 20) (bs_28_24 _ _ (by omega) (by omega))
        obtain ⟨z174, k175, lz174, uz174⟩ := hH167.ld (c := 173) (i := 52) (A := (-2147483648)) (B := 2147483647) (bs_28_26 _ _ (by omega))
        skip
        refine jx_stor c1 hm (L' := [some (.inr (.inr (.inl 173))), some (.inl z9), some (.inl b11), some (.inl z160)]) rfl rfl rfl rfl rfl ?_
        refine jx_goto c1 hm 166 rfl rfl ?_
        refine jx_load c1 hm rfl rfl rfl rfl ?_
        refine jx_dup c1 hm rfl rfl ?_
        refine jx_geti c1 hm rfl sh_173 rfl k169 ?_
        refine jy_ic c1 hm rfl (by decide) ?_
        refine jy_sub c1 hm (z168 - 1) rfl (by omega) ?_
        obtain ⟨M176, e176, hH176, hF176, k176, n176, q176⟩ := mup hH167 hF167 (c := 173) (i := 51) (v := (z168 - 1)) (A := 0) (B := 8) (bs_28_25 _ _ (by omega) (by omega)) ⟨by omega, by omega⟩ (jin_of 10 rfl ⟨by omega, by omega⟩)
        refine jm_puti c1 hm rfl sh_173 rfl e176 ?_
        refine jx_load c1 hm rfl rfl rfl rfl ?_
        have k177 : M176.1 173 49 = z170 := (n176 173 49 (by decide)).trans k171
        have k178 : M176.1 173 50 = z172 := (n176 173 50 (by decide)).trans k173
        have k179 : M176.1 173 52 = z174 := (n176 173 52 (by decide)).trans k175
        exact jx_retz c2 hm rfl rfl ⟨by omega, by omega⟩ ⟨_, rfl, hH176, hF176, by omega, by omega, (by omega), (by omega), (by omega), (by omega), (Or.imp id (fun ht => TRN.cg ht (fun j => (n176 197 j (fun h => absurd h.1 (by decide)))) (by omega)) p165), (by omega)⟩
       exfalso; omega
      refine jx_load c1 hm rfl rfl rfl rfl ?_
      refine jy_ic c1 hm rfl (by decide) ?_
      refine jv_i c3 hm rfl pj_X12_bad rfl rfl ⟨_, _, _, rfl, sh_173⟩ rfl ((ct_X12_bad_173 X (by omega) M0 hH0 4 ⟨by omega, by omega⟩).le (by omega)) (fun z180 M182 ⟨hH182, hR182, lz180, uz180, p181⟩ => ?_)
      have hF182 := hF0.tr hR182 (by decide +kernel)
      have k183 : M182.1 173 49 = z1 := (hR182 173 49 (by decide +kernel)).trans k2
      have k184 : M182.1 173 50 = z3 := (hR182 173 50 (by decide +kernel)).trans k4
      have k185 : M182.1 173 51 = z5 := (hR182 173 51 (by decide +kernel)).trans k6
      obtain ⟨z186, k187, lz186, uz186⟩ := hH182.ld (c := 173) (i := 52) (A := (-2147483648)) (B := 2147483647) (bs_28_26 _ _ (by omega))
      exact jx_retz c2 hm rfl rfl ⟨by omega, by omega⟩ ⟨_, rfl, hH182, hF182, by omega, by omega, (by omega), (by omega), (by omega), (by omega), (Or.inl (by omega)), (by omega)⟩
     refine jx_load c1 hm rfl rfl rfl rfl ?_
     refine jy_ic c1 hm rfl (by decide) ?_
     refine jv_i c3 hm rfl pj_X12_bad rfl rfl ⟨_, _, _, rfl, sh_173⟩ rfl ((ct_X12_bad_173 X (by omega) M0 hH0 1 ⟨by omega, by omega⟩).le (by omega)) (fun z188 M190 ⟨hH190, hR190, lz188, uz188, p189⟩ => ?_)
     have hF190 := hF0.tr hR190 (by decide +kernel)
     have k191 : M190.1 173 49 = z1 := (hR190 173 49 (by decide +kernel)).trans k2
     have k192 : M190.1 173 50 = z3 := (hR190 173 50 (by decide +kernel)).trans k4
     have k193 : M190.1 173 51 = z5 := (hR190 173 51 (by decide +kernel)).trans k6
     obtain ⟨z194, k195, lz194, uz194⟩ := hH190.ld (c := 173) (i := 52) (A := (-2147483648)) (B := 2147483647) (bs_28_26 _ _ (by omega))
     exact jx_retz c2 hm rfl rfl ⟨by omega, by omega⟩ ⟨_, rfl, hH190, hF190, by omega, by omega, (by omega), (by omega), (by omega), (by omega), (Or.inl (by omega)), (by omega)⟩
    refine jc_gt c1 hm 30 rfl rfl (fun h14 => ?_) (fun h14 => ?_)
    ·
     exact J18 
    refine jx_load c1 hm rfl rfl rfl rfl ?_
    refine jx_load c1 hm rfl rfl rfl rfl ?_
    refine jv_i c3 hm rfl pj_X12_isWord rfl rfl ⟨_, _, _, rfl, sh_173⟩ rfl ((ct_X12_isWord_173 X (by omega) M0 hH0 b11 ⟨by omega, by omega⟩).le (by omega)) (fun z15 _ ⟨rfl, lz15, uz15, p16⟩ => ?_)
    refine jz_ne c1 hm 30 rfl rfl (fun h17 => ?_) (fun h17 => ?_)
    ·
     exact J18 
    refine jx_iinc c1 hm (v := (b11 + 1)) (L' := [some (.inr (.inr (.inl 173))), some (.inl z9), some (.inl (b11 + 1)), none]) rfl rfl (by omega) (by omega) rfl ?_
    refine jx_goto c1 hm 10 rfl rfl ?_
    exact ihW12 (b11 + 1) (by omega) (by omega)
  exact W12 (9 + 1 : Int).toNat 15 (by omega) (by omega)
def md_X12_sentence_173 : List (Nat × (Nat × Nat)) := [(173, (0, 0)), (173, (2, 2)), (173, (3, 3)), (173, (4, 4)), (173, (5, 5)), (173, (6, 6)), (173, (7, 7)), (173, (8, 8)), (173, (9, 9)), (173, (10, 10)), (173, (11, 11)), (173, (13, 13)), (173, (49, 49)), (173, (50, 50)), (173, (51, 51)), (173, (52, 52)), (175, (234, 234)), (175, (235, 235)), (175, (236, 475)), (197, (0, 239))]
theorem ct_X12_sentence_173 (X : Int) (hX : 0 ≤ X ∧ X ≤ 100000000) (M0 : JM) (hH0 : HI X M0) (hp0 : SOK M0) : JOk shp PJ 94 180 [.inr (.inr (.inl 173))] M0 (jRi (fun v M' => HI X M' ∧ Fr md_X12_sentence_173 M0 M' ∧ (-941) ≤ v ∧ v ≤ 20 ∧ (SOK M'))) := by
 refine ⟨jr_X12_sentence, pj_X12_sentence, fun F c1 c2 c3 => ?_⟩
 have hm := pj_X12_sentence
 change F 0 [some (.inr (.inr (.inl 173))), none] [] M0
 have hF0 : Fr md_X12_sentence_173 M0 M0 := Fr.rf _ _
 refine jx_load c1 hm rfl rfl rfl rfl ?_
 refine jy_sp c1 hm rfl (by decide) ?_
 refine jv_v c3 hm rfl pj_X12_begin rfl rfl ⟨_, _, _, rfl, sh_173⟩ rfl ((ct_X12_begin_173 X (by omega) M0 hH0 200 ⟨by omega, by omega⟩).le (by decide)) (fun M1 ⟨hH1, hR1⟩ => ?_)
 have hF1 := hF0.tr hR1 (by decide +kernel)
 refine jx_load c1 hm rfl rfl rfl rfl ?_
 refine jy_ic c1 hm rfl (by decide) ?_
 obtain ⟨M2, e2, hH2, hF2, k2, n2, q2⟩ := mup hH1 hF1 (c := 173) (i := 49) (v := 0) (A := 0) (B := 60) (bs_28_23 _ _ (by omega) (by omega)) ⟨by omega, by omega⟩ (jin_of 12 rfl ⟨by omega, by omega⟩)
 refine jm_puti c1 hm rfl sh_173 rfl e2 ?_
 refine jx_load c1 hm rfl rfl rfl rfl ?_
 refine jy_ic c1 hm rfl (by decide) ?_
 obtain ⟨M3, e3, hH3, hF3, k3, n3, q3⟩ := mup hH2 hF2 (c := 173) (i := 50) (v := 0) (A := 0) (B := 20) (bs_28_24 _ _ (by omega) (by omega)) ⟨by omega, by omega⟩ (jin_of 13 rfl ⟨by omega, by omega⟩)
 refine jm_puti c1 hm rfl sh_173 rfl e3 ?_
 refine jx_load c1 hm rfl rfl rfl rfl ?_
 refine jy_ic c1 hm rfl (by decide) ?_
 obtain ⟨M4, e4, hH4, hF4, k4, n4, q4⟩ := mup hH3 hF3 (c := 173) (i := 51) (v := 0) (A := 0) (B := 8) (bs_28_25 _ _ (by omega) (by omega)) ⟨by omega, by omega⟩ (jin_of 14 rfl ⟨by omega, by omega⟩)
 refine jm_puti c1 hm rfl sh_173 rfl e4 ?_
 refine jx_load c1 hm rfl rfl rfl rfl ?_
 have k5 : M4.1 173 49 = 0 := (n4 173 49 (by decide)).trans ((n3 173 49 (by decide)).trans k2)
 have k6 : M4.1 173 50 = 0 := (n4 173 50 (by decide)).trans k3
 refine jv_i c3 hm rfl pj_X12_readOr rfl rfl ⟨_, _, _, rfl, sh_173⟩ rfl ((ct_X12_readOr_173 21 (ct_X12_readSaid_173 21) X (by omega) M4 hH4 (by omega) (TRN_0 _ (by omega)) (by omega)).le (by decide)) (fun z7 M14 ⟨hH14, hR14, lz7, uz7, p8, p9, p10, p11, p12, p13⟩ => ?_)
 have hF14 := hF4.tr hR14 (by decide +kernel)
 obtain ⟨z15, k16, lz15, uz15⟩ := hH14.ld (c := 173) (i := 51) (A := 0) (B := 8) (bs_28_25 _ _ (by omega) (by omega))
 obtain ⟨z17, k18, lz17, uz17⟩ := hH14.ld (c := 173) (i := 49) (A := 0) (B := 60) (bs_28_23 _ _ (by omega) (by omega))
 obtain ⟨z19, k20, lz19, uz19⟩ := hH14.ld (c := 173) (i := 50) (A := 0) (B := 20) (bs_28_24 _ _ (by omega) (by omega))
 obtain ⟨z21, k22, lz21, uz21⟩ := hH14.ld (c := 173) (i := 52) (A := (-2147483648)) (B := 2147483647) (bs_28_26 _ _ (by omega))
 skip
 refine jz_ne c1 hm 36 rfl rfl (fun h23 => ?_) (fun h23 => ?_)
 ·
  refine jx_load c1 hm rfl rfl rfl rfl ?_
  obtain ⟨z24, k25, lz24, uz24⟩ := hH14.ld (c := 173) (i := 7) (A := 0) (B := 4) (bs_28_4 _ _ (by omega) (by omega))
  refine jx_geti c1 hm rfl sh_173 rfl k25 ?_
  refine jz_eq c1 hm 56 rfl rfl (fun h26 => ?_) (fun h26 => ?_)
  ·
   refine jx_load c1 hm rfl rfl rfl rfl ?_
   refine jx_getr c1 hm rfl sh_173 rfl ?_
   refine jy_sp c1 hm rfl (by decide) ?_
   refine jy_ic c1 hm rfl (by decide) ?_
   obtain ⟨M27, e27, hH27, hF27, k27, n27, q27⟩ := mup hH14 hF14 (c := 175) (i := 234) (v := 1) (A := (-2147483648)) (B := 2147483647) (bs_11_11 _ _ (by omega) (by omega)) ⟨by omega, by omega⟩ (jin_of 16 rfl ⟨by omega, by omega⟩)
   refine jm_iast c1 hm rfl sh_175 ⟨by omega, by omega⟩ e27 ?_
   refine jx_load c1 hm rfl rfl rfl rfl ?_
   refine jx_getr c1 hm rfl sh_173 rfl ?_
   refine jy_sp c1 hm rfl (by decide) ?_
   refine jx_load c1 hm rfl rfl rfl rfl ?_
   have k28 : M27.1 173 52 = z21 := (n27 173 52 (fun h => absurd h.1 (by decide))).trans k22
   refine jx_geti c1 hm rfl sh_173 rfl k28 ?_
   obtain ⟨M29, e29, hH29, hF29, k29, n29, q29⟩ := mup hH27 hF27 (c := 175) (i := 235) (v := z21) (A := (-2147483648)) (B := 2147483647) (bs_11_11 _ _ (by omega) (by omega)) ⟨by omega, by omega⟩ (jin_of 17 rfl ⟨by omega, by omega⟩)
   refine jm_iast c1 hm rfl sh_175 ⟨by omega, by omega⟩ e29 ?_
   refine jy_ic c1 hm rfl (by decide) ?_
   refine jx_stor c1 hm (L' := [some (.inr (.inr (.inl 173))), some (.inl 0)]) rfl rfl rfl rfl rfl ?_
   have W47 : ∀ (n48 : Nat) (b30 : Int) (hb30 : 0 ≤ b30 ∧ b30 ≤ 240) (M31 : JM) (hH31 : HI (X) M31) (hF31 : Fr md_X12_sentence_173 M0 M31) (k33 : M31.1 173 7 = z24) (k35 : M31.1 173 49 = z17) (k37 : M31.1 173 50 = z19) (k39 : M31.1 173 51 = z15) (k41 : M31.1 173 52 = z21) (k42 : M31.1 175 235 = z21) (ht : TRN M31 (M31.1 173 49)) (h44 : 0 ≤ M31.1 175 235 ∧ M31.1 175 235 < M31.1 173 49) (h45 : M31.1 173 49 ≤ 60) (hcp : ∀ j : Nat, (j : Int) < b30 → M31.1 175 (j + 236) = M31.1 197 j), (-b30 + 240) < (n48 : Int) → F 79 [some (.inr (.inr (.inl 173))), some (.inl b30)] [] M31 := by
    intro n48
    induction n48 with
    | zero => intros; omega
    | succ n48 ihW47 =>
     intro b30 hb30 M31 hH31 hF31 k33 k35 k37 k39 k41 k42 ht h44 h45 hcp hrW47
     refine jx_load c1 hm rfl rfl rfl rfl ?_
     skip
     refine jy_sp c1 hm rfl (by decide) ?_
     refine jc_ge c1 hm 108 rfl rfl (fun h49 => ?_) (fun h49 => ?_)
     ·
      refine jx_load c1 hm rfl rfl rfl rfl ?_
      refine jx_geti c1 hm rfl sh_173 rfl k37 ?_
      exact jx_reti c2 hm rfl rfl ⟨_, rfl, hH31, hF31, by omega, by omega, (SOK.rd (n := M31.1 173 49) ht (by omega) (by omega) (fun j hj => hcp j (by omega)))⟩
     refine jx_load c1 hm rfl rfl rfl rfl ?_
     refine jx_getr c1 hm rfl sh_173 rfl ?_
     refine jy_sp c1 hm rfl (by decide) ?_
     refine jx_load c1 hm rfl rfl rfl rfl ?_
     refine jy_add c1 hm (b30 + 236) rfl (by omega) ?_
     refine jx_load c1 hm rfl rfl rfl rfl ?_
     refine jx_getr c1 hm rfl sh_173 rfl ?_
     refine jx_load c1 hm rfl rfl rfl rfl ?_
     obtain ⟨z50, k51, lz50, uz50⟩ := hH31.ld (c := 197) (i := (b30).toNat) (A := (-2147483648)) (B := 2147483647) rfl
     refine jx_iald c1 hm rfl sh_197 ⟨by omega, by omega⟩ k51 ?_
     obtain ⟨M52, e52, hH52, hF52, k52, n52, q52⟩ := mup hH31 hF31 (c := 175) (i := ((b30 + 236)).toNat) (v := z50) (A := (-2147483648)) (B := 2147483647) (bs_11_11 _ _ (by omega) (by omega)) ⟨by omega, by omega⟩ (jin_of 18 rfl ⟨by omega, by omega⟩)
     refine jm_iast c1 hm rfl sh_175 ⟨by omega, by omega⟩ e52 ?_
     refine jx_iinc c1 hm (v := (b30 + 1)) (L' := [some (.inr (.inr (.inl 173))), some (.inl (b30 + 1))]) rfl rfl (by omega) (by omega) rfl ?_
     refine jx_goto c1 hm 79 rfl rfl ?_
     have k53 : M52.1 173 7 = z24 := (n52 173 7 (fun h => absurd h.1 (by decide))).trans k33
     have k54 : M52.1 173 49 = z17 := (n52 173 49 (fun h => absurd h.1 (by decide))).trans k35
     have k55 : M52.1 173 50 = z19 := (n52 173 50 (fun h => absurd h.1 (by decide))).trans k37
     have k56 : M52.1 173 51 = z15 := (n52 173 51 (fun h => absurd h.1 (by decide))).trans k39
     have k57 : M52.1 173 52 = z21 := (n52 173 52 (fun h => absurd h.1 (by decide))).trans k41
     have k58 : M52.1 175 235 = z21 := (n52 175 235 (by omega)).trans k42
     exact ihW47 (b30 + 1) (by omega) M52 hH52 hF52 k53 k54 k55 k56 k57 k58 (TRN.cg ht (fun j => (n52 197 j (fun h => absurd h.1 (by decide)))) (by omega)) (by omega) (by omega) (fun j hj => if c : (j : Int) < b30 then ((n52 175 (j + 236) (by omega)).trans (hcp j c)).trans (n52 197 j (fun h => absurd h.1 (by decide))).symm else (by have e : j = (b30).toNat := (by omega); subst e; rw [show (b30).toNat + 236 = ((b30 + 236)).toNat by omega]; exact k52.trans (k51.symm.trans (n52 197 _ (fun h => absurd h.1 (by decide))).symm))) (by omega)
   have k32 : M29.1 173 7 = z24 := (n29 173 7 (fun h => absurd h.1 (by decide))).trans ((n27 173 7 (fun h => absurd h.1 (by decide))).trans k25)
   have k34 : M29.1 173 49 = z17 := (n29 173 49 (fun h => absurd h.1 (by decide))).trans ((n27 173 49 (fun h => absurd h.1 (by decide))).trans k18)
   have k36 : M29.1 173 50 = z19 := (n29 173 50 (fun h => absurd h.1 (by decide))).trans ((n27 173 50 (fun h => absurd h.1 (by decide))).trans k20)
   have k38 : M29.1 173 51 = z15 := (n29 173 51 (fun h => absurd h.1 (by decide))).trans ((n27 173 51 (fun h => absurd h.1 (by decide))).trans k16)
   have k40 : M29.1 173 52 = z21 := (n29 173 52 (fun h => absurd h.1 (by decide))).trans k28
   exact W47 (240 + 1 : Int).toNat 0 (by omega) M29 hH29 hF29 k32 k34 k36 k38 k40 k29 (TRN.cg (p12.resolve_left (by omega)) (fun j => ((n29 197 j (fun h => absurd h.1 (by decide))).trans (n27 197 j (fun h => absurd h.1 (by decide))))) (by omega)) (by omega) (by omega) (fun j hj => by omega) (by omega)
  refine jx_load c1 hm rfl rfl rfl rfl ?_
  refine jy_ic c1 hm rfl (by decide) ?_
  refine jv_i c3 hm rfl pj_X12_bad rfl rfl ⟨_, _, _, rfl, sh_173⟩ rfl ((ct_X12_bad_173 X (by omega) M14 hH14 1 ⟨by omega, by omega⟩).le (by decide)) (fun z59 M61 ⟨hH61, hR61, lz59, uz59, p60⟩ => ?_)
  have hF61 := hF14.tr hR61 (by decide +kernel)
  refine jx_pop c1 hm rfl rfl ?_
  refine jy_ic c1 hm rfl (by decide) ?_
  refine jx_load c1 hm rfl rfl rfl rfl ?_
  obtain ⟨z62, k63, lz62, uz62⟩ := hH61.ld (c := 173) (i := 11) (A := 0) (B := 940) (bs_28_6 _ _ (by omega) (by omega))
  refine jx_geti c1 hm rfl sh_173 rfl k63 ?_
  refine jy_sub c1 hm (-z62 - 1) rfl (by omega) ?_
  exact jx_reti c2 hm rfl rfl ⟨_, rfl, hH61, hF61, by omega, by omega, (SOK.cg hp0 (fun j _ _ => ((((((hR61 175 j rfl).trans (hR14 175 j rfl)).trans (n4 175 j (fun h => absurd h.1 (by decide)))).trans (n3 175 j (fun h => absurd h.1 (by decide)))).trans (n2 175 j (fun h => absurd h.1 (by decide)))).trans (hR1 175 j rfl))))⟩
 refine jy_ic c1 hm rfl (by decide) ?_
 refine jx_load c1 hm rfl rfl rfl rfl ?_
 obtain ⟨z64, k65, lz64, uz64⟩ := hH14.ld (c := 173) (i := 11) (A := 0) (B := 940) (bs_28_6 _ _ (by omega) (by omega))
 refine jx_geti c1 hm rfl sh_173 rfl k65 ?_
 refine jy_sub c1 hm (-z64 - 1) rfl (by omega) ?_
 exact jx_reti c2 hm rfl rfl ⟨_, rfl, hH14, hF14, by omega, by omega, (SOK.cg hp0 (fun j _ _ => (((((hR14 175 j rfl).trans (n4 175 j (fun h => absurd h.1 (by decide)))).trans (n3 175 j (fun h => absurd h.1 (by decide)))).trans (n2 175 j (fun h => absurd h.1 (by decide)))).trans (hR1 175 j rfl))))⟩
def md_X12_holds_173 : List (Nat × (Nat × Nat)) := []
def ST_X12_holds_173 (n : Nat) : Prop := ∀ (X : Int) (hX : 0 ≤ X ∧ X ≤ 100000000) (M0 : JM) (hH0 : HI X M0) (a0 : Int) (ha0 : 0 ≤ a0 ∧ a0 ≤ 59) (a1 : Int) (ha1 : 0 ≤ a1 ∧ a1 ≤ 5) (hp0 : TRS M0 (a0 + 1)) (hr : a0 < (n : Int)), JOk shp PJ (1 * n + 3) 113 [.inr (.inr (.inl 173)), .inl a0, .inl a1] M0 (jRi (fun v M' => HI X M' ∧ Fr md_X12_holds_173 M0 M' ∧ 0 ≤ v ∧ v ≤ 1 ))
theorem ct_X12_holds_173 : ∀ n : Nat, ST_X12_holds_173 n := by
 intro n
 induction n with
 | zero =>
  unfold ST_X12_holds_173
  intros; omega
 | succ n ih =>
  unfold ST_X12_holds_173
  intro X hX M0 hH0 a0 ha0 a1 ha1 hp0 hr
  refine ⟨jr_X12_holds, pj_X12_holds, fun F c1 c2 c3 => ?_⟩
  have hm := pj_X12_holds
  change F 0 [some (.inr (.inr (.inl 173))), some (.inl a0), some (.inl a1), none, none, none, none, none] [] M0
  have hF0 : Fr md_X12_holds_173 M0 M0 := Fr.rf _ _
  refine jy_sp c1 hm rfl (by decide) ?_
  refine jy_ic c1 hm rfl (by decide) ?_
  refine jx_load c1 hm rfl rfl rfl rfl ?_
  refine jy_mul c1 hm (4 * a0) rfl (by omega) ?_
  refine jy_add c1 hm (4 * a0 + 236) rfl (by omega) ?_
  refine jx_stor c1 hm (L' := [some (.inr (.inr (.inl 173))), some (.inl a0), some (.inl a1), some (.inl (4 * a0 + 236)), none, none, none, none]) rfl rfl rfl rfl rfl ?_
  refine jx_load c1 hm rfl rfl rfl rfl ?_
  refine jx_getr c1 hm rfl sh_173 rfl ?_
  refine jx_load c1 hm rfl rfl rfl rfl ?_
  refine jy_ic c1 hm rfl (by decide) ?_
  refine jy_add c1 hm (4 * a0 + 237) rfl (by omega) ?_
  obtain ⟨z1, k2, lz1, uz1⟩ := hH0.ld (c := 175) (i := ((4 * a0 + 237)).toNat) (A := (-2147483648)) (B := 2147483647) (bs_11_11 _ _ (by omega) (by omega))
  refine jx_iald c1 hm rfl sh_175 ⟨by omega, by omega⟩ k2 ?_
  refine jx_stor c1 hm (L' := [some (.inr (.inr (.inl 173))), some (.inl a0), some (.inl a1), some (.inl (4 * a0 + 236)), some (.inl z1), none, none, none]) rfl rfl rfl rfl rfl ?_
  refine jx_load c1 hm rfl rfl rfl rfl ?_
  refine jx_getr c1 hm rfl sh_173 rfl ?_
  refine jx_load c1 hm rfl rfl rfl rfl ?_
  refine jy_ic c1 hm rfl (by decide) ?_
  refine jy_add c1 hm (4 * a0 + 238) rfl (by omega) ?_
  obtain ⟨z3, k4, lz3, uz3⟩ := hH0.ld (c := 175) (i := ((4 * a0 + 238)).toNat) (A := (-2147483648)) (B := 2147483647) (bs_11_11 _ _ (by omega) (by omega))
  refine jx_iald c1 hm rfl sh_175 ⟨by omega, by omega⟩ k4 ?_
  refine jx_stor c1 hm (L' := [some (.inr (.inr (.inl 173))), some (.inl a0), some (.inl a1), some (.inl (4 * a0 + 236)), some (.inl z1), some (.inl z3), none, none]) rfl rfl rfl rfl rfl ?_
  refine jx_load c1 hm rfl rfl rfl rfl ?_
  refine jx_getr c1 hm rfl sh_173 rfl ?_
  refine jx_load c1 hm rfl rfl rfl rfl ?_
  obtain ⟨z5, k6, lz5, uz5⟩ := hH0.ld (c := 175) (i := ((4 * a0 + 236)).toNat) (A := (-2147483648)) (B := 2147483647) (bs_11_11 _ _ (by omega) (by omega))
  refine jx_iald c1 hm rfl sh_175 ⟨by omega, by omega⟩ k6 ?_
  obtain ⟨hT1, hT2, hT3⟩ : TW z5 z1 z3 a0 := by have y := hp0 a0 (by omega) (by omega); rw [k6, k2, k4] at y; exact y
  by_cases h7 : z5 = 1
  ·
   refine jx_lsw c1 hm 100 rfl rfl (by rw [h7] <;> rfl) rfl ?_
   refine jx_load c1 hm rfl rfl rfl rfl ?_
   refine jx_load c1 hm rfl rfl rfl rfl ?_
   refine jx_load c1 hm rfl rfl rfl rfl ?_
   have t8 : 0 ≤ z1 ∧ z1 ≤ 59 := by omega
   refine jv_i c3 hm rfl pj_X12_holds rfl rfl ⟨_, _, _, rfl, sh_173⟩ rfl ((ih X (by omega) M0 hH0 z1 ⟨by omega, by omega⟩ a1 ⟨by omega, by omega⟩ (TRS.cg hp0 (fun j => rfl) (by omega)) (by omega)).le (by omega)) (fun z9 M10 ⟨hH10, hR10, lz9, uz9⟩ => ?_)
   have hF10 := hF0.tr hR10 (by decide +kernel)
   refine jz_ne c1 hm 114 rfl rfl (fun h11 => ?_) (fun h11 => ?_)
   ·
    refine jy_ic c1 hm rfl (by decide) ?_
    exact jx_retz c2 hm rfl rfl ⟨by omega, by omega⟩ ⟨_, rfl, hH10, hF10, by omega, by omega⟩
   refine jy_ic c1 hm rfl (by decide) ?_
   refine jx_goto c1 hm 115 rfl rfl ?_
   exact jx_retz c2 hm rfl rfl ⟨by omega, by omega⟩ ⟨_, rfl, hH10, hF10, by omega, by omega⟩
  by_cases h12 : z5 = 2
  ·
   refine jx_lsw c1 hm 116 rfl rfl (by rw [h12] <;> rfl) rfl ?_
   refine jx_load c1 hm rfl rfl rfl rfl ?_
   refine jx_load c1 hm rfl rfl rfl rfl ?_
   refine jx_load c1 hm rfl rfl rfl rfl ?_
   have t13 : 0 ≤ z1 ∧ z1 ≤ 59 := by omega
   refine jv_i c3 hm rfl pj_X12_holds rfl rfl ⟨_, _, _, rfl, sh_173⟩ rfl ((ih X (by omega) M0 hH0 z1 ⟨by omega, by omega⟩ a1 ⟨by omega, by omega⟩ (TRS.cg hp0 (fun j => rfl) (by omega)) (by omega)).le (by omega)) (fun z14 M15 ⟨hH15, hR15, lz14, uz14⟩ => ?_)
   have hF15 := hF0.tr hR15 (by decide +kernel)
   refine jz_eq c1 hm 140 rfl rfl (fun h16 => ?_) (fun h16 => ?_)
   ·
    refine jy_ic c1 hm rfl (by decide) ?_
    exact jx_retz c2 hm rfl rfl ⟨by omega, by omega⟩ ⟨_, rfl, hH15, hF15, by omega, by omega⟩
   refine jx_load c1 hm rfl rfl rfl rfl ?_
   refine jx_load c1 hm rfl rfl rfl rfl ?_
   refine jx_load c1 hm rfl rfl rfl rfl ?_
   have t17 : 0 ≤ z3 ∧ z3 ≤ 59 := by omega
   refine jv_i c3 hm rfl pj_X12_holds rfl rfl ⟨_, _, _, rfl, sh_173⟩ rfl ((ih X (by omega) M15 hH15 z3 ⟨by omega, by omega⟩ a1 ⟨by omega, by omega⟩ (TRS.cg hp0 (fun j => (hR15 175 j rfl)) (by omega)) (by omega)).le (by omega)) (fun z18 M19 ⟨hH19, hR19, lz18, uz18⟩ => ?_)
   have hF19 := hF15.tr hR19 (by decide +kernel)
   refine jz_eq c1 hm 140 rfl rfl (fun h20 => ?_) (fun h20 => ?_)
   ·
    refine jy_ic c1 hm rfl (by decide) ?_
    exact jx_retz c2 hm rfl rfl ⟨by omega, by omega⟩ ⟨_, rfl, hH19, hF19, by omega, by omega⟩
   refine jy_ic c1 hm rfl (by decide) ?_
   refine jx_goto c1 hm 141 rfl rfl ?_
   exact jx_retz c2 hm rfl rfl ⟨by omega, by omega⟩ ⟨_, rfl, hH19, hF19, by omega, by omega⟩
  by_cases h21 : z5 = 3
  ·
   refine jx_lsw c1 hm 142 rfl rfl (by rw [h21] <;> rfl) rfl ?_
   refine jx_load c1 hm rfl rfl rfl rfl ?_
   refine jx_load c1 hm rfl rfl rfl rfl ?_
   refine jx_load c1 hm rfl rfl rfl rfl ?_
   have t22 : 0 ≤ z1 ∧ z1 ≤ 59 := by omega
   refine jv_i c3 hm rfl pj_X12_holds rfl rfl ⟨_, _, _, rfl, sh_173⟩ rfl ((ih X (by omega) M0 hH0 z1 ⟨by omega, by omega⟩ a1 ⟨by omega, by omega⟩ (TRS.cg hp0 (fun j => rfl) (by omega)) (by omega)).le (by omega)) (fun z23 M24 ⟨hH24, hR24, lz23, uz23⟩ => ?_)
   have hF24 := hF0.tr hR24 (by decide +kernel)
   refine jz_ne c1 hm 162 rfl rfl (fun h25 => ?_) (fun h25 => ?_)
   ·
    refine jy_ic c1 hm rfl (by decide) ?_
    refine jx_goto c1 hm 167 rfl rfl ?_
    exact jx_retz c2 hm rfl rfl ⟨by omega, by omega⟩ ⟨_, rfl, hH24, hF24, by omega, by omega⟩
   refine jx_load c1 hm rfl rfl rfl rfl ?_
   refine jx_load c1 hm rfl rfl rfl rfl ?_
   refine jx_load c1 hm rfl rfl rfl rfl ?_
   have t26 : 0 ≤ z3 ∧ z3 ≤ 59 := by omega
   refine jv_i c3 hm rfl pj_X12_holds rfl rfl ⟨_, _, _, rfl, sh_173⟩ rfl ((ih X (by omega) M24 hH24 z3 ⟨by omega, by omega⟩ a1 ⟨by omega, by omega⟩ (TRS.cg hp0 (fun j => (hR24 175 j rfl)) (by omega)) (by omega)).le (by omega)) (fun z27 M28 ⟨hH28, hR28, lz27, uz27⟩ => ?_)
   have hF28 := hF24.tr hR28 (by decide +kernel)
   refine jz_eq c1 hm 166 rfl rfl (fun h29 => ?_) (fun h29 => ?_)
   ·
    refine jy_ic c1 hm rfl (by decide) ?_
    exact jx_retz c2 hm rfl rfl ⟨by omega, by omega⟩ ⟨_, rfl, hH28, hF28, by omega, by omega⟩
   refine jy_ic c1 hm rfl (by decide) ?_
   refine jx_goto c1 hm 167 rfl rfl ?_
   exact jx_retz c2 hm rfl rfl ⟨by omega, by omega⟩ ⟨_, rfl, hH28, hF28, by omega, by omega⟩
  by_cases h30 : z5 = 66
  ·
   refine jx_lsw c1 hm 168 rfl rfl (by rw [h30] <;> rfl) rfl ?_
   refine jx_load c1 hm rfl rfl rfl rfl ?_
   refine jx_getr c1 hm rfl sh_173 rfl ?_
   refine jy_bp c1 hm rfl (by decide) ?_
   refine jx_load c1 hm rfl rfl rfl rfl ?_
   refine jy_add c1 hm (a1 + 102) rfl (by omega) ?_
   obtain ⟨z31, k32, lz31, uz31⟩ := hH0.ld (c := 175) (i := ((a1 + 102)).toNat) (A := (-20) * X) (B := 99) (bs_11_8 _ _ (by omega) (by omega))
   refine jx_iald c1 hm rfl sh_175 ⟨by omega, by omega⟩ k32 ?_
   refine jx_load c1 hm rfl rfl rfl rfl ?_
   refine jx_getr c1 hm rfl sh_173 rfl ?_
   refine jy_ic c1 hm rfl (by decide) ?_
   refine jx_load c1 hm rfl rfl rfl rfl ?_
   refine jy_add c1 hm (a1 + 5) rfl (by omega) ?_
   obtain ⟨z33, k34, lz33, uz33⟩ := hH0.ld (c := 175) (i := ((a1 + 5)).toNat) (A := 0) (B := 99) (bs_11_2 _ _ (by omega) (by omega))
   refine jx_iald c1 hm rfl sh_175 ⟨by omega, by omega⟩ k34 ?_
   refine jc_ne c1 hm 192 rfl rfl (fun h35 => ?_) (fun h35 => ?_)
   ·
    refine jy_ic c1 hm rfl (by decide) ?_
    exact jx_retz c2 hm rfl rfl ⟨by omega, by omega⟩ ⟨_, rfl, hH0, hF0, by omega, by omega⟩
   refine jy_ic c1 hm rfl (by decide) ?_
   refine jx_goto c1 hm 193 rfl rfl ?_
   exact jx_retz c2 hm rfl rfl ⟨by omega, by omega⟩ ⟨_, rfl, hH0, hF0, by omega, by omega⟩
  by_cases h36 : z5 = 67
  ·
   refine jx_lsw c1 hm 194 rfl rfl (by rw [h36] <;> rfl) rfl ?_
   refine jx_load c1 hm rfl rfl rfl rfl ?_
   refine jx_load c1 hm rfl rfl rfl rfl ?_
   refine jx_load c1 hm rfl rfl rfl rfl ?_
   have t37 : 0 ≤ z1 ∧ z1 ≤ 5 := by omega
   refine jv_i c3 hm rfl pj_X12_owesOf rfl rfl ⟨_, _, _, rfl, sh_173⟩ rfl ((ct_X12_owesOf_173 X (by omega) M0 hH0 a1 ⟨by omega, by omega⟩ z1 ⟨by omega, by omega⟩).le (by omega)) (fun z38 _ ⟨rfl, lz38, uz38, p39⟩ => ?_)
   refine jz_le c1 hm 208 rfl rfl (fun h40 => ?_) (fun h40 => ?_)
   ·
    refine jy_ic c1 hm rfl (by decide) ?_
    exact jx_retz c2 hm rfl rfl ⟨by omega, by omega⟩ ⟨_, rfl, hH0, hF0, by omega, by omega⟩
   refine jy_ic c1 hm rfl (by decide) ?_
   refine jx_goto c1 hm 209 rfl rfl ?_
   exact jx_retz c2 hm rfl rfl ⟨by omega, by omega⟩ ⟨_, rfl, hH0, hF0, by omega, by omega⟩
  by_cases h41 : z5 = 68
  ·
   refine jx_lsw c1 hm 210 rfl rfl (by rw [h41] <;> rfl) rfl ?_
   refine jx_load c1 hm rfl rfl rfl rfl ?_
   refine jx_load c1 hm rfl rfl rfl rfl ?_
   refine jv_i c3 hm rfl pj_X12_goodsOf rfl rfl ⟨_, _, _, rfl, sh_173⟩ rfl ((ct_X12_goodsOf_173 X (by omega) M0 hH0 a1 ⟨by omega, by omega⟩).le (by omega)) (fun z42 _ ⟨rfl, lz42, uz42⟩ => ?_)
   refine jx_load c1 hm rfl rfl rfl rfl ?_
   refine jt_i c3 hm rfl rfl pj_X12_has rfl rfl rfl ((ct_X12_has X (by omega) M0 hH0 z42 ⟨by omega, by omega⟩ z1 ⟨by omega, by omega⟩).le (by omega)) (fun z43 _ ⟨rfl, lz43, uz43⟩ => ?_)
   exact jx_retz c2 hm rfl rfl ⟨by omega, by omega⟩ ⟨_, rfl, hH0, hF0, by omega, by omega⟩
  by_cases h44 : z5 = 69
  ·
   refine jx_lsw c1 hm 221 rfl rfl (by rw [h44] <;> rfl) rfl ?_
   refine jx_load c1 hm rfl rfl rfl rfl ?_
   refine jx_load c1 hm rfl rfl rfl rfl ?_
   refine jx_load c1 hm rfl rfl rfl rfl ?_
   have t45 : 0 ≤ z1 ∧ z1 ≤ 5 := by omega
   refine jv_i c3 hm rfl pj_X12_timesOf rfl rfl ⟨_, _, _, rfl, sh_173⟩ rfl ((ct_X12_timesOf_173 X (by omega) M0 hH0 a1 ⟨by omega, by omega⟩ z1 ⟨by omega, by omega⟩).le (by omega)) (fun z46 _ ⟨rfl, lz46, uz46, p47⟩ => ?_)
   refine jz_le c1 hm 235 rfl rfl (fun h48 => ?_) (fun h48 => ?_)
   ·
    refine jy_ic c1 hm rfl (by decide) ?_
    exact jx_retz c2 hm rfl rfl ⟨by omega, by omega⟩ ⟨_, rfl, hH0, hF0, by omega, by omega⟩
   refine jy_ic c1 hm rfl (by decide) ?_
   refine jx_goto c1 hm 236 rfl rfl ?_
   exact jx_retz c2 hm rfl rfl ⟨by omega, by omega⟩ ⟨_, rfl, hH0, hF0, by omega, by omega⟩
  refine jx_lsw c1 hm 237 rfl rfl (jlsd ⟨by omega, by omega, by omega, by omega, by omega, by omega, by omega, trivial⟩) rfl ?_
  refine jx_load c1 hm rfl rfl rfl rfl ?_
  refine jx_getr c1 hm rfl sh_173 rfl ?_
  refine jx_load c1 hm rfl rfl rfl rfl ?_
  obtain ⟨z49, k50, lz49, uz49⟩ := hH0.ld (c := 175) (i := ((4 * a0 + 236)).toNat) (A := (-2147483648)) (B := 2147483647) (bs_11_11 _ _ (by omega) (by omega))
  refine jx_iald c1 hm rfl sh_175 ⟨by omega, by omega⟩ k50 ?_
  refine jy_bp c1 hm rfl (by decide) ?_
  refine jx_iopw c1 hm rfl rfl (fun z51 lz51 uz51 => ?_)
  refine jx_stor c1 hm (L' := [some (.inr (.inr (.inl 173))), some (.inl a0), some (.inl a1), some (.inl (4 * a0 + 236)), some (.inl z1), some (.inl z3), some (.inl z51), none]) rfl rfl rfl rfl rfl ?_
  refine jx_load c1 hm rfl rfl rfl rfl ?_
  refine jy_bp c1 hm rfl (by decide) ?_
  have J61 : ∀ (b60 : Int) (hb60 : (-2147483648) ≤ b60 ∧ b60 ≤ 2147483647), F 302 [some (.inr (.inr (.inl 173))), some (.inl a0), some (.inl a1), some (.inl (4 * a0 + 236)), some (.inl z1), some (.inl z3), some (.inl z51), none] [.inl b60] M0 := by
   intro b60 hb60
   refine jx_stor c1 hm (L' := [some (.inr (.inr (.inl 173))), some (.inl a0), some (.inl a1), some (.inl (4 * a0 + 236)), some (.inl z1), some (.inl z3), some (.inl z51), some (.inl b60)]) rfl rfl rfl rfl rfl ?_
   refine jx_load c1 hm rfl rfl rfl rfl ?_
   refine jx_getr c1 hm rfl sh_173 rfl ?_
   refine jx_load c1 hm rfl rfl rfl rfl ?_
   refine jy_ic c1 hm rfl (by decide) ?_
   refine jy_add c1 hm (4 * a0 + 239) rfl (by omega) ?_
   obtain ⟨z62, k63, lz62, uz62⟩ := hH0.ld (c := 175) (i := ((4 * a0 + 239)).toNat) (A := (-2147483648)) (B := 2147483647) (bs_11_11 _ _ (by omega) (by omega))
   refine jx_iald c1 hm rfl sh_175 ⟨by omega, by omega⟩ k63 ?_
   refine jy_bp c1 hm rfl (by decide) ?_
   refine jc_ne c1 hm 332 rfl rfl (fun h64 => ?_) (fun h64 => ?_)
   ·
    refine jx_load c1 hm rfl rfl rfl rfl ?_
    refine jx_getr c1 hm rfl sh_173 rfl ?_
    refine jx_load c1 hm rfl rfl rfl rfl ?_
    refine jy_ic c1 hm rfl (by decide) ?_
    refine jy_add c1 hm (4 * a0 + 239) rfl (by omega) ?_
    obtain ⟨z65, k66, lz65, uz65⟩ := hH0.ld (c := 175) (i := ((4 * a0 + 239)).toNat) (A := (-2147483648)) (B := 2147483647) (bs_11_11 _ _ (by omega) (by omega))
    refine jx_iald c1 hm rfl sh_175 ⟨by omega, by omega⟩ k66 ?_
    refine jy_bp c1 hm rfl (by decide) ?_
    refine jc_ne c1 hm 360 rfl rfl (fun h67 => ?_) (fun h67 => ?_)
    ·
     refine jx_load c1 hm rfl rfl rfl rfl ?_
     refine jx_load c1 hm rfl rfl rfl rfl ?_
     refine jc_le c1 hm 371 rfl rfl (fun h68 => ?_) (fun h68 => ?_)
     ·
      refine jy_ic c1 hm rfl (by decide) ?_
      exact jx_retz c2 hm rfl rfl ⟨by omega, by omega⟩ ⟨_, rfl, hH0, hF0, by omega, by omega⟩
     refine jy_ic c1 hm rfl (by decide) ?_
     refine jx_goto c1 hm 372 rfl rfl ?_
     exact jx_retz c2 hm rfl rfl ⟨by omega, by omega⟩ ⟨_, rfl, hH0, hF0, by omega, by omega⟩
    refine jx_load c1 hm rfl rfl rfl rfl ?_
    refine jx_load c1 hm rfl rfl rfl rfl ?_
    refine jc_ne c1 hm 356 rfl rfl (fun h69 => ?_) (fun h69 => ?_)
    ·
     refine jy_ic c1 hm rfl (by decide) ?_
     refine jx_goto c1 hm 372 rfl rfl ?_
     exact jx_retz c2 hm rfl rfl ⟨by omega, by omega⟩ ⟨_, rfl, hH0, hF0, by omega, by omega⟩
    refine jy_ic c1 hm rfl (by decide) ?_
    refine jx_goto c1 hm 372 rfl rfl ?_
    exact jx_retz c2 hm rfl rfl ⟨by omega, by omega⟩ ⟨_, rfl, hH0, hF0, by omega, by omega⟩
   refine jx_load c1 hm rfl rfl rfl rfl ?_
   refine jx_load c1 hm rfl rfl rfl rfl ?_
   refine jc_ge c1 hm 328 rfl rfl (fun h70 => ?_) (fun h70 => ?_)
   ·
    refine jy_ic c1 hm rfl (by decide) ?_
    refine jx_goto c1 hm 372 rfl rfl ?_
    exact jx_retz c2 hm rfl rfl ⟨by omega, by omega⟩ ⟨_, rfl, hH0, hF0, by omega, by omega⟩
   refine jy_ic c1 hm rfl (by decide) ?_
   refine jx_goto c1 hm 372 rfl rfl ?_
   exact jx_retz c2 hm rfl rfl ⟨by omega, by omega⟩ ⟨_, rfl, hH0, hF0, by omega, by omega⟩
  refine jc_ne c1 hm 267 rfl rfl (fun h52 => ?_) (fun h52 => ?_)
  ·
   refine jx_load c1 hm rfl rfl rfl rfl ?_
   refine jy_bp c1 hm rfl (by decide) ?_
   refine jc_ne c1 hm 286 rfl rfl (fun h53 => ?_) (fun h53 => ?_)
   ·
    refine jx_load c1 hm rfl rfl rfl rfl ?_
    refine jy_bp c1 hm rfl (by decide) ?_
    refine jc_ne c1 hm 301 rfl rfl (fun h54 => ?_) (fun h54 => ?_)
    ·
     refine jx_load c1 hm rfl rfl rfl rfl ?_
     exact J61 a1 (by omega)
    refine jx_load c1 hm rfl rfl rfl rfl ?_
    refine jx_load c1 hm rfl rfl rfl rfl ?_
    refine jv_i c3 hm rfl pj_X12_owesAll rfl rfl ⟨_, _, _, rfl, sh_173⟩ rfl ((ct_X12_owesAll_173 X (by omega) M0 hH0 a1 ⟨by omega, by omega⟩).le (by omega)) (fun z55 _ ⟨rfl, lz55, uz55⟩ => ?_)
    refine jx_goto c1 hm 302 rfl rfl ?_
    exact J61 z55 (by omega)
   refine jx_load c1 hm rfl rfl rfl rfl ?_
   refine jx_getr c1 hm rfl sh_173 rfl ?_
   refine jy_bp c1 hm rfl (by decide) ?_
   refine jx_load c1 hm rfl rfl rfl rfl ?_
   refine jy_add c1 hm (a1 + 108) rfl (by omega) ?_
   obtain ⟨z56, k57, lz56, uz56⟩ := hH0.ld (c := 175) (i := ((a1 + 108)).toNat) (A := (-2147483648)) (B := 2147483647) (bs_11_9 _ _ (by omega) (by omega))
   refine jx_iald c1 hm rfl sh_175 ⟨by omega, by omega⟩ k57 ?_
   refine jx_goto c1 hm 302 rfl rfl ?_
   exact J61 z56 (by omega)
  refine jx_load c1 hm rfl rfl rfl rfl ?_
  refine jx_getr c1 hm rfl sh_173 rfl ?_
  refine jy_bp c1 hm rfl (by decide) ?_
  refine jx_load c1 hm rfl rfl rfl rfl ?_
  refine jy_add c1 hm (a1 + 102) rfl (by omega) ?_
  obtain ⟨z58, k59, lz58, uz58⟩ := hH0.ld (c := 175) (i := ((a1 + 102)).toNat) (A := (-20) * X) (B := 99) (bs_11_8 _ _ (by omega) (by omega))
  refine jx_iald c1 hm rfl sh_175 ⟨by omega, by omega⟩ k59 ?_
  refine jx_goto c1 hm 302 rfl rfl ?_
  exact J61 z58 (by omega)
def md_X12_said_173 : List (Nat × (Nat × Nat)) := [(173, (0, 0))]
theorem ct_X12_said_173 (X : Int) (hX : 0 ≤ X ∧ X ≤ 100000000) (M0 : JM) (hH0 : HI X M0) (a0 : Int) (ha0 : (-2147483648) ≤ a0 ∧ a0 ≤ 2147483647) (hp0 : SOK M0) : JOk shp PJ 64 178 [.inr (.inr (.inl 173)), .inl a0] M0 (jRi (fun v M' => HI X M' ∧ Fr md_X12_said_173 M0 M' ∧ (-1) ≤ v ∧ v ≤ 6 )) := by
 refine ⟨jr_X12_said, pj_X12_said, fun F c1 c2 c3 => ?_⟩
 have hm := pj_X12_said
 change F 0 [some (.inr (.inr (.inl 173))), some (.inl a0), none, none] [] M0
 have hF0 : Fr md_X12_said_173 M0 M0 := Fr.rf _ _
 obtain ⟨z1, k2, lz1, uz1⟩ := hH0.ld (c := 175) (i := 234) (A := (-2147483648)) (B := 2147483647) (bs_11_11 _ _ (by omega) (by omega))
 obtain ⟨z3, k4, lz3, uz3⟩ := hH0.ld (c := 175) (i := 235) (A := (-2147483648)) (B := 2147483647) (bs_11_11 _ _ (by omega) (by omega))
 refine jx_load c1 hm rfl rfl rfl rfl ?_
 refine jy_ic c1 hm rfl (by decide) ?_
 obtain ⟨M5, e5, hH5, hF5, k5, n5, q5⟩ := mup hH0 hF0 (c := 173) (i := 0) (v := 0) (A := (-2147483648)) (B := 2147483647) (bs_28_0 _ _ (by omega) (by omega)) ⟨by omega, by omega⟩ (jin_of 0 rfl ⟨by omega, by omega⟩)
 refine jm_puti c1 hm rfl sh_173 rfl e5 ?_
 refine jx_load c1 hm rfl rfl rfl rfl ?_
 refine jx_getr c1 hm rfl sh_173 rfl ?_
 refine jy_sp c1 hm rfl (by decide) ?_
 have k6 : M5.1 175 234 = z1 := (n5 175 234 (fun h => absurd h.1 (by decide))).trans k2
 refine jx_iald c1 hm rfl sh_175 ⟨by omega, by omega⟩ k6 ?_
 refine jz_ne c1 hm 18 rfl rfl (fun h7 => ?_) (fun h7 => ?_)
 ·
  refine jy_ic c1 hm rfl (by decide) ?_
  refine jx_stor c1 hm (L' := [some (.inr (.inr (.inl 173))), some (.inl a0), some (.inl 0), none]) rfl rfl rfl rfl rfl ?_
  obtain ⟨n0, y1, y2, y3, y4⟩ := hp0.resolve_left (by omega)
  refine jy_ic c1 hm rfl (by decide) ?_
  refine jx_stor c1 hm (L' := [some (.inr (.inr (.inl 173))), some (.inl a0), some (.inl 0), some (.inl 0)]) rfl rfl rfl rfl rfl ?_
  have W17 : ∀ (n18 : Nat) (b8 : Int) (hb8 : 0 ≤ b8 ∧ b8 ≤ 7) (b9 : Int) (hb9 : 0 ≤ b9 ∧ b9 ≤ 6) (M10 : JM) (hH10 : HI (X) M10) (hF10 : Fr md_X12_said_173 M0 M10) (k11 : M10.1 173 0 = 0) (k13 : M10.1 175 235 = z3) (h14 : 0 ≤ M10.1 175 235 ∧ M10.1 175 235 ≤ 59) (h15 : b8 ≤ b9) (hts : TRS M10 (M10.1 175 235 + 1)), (-b9 + 6) < (n18 : Int) → F 22 [some (.inr (.inr (.inl 173))), some (.inl a0), some (.inl b8), some (.inl b9)] [] M10 := by
   intro n18
   induction n18 with
   | zero => intros; omega
   | succ n18 ihW17 =>
    intro b8 hb8 b9 hb9 M10 hH10 hF10 k11 k13 h14 h15 hts hrW17
    refine jx_load c1 hm rfl rfl rfl rfl ?_
    refine jx_load c1 hm rfl rfl rfl rfl ?_
    refine jx_getr c1 hm rfl sh_173 rfl ?_
    refine jy_ic c1 hm rfl (by decide) ?_
    obtain ⟨z19, k20, lz19, uz19⟩ := hH10.ld (c := 175) (i := 0) (A := 0) (B := 6) (bs_11_0 _ _ (by omega) (by omega))
    refine jx_iald c1 hm rfl sh_175 ⟨by omega, by omega⟩ k20 ?_
    refine jc_ge c1 hm 67 rfl rfl (fun h21 => ?_) (fun h21 => ?_)
    ·
     refine jx_load c1 hm rfl rfl rfl rfl ?_
     refine jy_ic c1 hm rfl (by decide) ?_
     refine jc_ne c1 hm 76 rfl rfl (fun h22 => ?_) (fun h22 => ?_)
     ·
      refine jy_ic c1 hm rfl (by decide) ?_
      exact jx_reti c2 hm rfl rfl ⟨_, rfl, hH10, hF10, by omega, by omega⟩
     refine jx_load c1 hm rfl rfl rfl rfl ?_
     refine jx_goto c1 hm 77 rfl rfl ?_
     exact jx_reti c2 hm rfl rfl ⟨_, rfl, hH10, hF10, by omega, by omega⟩
    refine jx_load c1 hm rfl rfl rfl rfl ?_
    refine jx_load c1 hm rfl rfl rfl rfl ?_
    refine jx_getr c1 hm rfl sh_173 rfl ?_
    refine jy_sp c1 hm rfl (by decide) ?_
    refine jx_iald c1 hm rfl sh_175 ⟨by omega, by omega⟩ k13 ?_
    refine jx_load c1 hm rfl rfl rfl rfl ?_
    refine jv_i c3 hm rfl pj_X12_holds rfl rfl ⟨_, _, _, rfl, sh_173⟩ rfl ((ct_X12_holds_173 60 X (by omega) M10 hH10 z3 ⟨by omega, by omega⟩ b9 ⟨by omega, by omega⟩ (TRS.cg hts (fun _ => rfl) (by omega)) (by omega)).le (by decide)) (fun z23 M24 ⟨hH24, hR24, lz23, uz23⟩ => ?_)
    have hF24 := hF10.tr hR24 (by decide +kernel)
    refine jz_ne c1 hm 51 rfl rfl (fun h25 => ?_) (fun h25 => ?_)
    ·
     refine jx_load c1 hm rfl rfl rfl rfl ?_
     refine jx_load c1 hm rfl rfl rfl rfl ?_
     refine jc_ne c1 hm 58 rfl rfl (fun h26 => ?_) (fun h26 => ?_)
     ·
      refine jx_iinc c1 hm (v := (b8 + 1)) (L' := [some (.inr (.inr (.inl 173))), some (.inl a0), some (.inl (b8 + 1)), some (.inl b9)]) rfl rfl (by omega) (by omega) rfl ?_
      refine jx_iinc c1 hm (v := (b9 + 1)) (L' := [some (.inr (.inr (.inl 173))), some (.inl a0), some (.inl (b8 + 1)), some (.inl (b9 + 1))]) rfl rfl (by omega) (by omega) rfl ?_
      refine jx_goto c1 hm 22 rfl rfl ?_
      have k27 : M24.1 173 0 = 0 := (hR24 173 0 (by decide +kernel)).trans k11
      have k28 : M24.1 175 235 = z3 := (hR24 175 235 (by decide +kernel)).trans k13
      exact ihW17 (b8 + 1) (by omega) (b9 + 1) (by omega) M24 hH24 hF24 k27 k28 (by omega) (by omega) (TRS.cg hts (fun j => (hR24 175 j rfl)) (by omega)) (by omega)
     refine jx_load c1 hm rfl rfl rfl rfl ?_
     exact jx_reti c2 hm rfl rfl ⟨_, rfl, hH24, hF24, by omega, by omega⟩
    refine jx_goto c1 hm 61 rfl rfl ?_
    refine jx_iinc c1 hm (v := (b9 + 1)) (L' := [some (.inr (.inr (.inl 173))), some (.inl a0), some (.inl b8), some (.inl (b9 + 1))]) rfl rfl (by omega) (by omega) rfl ?_
    refine jx_goto c1 hm 22 rfl rfl ?_
    have k29 : M24.1 173 0 = 0 := (hR24 173 0 (by decide +kernel)).trans k11
    have k30 : M24.1 175 235 = z3 := (hR24 175 235 (by decide +kernel)).trans k13
    exact ihW17 b8 (by omega) (b9 + 1) (by omega) M24 hH24 hF24 k29 k30 (by omega) (by omega) (TRS.cg hts (fun j => (hR24 175 j rfl)) (by omega)) (by omega)
  have k12 : M5.1 175 235 = z3 := (n5 175 235 (fun h => absurd h.1 (by decide))).trans k4
  exact W17 (6 + 1 : Int).toNat 0 (by omega) 0 (by omega) M5 hH5 hF5 k5 k12 (by omega) (by omega) (TRS.cg y4 (fun j => (n5 175 j (fun h => absurd h.1 (by decide)))) (by omega)) (by omega)
 refine jy_ic c1 hm rfl (by decide) ?_
 exact jx_reti c2 hm rfl rfl ⟨_, rfl, hH5, hF5, by omega, by omega⟩
