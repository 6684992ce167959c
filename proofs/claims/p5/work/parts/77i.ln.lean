/-! Contracts of the reference, exact (by wip/q/wlk.py). -/
def ml_X12_readMan_173p : List (Nat × (Nat × Nat)) := [(173, (12, 12)), (181, (0, 17))]
def md_X12_readMan_173p : List (Nat × (Nat × Nat)) := [(173, (5, 5)), (173, (6, 6)), (173, (7, 7)), (173, (8, 8)), (173, (9, 9)), (173, (10, 10)), (173, (11, 11)), (173, (13, 13)), (176, (0, 0)), (176, (3, 100))]
theorem ct_X12_readMan_173p (X : Int) (hX : 0 ≤ X ∧ X ≤ 100000000) (M0 : JM) (hH0 : HI X M0)  : JOk shp PJ 5 162 [.inr (.inr (.inl 173))] M0 (jRi (fun v M' => HI X M' ∧ Fr md_X12_readMan_173p M0 M' ∧ 0 ≤ v ∧ v ≤ 1 ∧ (∀ (t : TXT) (σ : PSt), RS M0 t σ → 2 ≤ kK t σ → LRr t (manS t σ) v M') ∧ (LFr ml_X12_readMan_173p M0 M'))) := by
 refine ⟨jr_X12_readMan, pj_X12_readMan, fun F c1 c2 c3 => ?_⟩
 have hm := pj_X12_readMan
 change F 0 [some (.inr (.inr (.inl 173))), none] [] M0
 have hF0 : Fr md_X12_readMan_173p M0 M0 := Fr.rf _ _
 refine jx_load c1 hm rfl rfl rfl rfl ?_
 refine jy_ic c1 hm rfl (by decide) ?_
 refine jy_bp c1 hm rfl (by decide) ?_
 obtain ⟨z1, k2, lz1, uz1⟩ := hH0.ld (c := 176) (i := 2) (A := 0) (B := 6) (bs_12_0 _ _ (by omega) (by omega))
 obtain ⟨z3, k4, lz3, uz3⟩ := hH0.ld (c := 176) (i := 0) (A := 0) (B := 6) (bs_12_0 _ _ (by omega) (by omega))
 obtain ⟨z5, k6, lz5, uz5⟩ := hH0.ld (c := 176) (i := 1) (A := 0) (B := 6) (bs_12_0 _ _ (by omega) (by omega))
 refine jv_i c3 hm rfl pj_X12_readFirst rfl rfl ⟨_, _, _, rfl, sh_173⟩ rfl ((ct_X12_readFirst_173p X (by omega) M0 hH0 0 ⟨by omega, by omega⟩ 6 ⟨by omega, by omega⟩).le (by decide)) (fun z7 M13 ⟨hH13, hR13, lz7, uz7, p8, p9, p10, p11, p12⟩ => ?_)
 have hF13 := hF0.tr hR13 (by decide +kernel)
 refine jz_ne c1 hm 12 rfl rfl (fun h14 => ?_) (fun h14 => ?_)
 ·
  refine jx_load c1 hm rfl rfl rfl rfl ?_
  refine jx_getr c1 hm rfl sh_173 rfl ?_
  refine jy_ic c1 hm rfl (by decide) ?_
  have k15 : M13.1 176 0 = z3 := (hR13 176 0 (by decide +kernel)).trans k4
  refine jx_iald c1 hm rfl sh_176 ⟨by omega, by omega⟩ k15 ?_
  refine jx_stor c1 hm (L' := [some (.inr (.inr (.inl 173))), some (.inl z3)]) rfl rfl rfl rfl rfl ?_
  refine jx_load c1 hm rfl rfl rfl rfl ?_
  refine jx_load c1 hm rfl rfl rfl rfl ?_
  skip
  refine jv_i c3 hm rfl pj_X12_readNew rfl rfl ⟨_, _, _, rfl, sh_173⟩ rfl ((ct_X12_readNew_173p X (by omega) M13 hH13 z3 ⟨by omega, by omega⟩).le (by decide)) (fun z16 M20 ⟨hH20, hR20, lz16, uz16, p17, p18, p19⟩ => ?_)
  have hF20 := hF13.tr hR20 (by decide +kernel)
  refine jz_eq c1 hm 44 rfl rfl (fun h21 => ?_) (fun h21 => ?_)
  ·
   refine jy_ic c1 hm rfl (by decide) ?_
   exact jx_retz c2 hm rfl rfl ⟨by omega, by omega⟩ ⟨_, rfl, hH20, hF20, by omega, by omega, (fun t σ hσ hk => LRr.seqg (p11 t σ hσ hk) (by omega) (fun l1 h1 => LRr.seqz (p17 t _ 0 (by decide) h1 (by rw [(fst_lt hσ.2.2 l1).1]; exact (fst_lt hσ.2.2 l1).2) (by have y9 := h1.2.1.1 0 (by decide); omega)) (by omega))), (((LFr.rf _ _).tr p12 (by decide +kernel)).tr p19 (by decide +kernel))⟩
  refine jx_load c1 hm rfl rfl rfl rfl ?_
  refine jy_ic c1 hm rfl (by decide) ?_
  refine jx_load c1 hm rfl rfl rfl rfl ?_
  refine jy_add c1 hm (z3 + 5) rfl (by omega) ?_
  refine jx_load c1 hm rfl rfl rfl rfl ?_
  refine jy_ic c1 hm rfl (by decide) ?_
  refine jy_bp c1 hm rfl (by decide) ?_
  refine jv_i c3 hm rfl pj_X12_readNumber rfl rfl ⟨_, _, _, rfl, sh_173⟩ rfl ((ct_X12_readNumber_173p X (by omega) M20 hH20 0 ⟨by omega, by omega⟩ 99 ⟨by omega, by omega⟩).le (by decide)) (fun z22 M26 ⟨hH26, hR26, lz22, uz22, p23, p24, p25⟩ => ?_)
  have hF26 := hF20.tr hR26 (by decide +kernel)
  obtain ⟨z27, k28, lz27, uz27⟩ := hH26.ld (c := 173) (i := 13) (A := (-2147483648)) (B := 2147483647) (bs_28_7 _ _ (by omega) (by omega))
  refine jv_i c3 hm rfl pj_X12_put rfl rfl ⟨_, _, _, rfl, sh_173⟩ rfl ((ct_X12_put_173p X (by omega) M26 hH26 (z3 + 5) ⟨by omega, by omega⟩ z22 ⟨by omega, by omega⟩ (by rw [show bnd X 176 ((z3 + 5) : Int).toNat = (0, 99) from (bs_12_2 _ _ (by omega) (by omega))]; dsimp only; omega)).le (by decide)) (fun z29 M34 ⟨hH34, hR34, lz29, uz29, p30, p31, p32, p33⟩ => ?_)
  have hF34 := hF26.tr hR34 (by decide +kernel)
  refine jz_ne c1 hm 46 rfl rfl (fun h35 => ?_) (fun h35 => ?_)
  ·
   refine jx_load c1 hm rfl rfl rfl rfl ?_
   refine jx_getr c1 hm rfl sh_173 rfl ?_
   refine jy_ic c1 hm rfl (by decide) ?_
   refine jx_dup2 c1 hm rfl rfl rfl ?_
   have k36 : M34.1 176 0 = z3 := (hR34 176 0 (by decide +kernel)).trans ((hR26 176 0 (by decide +kernel)).trans ((hR20 176 0 (by decide +kernel)).trans k15))
   refine jx_iald c1 hm rfl sh_176 ⟨by omega, by omega⟩ k36 ?_
   refine jy_ic c1 hm rfl (by decide) ?_
   refine jy_add c1 hm (z3 + 1) rfl (by omega) ?_
   obtain ⟨M37, e37, hH37, hF37, k37, n37, q37⟩ := mup hH34 hF34 (c := 176) (i := 0) (v := (z3 + 1)) (A := 0) (B := 6) (bs_12_0 _ _ (by omega) (by omega)) ⟨by omega, by omega⟩ (jin_of 8 rfl ⟨by omega, by omega⟩)
   refine jm_iast c1 hm rfl sh_176 ⟨by omega, by omega⟩ e37 ?_
   refine jy_ic c1 hm rfl (by decide) ?_
   exact jx_retz c2 hm rfl rfl ⟨by omega, by omega⟩ ⟨_, rfl, hH37, hF37, by omega, by omega, (fun t σ hσ hk => LRr.seqg (p11 t σ hσ hk) (by omega) (fun l1 h1 => LRr.seqg (p17 t _ 0 (by decide) h1 (by rw [(fst_lt hσ.2.2 l1).1]; exact (fst_lt hσ.2.2 l1).2) (by have y9 := h1.2.1.1 0 (by decide); omega)) (by omega) (fun l2 h2 => LRr.seqg (LRr.put (p24 t _ h2) p31 (fun c i => p33 c i rfl) (by omega) p30) (by omega) (fun l3 h3 => LRr.o (radd_fin (s := 0) (j := z3) (by decide) h1 (by rw [(fst_lt hσ.2.2 l1).1]; exact (fst_lt hσ.2.2 l1).2) (p18 t _ h1 (by omega)).1 (p18 t _ h1 (by omega)).2.1 l2 (num_e3 h2.2.2 l3) h3 (by have y9 := h1.2.1.1 0 (by decide); omega) ((congrArg Int64.toInt ((p33 181 (z3).toNat rfl).trans (p25 181 (z3).toNat rfl))).trans (p18 t _ h1 (by omega)).2.2) (by omega) n37 q37) (show (-1 : Int) < 0 by decide))))), ((((((LFr.rf _ _).tr p12 (by decide +kernel)).tr p19 (by decide +kernel)).tr p25 (by decide +kernel)).tr p33 (by decide +kernel)).eq q37)⟩
  refine jy_ic c1 hm rfl (by decide) ?_
  exact jx_retz c2 hm rfl rfl ⟨by omega, by omega⟩ ⟨_, rfl, hH34, hF34, by omega, by omega, (fun t σ hσ hk => LRr.seqg (p11 t σ hσ hk) (by omega) (fun l1 h1 => LRr.seqg (p17 t _ 0 (by decide) h1 (by rw [(fst_lt hσ.2.2 l1).1]; exact (fst_lt hσ.2.2 l1).2) (by have y9 := h1.2.1.1 0 (by decide); omega)) (by omega) (fun l2 h2 => LRr.seqz (LRr.put (p24 t _ h2) p31 (fun c i => p33 c i rfl) (by omega) p30) (by omega)))), (((((LFr.rf _ _).tr p12 (by decide +kernel)).tr p19 (by decide +kernel)).tr p25 (by decide +kernel)).tr p33 (by decide +kernel))⟩
 refine jy_ic c1 hm rfl (by decide) ?_
 exact jx_retz c2 hm rfl rfl ⟨by omega, by omega⟩ ⟨_, rfl, hH13, hF13, by omega, by omega, (fun t σ hσ hk => LRr.seqz (p11 t σ hσ hk) (by omega)), ((LFr.rf _ _).tr p12 (by decide +kernel))⟩
def ml_X12_readForfeit_173p : List (Nat × (Nat × Nat)) := [(173, (12, 12)), (181, (0, 17))]
def md_X12_readForfeit_173p : List (Nat × (Nat × Nat)) := [(173, (5, 5)), (173, (6, 6)), (173, (7, 7)), (173, (8, 8)), (173, (9, 9)), (173, (10, 10)), (173, (11, 11)), (173, (13, 13)), (176, (1, 1)), (176, (3, 100))]
theorem ct_X12_readForfeit_173p (X : Int) (hX : 0 ≤ X ∧ X ≤ 100000000) (M0 : JM) (hH0 : HI X M0)  : JOk shp PJ 5 159 [.inr (.inr (.inl 173))] M0 (jRi (fun v M' => HI X M' ∧ Fr md_X12_readForfeit_173p M0 M' ∧ 0 ≤ v ∧ v ≤ 1 ∧ (∀ (t : TXT) (σ : PSt), RS M0 t σ → 2 ≤ kK t σ → LRr t (forS t σ) v M') ∧ (LFr ml_X12_readForfeit_173p M0 M'))) := by
 refine ⟨jr_X12_readForfeit, pj_X12_readForfeit, fun F c1 c2 c3 => ?_⟩
 have hm := pj_X12_readForfeit
 change F 0 [some (.inr (.inr (.inl 173))), none] [] M0
 have hF0 : Fr md_X12_readForfeit_173p M0 M0 := Fr.rf _ _
 refine jx_load c1 hm rfl rfl rfl rfl ?_
 refine jy_ic c1 hm rfl (by decide) ?_
 refine jy_bp c1 hm rfl (by decide) ?_
 obtain ⟨z1, k2, lz1, uz1⟩ := hH0.ld (c := 176) (i := 2) (A := 0) (B := 6) (bs_12_0 _ _ (by omega) (by omega))
 obtain ⟨z3, k4, lz3, uz3⟩ := hH0.ld (c := 176) (i := 0) (A := 0) (B := 6) (bs_12_0 _ _ (by omega) (by omega))
 obtain ⟨z5, k6, lz5, uz5⟩ := hH0.ld (c := 176) (i := 1) (A := 0) (B := 6) (bs_12_0 _ _ (by omega) (by omega))
 refine jv_i c3 hm rfl pj_X12_readFirst rfl rfl ⟨_, _, _, rfl, sh_173⟩ rfl ((ct_X12_readFirst_173p X (by omega) M0 hH0 1 ⟨by omega, by omega⟩ 6 ⟨by omega, by omega⟩).le (by decide)) (fun z7 M13 ⟨hH13, hR13, lz7, uz7, p8, p9, p10, p11, p12⟩ => ?_)
 have hF13 := hF0.tr hR13 (by decide +kernel)
 refine jz_ne c1 hm 12 rfl rfl (fun h14 => ?_) (fun h14 => ?_)
 ·
  refine jx_load c1 hm rfl rfl rfl rfl ?_
  refine jx_getr c1 hm rfl sh_173 rfl ?_
  refine jy_ic c1 hm rfl (by decide) ?_
  have k15 : M13.1 176 1 = z5 := (hR13 176 1 (by decide +kernel)).trans k6
  refine jx_iald c1 hm rfl sh_176 ⟨by omega, by omega⟩ k15 ?_
  refine jx_stor c1 hm (L' := [some (.inr (.inr (.inl 173))), some (.inl z5)]) rfl rfl rfl rfl rfl ?_
  refine jx_load c1 hm rfl rfl rfl rfl ?_
  refine jy_bp c1 hm rfl (by decide) ?_
  refine jx_load c1 hm rfl rfl rfl rfl ?_
  refine jy_add c1 hm (z5 + 6) rfl (by omega) ?_
  skip
  refine jv_i c3 hm rfl pj_X12_readNew rfl rfl ⟨_, _, _, rfl, sh_173⟩ rfl ((ct_X12_readNew_173p X (by omega) M13 hH13 (z5 + 6) ⟨by omega, by omega⟩).le (by decide)) (fun z16 M20 ⟨hH20, hR20, lz16, uz16, p17, p18, p19⟩ => ?_)
  have hF20 := hF13.tr hR20 (by decide +kernel)
  refine jz_eq c1 hm 48 rfl rfl (fun h21 => ?_) (fun h21 => ?_)
  ·
   refine jy_ic c1 hm rfl (by decide) ?_
   exact jx_retz c2 hm rfl rfl ⟨by omega, by omega⟩ ⟨_, rfl, hH20, hF20, by omega, by omega, (fun t σ hσ hk => LRr.seqg (p11 t σ hσ hk) (by omega) (fun l1 h1 => LRr.seqz (p17 t _ 1 (by decide) h1 (by rw [(fst_lt hσ.2.2 l1).1]; exact (fst_lt hσ.2.2 l1).2) (by have y9 := h1.2.1.1 1 (by decide); omega)) (by omega))), (((LFr.rf _ _).tr p12 (by decide +kernel)).tr p19 (by decide +kernel))⟩
  refine jx_load c1 hm rfl rfl rfl rfl ?_
  refine jy_bp c1 hm rfl (by decide) ?_
  refine jx_load c1 hm rfl rfl rfl rfl ?_
  refine jy_add c1 hm (z5 + 11) rfl (by omega) ?_
  refine jx_load c1 hm rfl rfl rfl rfl ?_
  refine jy_ic c1 hm rfl (by decide) ?_
  refine jy_bp c1 hm rfl (by decide) ?_
  refine jv_i c3 hm rfl pj_X12_readNumber rfl rfl ⟨_, _, _, rfl, sh_173⟩ rfl ((ct_X12_readNumber_173p X (by omega) M20 hH20 0 ⟨by omega, by omega⟩ 20 ⟨by omega, by omega⟩).le (by decide)) (fun z22 M26 ⟨hH26, hR26, lz22, uz22, p23, p24, p25⟩ => ?_)
  have hF26 := hF20.tr hR26 (by decide +kernel)
  obtain ⟨z27, k28, lz27, uz27⟩ := hH26.ld (c := 173) (i := 13) (A := (-2147483648)) (B := 2147483647) (bs_28_7 _ _ (by omega) (by omega))
  refine jv_i c3 hm rfl pj_X12_put rfl rfl ⟨_, _, _, rfl, sh_173⟩ rfl ((ct_X12_put_173p X (by omega) M26 hH26 (z5 + 11) ⟨by omega, by omega⟩ z22 ⟨by omega, by omega⟩ (by rw [show bnd X 176 ((z5 + 11) : Int).toNat = (0, 20) from (bs_12_3 _ _ (by omega) (by omega))]; dsimp only; omega)).le (by decide)) (fun z29 M34 ⟨hH34, hR34, lz29, uz29, p30, p31, p32, p33⟩ => ?_)
  have hF34 := hF26.tr hR34 (by decide +kernel)
  refine jz_ne c1 hm 50 rfl rfl (fun h35 => ?_) (fun h35 => ?_)
  ·
   refine jx_load c1 hm rfl rfl rfl rfl ?_
   refine jx_getr c1 hm rfl sh_173 rfl ?_
   refine jy_ic c1 hm rfl (by decide) ?_
   refine jx_dup2 c1 hm rfl rfl rfl ?_
   have k36 : M34.1 176 1 = z5 := (hR34 176 1 (by decide +kernel)).trans ((hR26 176 1 (by decide +kernel)).trans ((hR20 176 1 (by decide +kernel)).trans k15))
   refine jx_iald c1 hm rfl sh_176 ⟨by omega, by omega⟩ k36 ?_
   refine jy_ic c1 hm rfl (by decide) ?_
   refine jy_add c1 hm (z5 + 1) rfl (by omega) ?_
   obtain ⟨M37, e37, hH37, hF37, k37, n37, q37⟩ := mup hH34 hF34 (c := 176) (i := 1) (v := (z5 + 1)) (A := 0) (B := 6) (bs_12_0 _ _ (by omega) (by omega)) ⟨by omega, by omega⟩ (jin_of 8 rfl ⟨by omega, by omega⟩)
   refine jm_iast c1 hm rfl sh_176 ⟨by omega, by omega⟩ e37 ?_
   refine jy_ic c1 hm rfl (by decide) ?_
   exact jx_retz c2 hm rfl rfl ⟨by omega, by omega⟩ ⟨_, rfl, hH37, hF37, by omega, by omega, (fun t σ hσ hk => LRr.seqg (p11 t σ hσ hk) (by omega) (fun l1 h1 => LRr.seqg (p17 t _ 1 (by decide) h1 (by rw [(fst_lt hσ.2.2 l1).1]; exact (fst_lt hσ.2.2 l1).2) (by have y9 := h1.2.1.1 1 (by decide); omega)) (by omega) (fun l2 h2 => LRr.seqg (LRr.put (p24 t _ h2) p31 (fun c i => p33 c i rfl) (by omega) p30) (by omega) (fun l3 h3 => LRr.o (radd_fin (s := 1) (j := (z5 + 6)) (by decide) h1 (by rw [(fst_lt hσ.2.2 l1).1]; exact (fst_lt hσ.2.2 l1).2) (p18 t _ h1 (by omega)).1 (p18 t _ h1 (by omega)).2.1 l2 (num_e3 h2.2.2 l3) h3 (by have y9 := h1.2.1.1 1 (by decide); omega) ((congrArg Int64.toInt ((p33 181 ((z5 + 6)).toNat rfl).trans (p25 181 ((z5 + 6)).toNat rfl))).trans (p18 t _ h1 (by omega)).2.2) (by omega) n37 q37) (show (-1 : Int) < 0 by decide))))), ((((((LFr.rf _ _).tr p12 (by decide +kernel)).tr p19 (by decide +kernel)).tr p25 (by decide +kernel)).tr p33 (by decide +kernel)).eq q37)⟩
  refine jy_ic c1 hm rfl (by decide) ?_
  exact jx_retz c2 hm rfl rfl ⟨by omega, by omega⟩ ⟨_, rfl, hH34, hF34, by omega, by omega, (fun t σ hσ hk => LRr.seqg (p11 t σ hσ hk) (by omega) (fun l1 h1 => LRr.seqg (p17 t _ 1 (by decide) h1 (by rw [(fst_lt hσ.2.2 l1).1]; exact (fst_lt hσ.2.2 l1).2) (by have y9 := h1.2.1.1 1 (by decide); omega)) (by omega) (fun l2 h2 => LRr.seqz (LRr.put (p24 t _ h2) p31 (fun c i => p33 c i rfl) (by omega) p30) (by omega)))), (((((LFr.rf _ _).tr p12 (by decide +kernel)).tr p19 (by decide +kernel)).tr p25 (by decide +kernel)).tr p33 (by decide +kernel))⟩
 refine jy_ic c1 hm rfl (by decide) ?_
 exact jx_retz c2 hm rfl rfl ⟨by omega, by omega⟩ ⟨_, rfl, hH13, hF13, by omega, by omega, (fun t σ hσ hk => LRr.seqz (p11 t σ hσ hk) (by omega)), ((LFr.rf _ _).tr p12 (by decide +kernel))⟩
def ml_X12_readGood_173p : List (Nat × (Nat × Nat)) := [(173, (12, 12)), (181, (0, 17))]
def md_X12_readGood_173p : List (Nat × (Nat × Nat)) := [(173, (5, 5)), (173, (6, 6)), (173, (7, 7)), (173, (8, 8)), (173, (9, 9)), (173, (10, 10)), (173, (11, 11)), (173, (13, 13)), (176, (2, 2)), (176, (3, 100))]
theorem ct_X12_readGood_173p (X : Int) (hX : 0 ≤ X ∧ X ≤ 100000000) (M0 : JM) (hH0 : HI X M0)  : JOk shp PJ 5 160 [.inr (.inr (.inl 173))] M0 (jRi (fun v M' => HI X M' ∧ Fr md_X12_readGood_173p M0 M' ∧ 0 ≤ v ∧ v ≤ 1 ∧ (∀ (t : TXT) (σ : PSt), RS M0 t σ → 2 ≤ kK t σ → LRr t (gooS t σ) v M') ∧ (LFr ml_X12_readGood_173p M0 M'))) := by
 refine ⟨jr_X12_readGood, pj_X12_readGood, fun F c1 c2 c3 => ?_⟩
 have hm := pj_X12_readGood
 change F 0 [some (.inr (.inr (.inl 173))), none] [] M0
 have hF0 : Fr md_X12_readGood_173p M0 M0 := Fr.rf _ _
 refine jx_load c1 hm rfl rfl rfl rfl ?_
 refine jy_ic c1 hm rfl (by decide) ?_
 refine jy_bp c1 hm rfl (by decide) ?_
 obtain ⟨z1, k2, lz1, uz1⟩ := hH0.ld (c := 176) (i := 2) (A := 0) (B := 6) (bs_12_0 _ _ (by omega) (by omega))
 obtain ⟨z3, k4, lz3, uz3⟩ := hH0.ld (c := 176) (i := 0) (A := 0) (B := 6) (bs_12_0 _ _ (by omega) (by omega))
 obtain ⟨z5, k6, lz5, uz5⟩ := hH0.ld (c := 176) (i := 1) (A := 0) (B := 6) (bs_12_0 _ _ (by omega) (by omega))
 refine jv_i c3 hm rfl pj_X12_readFirst rfl rfl ⟨_, _, _, rfl, sh_173⟩ rfl ((ct_X12_readFirst_173p X (by omega) M0 hH0 2 ⟨by omega, by omega⟩ 6 ⟨by omega, by omega⟩).le (by decide)) (fun z7 M13 ⟨hH13, hR13, lz7, uz7, p8, p9, p10, p11, p12⟩ => ?_)
 have hF13 := hF0.tr hR13 (by decide +kernel)
 refine jz_ne c1 hm 12 rfl rfl (fun h14 => ?_) (fun h14 => ?_)
 ·
  refine jx_load c1 hm rfl rfl rfl rfl ?_
  refine jx_getr c1 hm rfl sh_173 rfl ?_
  refine jy_ic c1 hm rfl (by decide) ?_
  have k15 : M13.1 176 2 = z1 := (hR13 176 2 (by decide +kernel)).trans k2
  refine jx_iald c1 hm rfl sh_176 ⟨by omega, by omega⟩ k15 ?_
  refine jx_stor c1 hm (L' := [some (.inr (.inr (.inl 173))), some (.inl z1)]) rfl rfl rfl rfl rfl ?_
  refine jx_load c1 hm rfl rfl rfl rfl ?_
  refine jy_bp c1 hm rfl (by decide) ?_
  refine jx_load c1 hm rfl rfl rfl rfl ?_
  refine jy_add c1 hm (z1 + 12) rfl (by omega) ?_
  skip
  refine jv_i c3 hm rfl pj_X12_readNew rfl rfl ⟨_, _, _, rfl, sh_173⟩ rfl ((ct_X12_readNew_173p X (by omega) M13 hH13 (z1 + 12) ⟨by omega, by omega⟩).le (by decide)) (fun z16 M20 ⟨hH20, hR20, lz16, uz16, p17, p18, p19⟩ => ?_)
  have hF20 := hF13.tr hR20 (by decide +kernel)
  refine jz_eq c1 hm 66 rfl rfl (fun h21 => ?_) (fun h21 => ?_)
  ·
   refine jy_ic c1 hm rfl (by decide) ?_
   exact jx_retz c2 hm rfl rfl ⟨by omega, by omega⟩ ⟨_, rfl, hH20, hF20, by omega, by omega, (fun t σ hσ hk => LRr.seqg (p11 t σ hσ hk) (by omega) (fun l1 h1 => LRr.seqz (p17 t _ 2 (by decide) h1 (by rw [(fst_lt hσ.2.2 l1).1]; exact (fst_lt hσ.2.2 l1).2) (by have y9 := h1.2.1.1 2 (by decide); omega)) (by omega))), (((LFr.rf _ _).tr p12 (by decide +kernel)).tr p19 (by decide +kernel))⟩
  refine jx_load c1 hm rfl rfl rfl rfl ?_
  refine jy_bp c1 hm rfl (by decide) ?_
  refine jx_load c1 hm rfl rfl rfl rfl ?_
  refine jy_add c1 hm (z1 + 53) rfl (by omega) ?_
  refine jx_load c1 hm rfl rfl rfl rfl ?_
  refine jy_ic c1 hm rfl (by decide) ?_
  refine jy_bp c1 hm rfl (by decide) ?_
  refine jv_i c3 hm rfl pj_X12_readNumber rfl rfl ⟨_, _, _, rfl, sh_173⟩ rfl ((ct_X12_readNumber_173p X (by omega) M20 hH20 1 ⟨by omega, by omega⟩ 99 ⟨by omega, by omega⟩).le (by decide)) (fun z22 M26 ⟨hH26, hR26, lz22, uz22, p23, p24, p25⟩ => ?_)
  have hF26 := hF20.tr hR26 (by decide +kernel)
  obtain ⟨z27, k28, lz27, uz27⟩ := hH26.ld (c := 173) (i := 13) (A := (-2147483648)) (B := 2147483647) (bs_28_7 _ _ (by omega) (by omega))
  refine jv_i c3 hm rfl pj_X12_put rfl rfl ⟨_, _, _, rfl, sh_173⟩ rfl ((ct_X12_put_173p X (by omega) M26 hH26 (z1 + 53) ⟨by omega, by omega⟩ z22 ⟨by omega, by omega⟩ (by rw [show bnd X 176 ((z1 + 53) : Int).toNat = (0, 99) from (bs_12_5 _ _ (by omega) (by omega))]; dsimp only; omega)).le (by decide)) (fun z29 M34 ⟨hH34, hR34, lz29, uz29, p30, p31, p32, p33⟩ => ?_)
  have hF34 := hF26.tr hR34 (by decide +kernel)
  refine jz_eq c1 hm 66 rfl rfl (fun h35 => ?_) (fun h35 => ?_)
  ·
   refine jy_ic c1 hm rfl (by decide) ?_
   exact jx_retz c2 hm rfl rfl ⟨by omega, by omega⟩ ⟨_, rfl, hH34, hF34, by omega, by omega, (fun t σ hσ hk => LRr.seqg (p11 t σ hσ hk) (by omega) (fun l1 h1 => LRr.seqg (p17 t _ 2 (by decide) h1 (by rw [(fst_lt hσ.2.2 l1).1]; exact (fst_lt hσ.2.2 l1).2) (by have y9 := h1.2.1.1 2 (by decide); omega)) (by omega) (fun l2 h2 => LRr.seqz (LRr.put (p24 t _ h2) p31 (fun c i => p33 c i rfl) (by omega) p30) (by omega)))), (((((LFr.rf _ _).tr p12 (by decide +kernel)).tr p19 (by decide +kernel)).tr p25 (by decide +kernel)).tr p33 (by decide +kernel))⟩
  refine jx_load c1 hm rfl rfl rfl rfl ?_
  refine jy_bp c1 hm rfl (by decide) ?_
  refine jx_load c1 hm rfl rfl rfl rfl ?_
  refine jy_add c1 hm (z1 + 59) rfl (by omega) ?_
  refine jx_load c1 hm rfl rfl rfl rfl ?_
  refine jy_ic c1 hm rfl (by decide) ?_
  refine jy_bp c1 hm rfl (by decide) ?_
  refine jv_i c3 hm rfl pj_X12_readNumber rfl rfl ⟨_, _, _, rfl, sh_173⟩ rfl ((ct_X12_readNumber_173p X (by omega) M34 hH34 0 ⟨by omega, by omega⟩ 20 ⟨by omega, by omega⟩).le (by decide)) (fun z36 M40 ⟨hH40, hR40, lz36, uz36, p37, p38, p39⟩ => ?_)
  have hF40 := hF34.tr hR40 (by decide +kernel)
  obtain ⟨z41, k42, lz41, uz41⟩ := hH40.ld (c := 173) (i := 13) (A := (-2147483648)) (B := 2147483647) (bs_28_7 _ _ (by omega) (by omega))
  refine jv_i c3 hm rfl pj_X12_put rfl rfl ⟨_, _, _, rfl, sh_173⟩ rfl ((ct_X12_put_173p X (by omega) M40 hH40 (z1 + 59) ⟨by omega, by omega⟩ z36 ⟨by omega, by omega⟩ (by rw [show bnd X 176 ((z1 + 59) : Int).toNat = (0, 20) from (bs_12_6 _ _ (by omega) (by omega))]; dsimp only; omega)).le (by decide)) (fun z43 M48 ⟨hH48, hR48, lz43, uz43, p44, p45, p46, p47⟩ => ?_)
  have hF48 := hF40.tr hR48 (by decide +kernel)
  refine jz_ne c1 hm 68 rfl rfl (fun h49 => ?_) (fun h49 => ?_)
  ·
   refine jx_load c1 hm rfl rfl rfl rfl ?_
   refine jx_getr c1 hm rfl sh_173 rfl ?_
   refine jy_ic c1 hm rfl (by decide) ?_
   refine jx_dup2 c1 hm rfl rfl rfl ?_
   have k50 : M48.1 176 2 = z1 := (hR48 176 2 (by decide +kernel)).trans ((hR40 176 2 (by decide +kernel)).trans ((hR34 176 2 (by decide +kernel)).trans ((hR26 176 2 (by decide +kernel)).trans ((hR20 176 2 (by decide +kernel)).trans k15))))
   refine jx_iald c1 hm rfl sh_176 ⟨by omega, by omega⟩ k50 ?_
   refine jy_ic c1 hm rfl (by decide) ?_
   refine jy_add c1 hm (z1 + 1) rfl (by omega) ?_
   obtain ⟨M51, e51, hH51, hF51, k51, n51, q51⟩ := mup hH48 hF48 (c := 176) (i := 2) (v := (z1 + 1)) (A := 0) (B := 6) (bs_12_0 _ _ (by omega) (by omega)) ⟨by omega, by omega⟩ (jin_of 8 rfl ⟨by omega, by omega⟩)
   refine jm_iast c1 hm rfl sh_176 ⟨by omega, by omega⟩ e51 ?_
   refine jy_ic c1 hm rfl (by decide) ?_
   exact jx_retz c2 hm rfl rfl ⟨by omega, by omega⟩ ⟨_, rfl, hH51, hF51, by omega, by omega, (fun t σ hσ hk => LRr.seqg (p11 t σ hσ hk) (by omega) (fun l1 h1 => LRr.seqg (p17 t _ 2 (by decide) h1 (by rw [(fst_lt hσ.2.2 l1).1]; exact (fst_lt hσ.2.2 l1).2) (by have y9 := h1.2.1.1 2 (by decide); omega)) (by omega) (fun l2 h2 => LRr.seqg (LRr.put (p24 t _ h2) p31 (fun c i => p33 c i rfl) (by omega) p30) (by omega) (fun l3 h3 => LRr.seqg (LRr.put (p38 t _ h3) p45 (fun c i => p47 c i rfl) (by omega) p44) (by omega) (fun l4 h4 => LRr.o (radd_fin (s := 2) (j := (z1 + 12)) (by decide) h1 (by rw [(fst_lt hσ.2.2 l1).1]; exact (fst_lt hσ.2.2 l1).2) (p18 t _ h1 (by omega)).1 (p18 t _ h1 (by omega)).2.1 l2 ((num_e3 h3.2.2 l4).trans (num_e3 h2.2.2 l3)) h4 (by have y9 := h1.2.1.1 2 (by decide); omega) ((congrArg Int64.toInt ((((p47 181 ((z1 + 12)).toNat rfl).trans (p39 181 ((z1 + 12)).toNat rfl)).trans (p33 181 ((z1 + 12)).toNat rfl)).trans (p25 181 ((z1 + 12)).toNat rfl))).trans (p18 t _ h1 (by omega)).2.2) (by omega) n51 q51) (show (-1 : Int) < 0 by decide)))))), ((((((((LFr.rf _ _).tr p12 (by decide +kernel)).tr p19 (by decide +kernel)).tr p25 (by decide +kernel)).tr p33 (by decide +kernel)).tr p39 (by decide +kernel)).tr p47 (by decide +kernel)).eq q51)⟩
  refine jy_ic c1 hm rfl (by decide) ?_
  exact jx_retz c2 hm rfl rfl ⟨by omega, by omega⟩ ⟨_, rfl, hH48, hF48, by omega, by omega, (fun t σ hσ hk => LRr.seqg (p11 t σ hσ hk) (by omega) (fun l1 h1 => LRr.seqg (p17 t _ 2 (by decide) h1 (by rw [(fst_lt hσ.2.2 l1).1]; exact (fst_lt hσ.2.2 l1).2) (by have y9 := h1.2.1.1 2 (by decide); omega)) (by omega) (fun l2 h2 => LRr.seqg (LRr.put (p24 t _ h2) p31 (fun c i => p33 c i rfl) (by omega) p30) (by omega) (fun l3 h3 => LRr.seqz (LRr.put (p38 t _ h3) p45 (fun c i => p47 c i rfl) (by omega) p44) (by omega))))), (((((((LFr.rf _ _).tr p12 (by decide +kernel)).tr p19 (by decide +kernel)).tr p25 (by decide +kernel)).tr p33 (by decide +kernel)).tr p39 (by decide +kernel)).tr p47 (by decide +kernel))⟩
 refine jy_ic c1 hm rfl (by decide) ?_
 exact jx_retz c2 hm rfl rfl ⟨by omega, by omega⟩ ⟨_, rfl, hH13, hF13, by omega, by omega, (fun t σ hσ hk => LRr.seqz (p11 t σ hσ hk) (by omega)), ((LFr.rf _ _).tr p12 (by decide +kernel))⟩
def ml_X12_readMinds_173p : List (Nat × (Nat × Nat)) := [(173, (12, 12))]
def md_X12_readMinds_173p : List (Nat × (Nat × Nat)) := [(173, (5, 5)), (173, (6, 6)), (173, (7, 7)), (173, (8, 8)), (173, (9, 9)), (173, (10, 10)), (173, (11, 11)), (173, (13, 13)), (176, (3, 100))]
theorem ct_X12_readMinds_173p (X : Int) (hX : 0 ≤ X ∧ X ≤ 100000000) (M0 : JM) (hH0 : HI X M0)  : JOk shp PJ 5 163 [.inr (.inr (.inl 173))] M0 (jRi (fun v M' => HI X M' ∧ Fr md_X12_readMinds_173p M0 M' ∧ 0 ≤ v ∧ v ≤ 1 ∧ (∀ (t : TXT) (σ : PSt), RS M0 t σ → 2 ≤ kK t σ → LRr t (minS t σ) v M') ∧ (LFr ml_X12_readMinds_173p M0 M'))) := by
 refine ⟨jr_X12_readMinds, pj_X12_readMinds, fun F c1 c2 c3 => ?_⟩
 have hm := pj_X12_readMinds
 change F 0 [some (.inr (.inr (.inl 173))), none] [] M0
 have hF0 : Fr md_X12_readMinds_173p M0 M0 := Fr.rf _ _
 refine jx_load c1 hm rfl rfl rfl rfl ?_
 obtain ⟨z1, k2, lz1, uz1⟩ := hH0.ld (c := 173) (i := 5) (A := 0) (B := 940) (bs_28_3 _ _ (by omega) (by omega))
 refine jv_v c3 hm rfl pj_X12_go rfl rfl ⟨_, _, _, rfl, sh_173⟩ rfl ((ct_X12_go_173p X (by omega) M0 hH0 ).le (by decide)) (fun M5 ⟨hH5, hR5, p3, p4⟩ => ?_)
 have hF5 := hF0.tr hR5 (by decide +kernel)
 refine jx_load c1 hm rfl rfl rfl rfl ?_
 refine jy_ic c1 hm rfl (by decide) ?_
 refine jx_load c1 hm rfl rfl rfl rfl ?_
 refine jx_getr c1 hm rfl sh_173 rfl ?_
 refine jy_ic c1 hm rfl (by decide) ?_
 obtain ⟨z6, k7, lz6, uz6⟩ := hH5.ld (c := 176) (i := 0) (A := 0) (B := 6) (bs_12_0 _ _ (by omega) (by omega))
 refine jx_iald c1 hm rfl sh_176 ⟨by omega, by omega⟩ k7 ?_
 skip
 refine jv_i c3 hm rfl pj_X12_isOne rfl rfl ⟨_, _, _, rfl, sh_173⟩ rfl ((ct_X12_isOne_173p X (by omega) M5 hH5 0 ⟨by omega, by omega⟩ z6 ⟨by omega, by omega⟩).le (by decide)) (fun z8 M12 ⟨hH12, hR12, lz8, uz8, p9, p10, p11⟩ => ?_)
 have hF12 := hF5.tr hR12 (by decide +kernel)
 obtain ⟨z13, k14, lz13, uz13⟩ := hH12.ld (c := 173) (i := 13) (A := (-2147483648)) (B := 2147483647) (bs_28_7 _ _ (by omega) (by omega))
 refine jz_ne c1 hm 20 rfl rfl (fun h15 => ?_) (fun h15 => ?_)
 ·
  refine jy_bp c1 hm rfl (by decide) ?_
  refine jy_bp c1 hm rfl (by decide) ?_
  refine jx_load c1 hm rfl rfl rfl rfl ?_
  refine jx_geti c1 hm rfl sh_173 rfl k14 ?_
  refine jy_mul c1 hm (6 * z13) rfl (by omega) ?_
  refine jy_add c1 hm (6 * z13 + 17) rfl (by omega) ?_
  refine jx_stor c1 hm (L' := [some (.inr (.inr (.inl 173))), some (.inl (6 * z13 + 17))]) rfl rfl rfl rfl rfl ?_
  refine jx_load c1 hm rfl rfl rfl rfl ?_
  obtain ⟨z16, k17, lz16, uz16⟩ := hH12.ld (c := 173) (i := 5) (A := 0) (B := 940) (bs_28_3 _ _ (by omega) (by omega))
  refine jv_v c3 hm rfl pj_X12_go rfl rfl ⟨_, _, _, rfl, sh_173⟩ rfl ((ct_X12_go_173p X (by omega) M12 hH12 ).le (by decide)) (fun M20 ⟨hH20, hR20, p18, p19⟩ => ?_)
  have hF20 := hF12.tr hR20 (by decide +kernel)
  refine jx_load c1 hm rfl rfl rfl rfl ?_
  refine jy_bp c1 hm rfl (by decide) ?_
  refine jx_load c1 hm rfl rfl rfl rfl ?_
  refine jx_getr c1 hm rfl sh_173 rfl ?_
  refine jy_ic c1 hm rfl (by decide) ?_
  obtain ⟨z21, k22, lz21, uz21⟩ := hH20.ld (c := 176) (i := 1) (A := 0) (B := 6) (bs_12_0 _ _ (by omega) (by omega))
  refine jx_iald c1 hm rfl sh_176 ⟨by omega, by omega⟩ k22 ?_
  skip
  refine jv_i c3 hm rfl pj_X12_isOne rfl rfl ⟨_, _, _, rfl, sh_173⟩ rfl ((ct_X12_isOne_173p X (by omega) M20 hH20 6 ⟨by omega, by omega⟩ z21 ⟨by omega, by omega⟩).le (by decide)) (fun z23 M27 ⟨hH27, hR27, lz23, uz23, p24, p25, p26⟩ => ?_)
  have hF27 := hF20.tr hR27 (by decide +kernel)
  obtain ⟨z28, k29, lz28, uz28⟩ := hH27.ld (c := 173) (i := 13) (A := (-2147483648)) (B := 2147483647) (bs_28_7 _ _ (by omega) (by omega))
  refine jz_ne c1 hm 52 rfl rfl (fun h30 => ?_) (fun h30 => ?_)
  ·
   refine jx_load c1 hm rfl rfl rfl rfl ?_
   refine jx_load c1 hm rfl rfl rfl rfl ?_
   refine jx_geti c1 hm rfl sh_173 rfl k29 ?_
   refine jy_add c1 hm (6 * z13 + z28 + 17) rfl (by omega) ?_
   skip
   refine jx_stor c1 hm (L' := [some (.inr (.inr (.inl 173))), some (.inl (6 * z13 + z28 + 17))]) rfl rfl rfl rfl rfl ?_
   refine jx_load c1 hm rfl rfl rfl rfl ?_
   refine jx_getr c1 hm rfl sh_173 rfl ?_
   refine jx_load c1 hm rfl rfl rfl rfl ?_
   obtain ⟨z31, k32, lz31, uz31⟩ := hH27.ld (c := 176) (i := ((6 * z13 + z28 + 17)).toNat) (A := (-1)) (B := 20) (bs_12_4 _ _ (by omega) (by omega))
   refine jx_iald c1 hm rfl sh_176 ⟨by omega, by omega⟩ k32 ?_
   refine jy_ic c1 hm rfl (by decide) ?_
   refine jc_eq c1 hm 75 rfl rfl (fun h33 => ?_) (fun h33 => ?_)
   ·
    refine jx_load c1 hm rfl rfl rfl rfl ?_
    obtain ⟨z34, k35, lz34, uz34⟩ := hH27.ld (c := 173) (i := 5) (A := 0) (B := 940) (bs_28_3 _ _ (by omega) (by omega))
    refine jv_v c3 hm rfl pj_X12_go rfl rfl ⟨_, _, _, rfl, sh_173⟩ rfl ((ct_X12_go_173p X (by omega) M27 hH27 ).le (by decide)) (fun M38 ⟨hH38, hR38, p36, p37⟩ => ?_)
    have hF38 := hF27.tr hR38 (by decide +kernel)
    refine jx_load c1 hm rfl rfl rfl rfl ?_
    refine jx_load c1 hm rfl rfl rfl rfl ?_
    refine jx_load c1 hm rfl rfl rfl rfl ?_
    refine jy_ic c1 hm rfl (by decide) ?_
    refine jy_bp c1 hm rfl (by decide) ?_
    refine jv_i c3 hm rfl pj_X12_readNumber rfl rfl ⟨_, _, _, rfl, sh_173⟩ rfl ((ct_X12_readNumber_173p X (by omega) M38 hH38 0 ⟨by omega, by omega⟩ 20 ⟨by omega, by omega⟩).le (by decide)) (fun z39 M43 ⟨hH43, hR43, lz39, uz39, p40, p41, p42⟩ => ?_)
    have hF43 := hF38.tr hR43 (by decide +kernel)
    obtain ⟨z44, k45, lz44, uz44⟩ := hH43.ld (c := 173) (i := 13) (A := (-2147483648)) (B := 2147483647) (bs_28_7 _ _ (by omega) (by omega))
    refine jv_i c3 hm rfl pj_X12_put rfl rfl ⟨_, _, _, rfl, sh_173⟩ rfl ((ct_X12_put_173p X (by omega) M43 hH43 (6 * z13 + z28 + 17) ⟨by omega, by omega⟩ z39 ⟨by omega, by omega⟩ (by rw [show bnd X 176 ((6 * z13 + z28 + 17) : Int).toNat = ((-1), 20) from (bs_12_4 _ _ (by omega) (by omega))]; dsimp only; omega)).le (by decide)) (fun z46 M51 ⟨hH51, hR51, lz46, uz46, p47, p48, p49, p50⟩ => ?_)
    have hF51 := hF43.tr hR51 (by decide +kernel)
    exact jx_retz c2 hm rfl rfl ⟨by omega, by omega⟩ ⟨_, rfl, hH51, hF51, by omega, by omega, (fun t σ hσ hk => LRr.eq (NMR.ok (p10 t _ _ 0 (by decide) (RS.next hσ hk p3 hR5 p4 (by decide +kernel)) (by decide) k7.symm) (by omega)).2.1 (LRr.eq (NMR.ok (p25 t _ _ 1 (by decide) (RS.next (NMR.ok (p10 t _ (fun _ y => okS y) 0 (by decide) (RS.next hσ hk p3 hR5 p4 (by decide +kernel)) (by decide) k7.symm) (by omega)).1 (NMR.ok (p10 t _ (fun _ y => okS y) 0 (by decide) (RS.next hσ hk p3 hR5 p4 (by decide +kernel)) (by decide) k7.symm) (by omega)).2.2.2.2 p18 hR20 p19 (by decide +kernel)) (by decide) k22.symm) (by omega)).2.1 (LRr.eq (if_neg (by have b1 := (NMR.ok (p10 t _ (fun _ y => okS y) 0 (by decide) (RS.next hσ hk p3 hR5 p4 (by decide +kernel)) (by decide) k7.symm) (by omega)).2.2; have b2 := (NMR.ok (p25 t _ (fun _ y => okS y) 1 (by decide) (RS.next (NMR.ok (p10 t _ (fun _ y => okS y) 0 (by decide) (RS.next hσ hk p3 hR5 p4 (by decide +kernel)) (by decide) k7.symm) (by omega)).1 (NMR.ok (p10 t _ (fun _ y => okS y) 0 (by decide) (RS.next hσ hk p3 hR5 p4 (by decide +kernel)) (by decide) k7.symm) (by omega)).2.2.2.2 p18 hR20 p19 (by decide +kernel)) (by decide) k22.symm) (by omega)).2.2; have y9 := rfl_m (NMR.ok (p25 t _ (fun _ y => okS y) 1 (by decide) (RS.next (NMR.ok (p10 t _ (fun _ y => okS y) 0 (by decide) (RS.next hσ hk p3 hR5 p4 (by decide +kernel)) (by decide) k7.symm) (by omega)).1 (NMR.ok (p10 t _ (fun _ y => okS y) 0 (by decide) (RS.next hσ hk p3 hR5 p4 (by decide +kernel)) (by decide) k7.symm) (by omega)).2.2.2.2 p18 hR20 p19 (by decide +kernel)) (by decide) k22.symm) (by omega)).1 (x := 6 * M12.1 173 13 + M27.1 173 13) (y := (6 * z13 + z28 + 17)) ⟨by omega, by omega⟩ (by omega); exact fun e => e (y9.mp (by omega)))) (rset_fin (p41 t _ (RS.next (NMR.ok (p25 t _ (fun _ y => okS y) 1 (by decide) (RS.next (NMR.ok (p10 t _ (fun _ y => okS y) 0 (by decide) (RS.next hσ hk p3 hR5 p4 (by decide +kernel)) (by decide) k7.symm) (by omega)).1 (NMR.ok (p10 t _ (fun _ y => okS y) 0 (by decide) (RS.next hσ hk p3 hR5 p4 (by decide +kernel)) (by decide) k7.symm) (by omega)).2.2.2.2 p18 hR20 p19 (by decide +kernel)) (by decide) k22.symm) (by omega)).1 (NMR.ok (p25 t _ (fun _ y => okS y) 1 (by decide) (RS.next (NMR.ok (p10 t _ (fun _ y => okS y) 0 (by decide) (RS.next hσ hk p3 hR5 p4 (by decide +kernel)) (by decide) k7.symm) (by omega)).1 (NMR.ok (p10 t _ (fun _ y => okS y) 0 (by decide) (RS.next hσ hk p3 hR5 p4 (by decide +kernel)) (by decide) k7.symm) (by omega)).2.2.2.2 p18 hR20 p19 (by decide +kernel)) (by decide) k22.symm) (by omega)).2.2.2.2 p36 hR38 p37 (by decide +kernel))) p47 p48 (fun c i => p50 c i rfl) (fun y => by have b1 := (NMR.ok (p10 t _ (fun _ y => okS y) 0 (by decide) (RS.next hσ hk p3 hR5 p4 (by decide +kernel)) (by decide) k7.symm) (by omega)).2.2; have b2 := (NMR.ok (p25 t _ (fun _ y => okS y) 1 (by decide) (RS.next (NMR.ok (p10 t _ (fun _ y => okS y) 0 (by decide) (RS.next hσ hk p3 hR5 p4 (by decide +kernel)) (by decide) k7.symm) (by omega)).1 (NMR.ok (p10 t _ (fun _ y => okS y) 0 (by decide) (RS.next hσ hk p3 hR5 p4 (by decide +kernel)) (by decide) k7.symm) (by omega)).2.2.2.2 p18 hR20 p19 (by decide +kernel)) (by decide) k22.symm) (by omega)).2.2; exact Or.inl ⟨by omega, by omega, by omega, by omega⟩))))), ((((((((LFr.rf _ _).tr p4 (by decide +kernel)).tr p11 (by decide +kernel)).tr p19 (by decide +kernel)).tr p26 (by decide +kernel)).tr p37 (by decide +kernel)).tr p42 (by decide +kernel)).tr p50 (by decide +kernel))⟩
   refine jx_load c1 hm rfl rfl rfl rfl ?_
   refine jy_ic c1 hm rfl (by decide) ?_
   obtain ⟨z52, k53, lz52, uz52⟩ := hH27.ld (c := 173) (i := 6) (A := 0) (B := 940) (bs_28_3 _ _ (by omega) (by omega))
   refine jv_i c3 hm rfl pj_X12_bad rfl rfl ⟨_, _, _, rfl, sh_173⟩ rfl ((ct_X12_bad_173p X (by omega) M27 hH27 3 ⟨by omega, by omega⟩).le (by decide)) (fun z54 M58 ⟨hH58, hR58, lz54, uz54, p55, p56, p57⟩ => ?_)
   have hF58 := hF27.tr hR58 (by decide +kernel)
   obtain ⟨z59, k60, lz59, uz59⟩ := hH58.ld (c := 173) (i := 11) (A := 0) (B := 940) (bs_28_6 _ _ (by omega) (by omega))
   exact jx_retz c2 hm rfl rfl ⟨by omega, by omega⟩ ⟨_, rfl, hH58, hF58, by omega, by omega, (fun t σ hσ hk => LRr.eq (NMR.ok (p10 t _ _ 0 (by decide) (RS.next hσ hk p3 hR5 p4 (by decide +kernel)) (by decide) k7.symm) (by omega)).2.1 (LRr.eq (NMR.ok (p25 t _ _ 1 (by decide) (RS.next (NMR.ok (p10 t _ (fun _ y => okS y) 0 (by decide) (RS.next hσ hk p3 hR5 p4 (by decide +kernel)) (by decide) k7.symm) (by omega)).1 (NMR.ok (p10 t _ (fun _ y => okS y) 0 (by decide) (RS.next hσ hk p3 hR5 p4 (by decide +kernel)) (by decide) k7.symm) (by omega)).2.2.2.2 p18 hR20 p19 (by decide +kernel)) (by decide) k22.symm) (by omega)).2.1 (LRr.eq (if_pos (by have b1 := (NMR.ok (p10 t _ (fun _ y => okS y) 0 (by decide) (RS.next hσ hk p3 hR5 p4 (by decide +kernel)) (by decide) k7.symm) (by omega)).2.2; have b2 := (NMR.ok (p25 t _ (fun _ y => okS y) 1 (by decide) (RS.next (NMR.ok (p10 t _ (fun _ y => okS y) 0 (by decide) (RS.next hσ hk p3 hR5 p4 (by decide +kernel)) (by decide) k7.symm) (by omega)).1 (NMR.ok (p10 t _ (fun _ y => okS y) 0 (by decide) (RS.next hσ hk p3 hR5 p4 (by decide +kernel)) (by decide) k7.symm) (by omega)).2.2.2.2 p18 hR20 p19 (by decide +kernel)) (by decide) k22.symm) (by omega)).2.2; have y9 := rfl_m (NMR.ok (p25 t _ (fun _ y => okS y) 1 (by decide) (RS.next (NMR.ok (p10 t _ (fun _ y => okS y) 0 (by decide) (RS.next hσ hk p3 hR5 p4 (by decide +kernel)) (by decide) k7.symm) (by omega)).1 (NMR.ok (p10 t _ (fun _ y => okS y) 0 (by decide) (RS.next hσ hk p3 hR5 p4 (by decide +kernel)) (by decide) k7.symm) (by omega)).2.2.2.2 p18 hR20 p19 (by decide +kernel)) (by decide) k22.symm) (by omega)).1 (x := 6 * M12.1 173 13 + M27.1 173 13) (y := (6 * z13 + z28 + 17)) ⟨by omega, by omega⟩ (by omega); exact fun e => absurd (y9.mpr e) (by omega))) (Or.inr ⟨tF_nn (NMR.ok (p25 t _ (fun _ y => okS y) 1 (by decide) (RS.next (NMR.ok (p10 t _ (fun _ y => okS y) 0 (by decide) (RS.next hσ hk p3 hR5 p4 (by decide +kernel)) (by decide) k7.symm) (by omega)).1 (NMR.ok (p10 t _ (fun _ y => okS y) 0 (by decide) (RS.next hσ hk p3 hR5 p4 (by decide +kernel)) (by decide) k7.symm) (by omega)).2.2.2.2 p18 hR20 p19 (by decide +kernel)) (by decide) k22.symm) (by omega)).1.2.2, by omega, (show _ = kF t _ from (p56).trans (NMR.ok (p25 t _ (fun _ y => okS y) 1 (by decide) (RS.next (NMR.ok (p10 t _ (fun _ y => okS y) 0 (by decide) (RS.next hσ hk p3 hR5 p4 (by decide +kernel)) (by decide) k7.symm) (by omega)).1 (NMR.ok (p10 t _ (fun _ y => okS y) 0 (by decide) (RS.next hσ hk p3 hR5 p4 (by decide +kernel)) (by decide) k7.symm) (by omega)).2.2.2.2 p18 hR20 p19 (by decide +kernel)) (by decide) k22.symm) (by omega)).1.start)⟩)))), ((((((LFr.rf _ _).tr p4 (by decide +kernel)).tr p11 (by decide +kernel)).tr p19 (by decide +kernel)).tr p26 (by decide +kernel)).tr p57 (by decide +kernel))⟩
  refine jy_ic c1 hm rfl (by decide) ?_
  exact jx_retz c2 hm rfl rfl ⟨by omega, by omega⟩ ⟨_, rfl, hH27, hF27, by omega, by omega, (fun t σ hσ hk => LRr.eq (NMR.ok (p10 t _ _ 0 (by decide) (RS.next hσ hk p3 hR5 p4 (by decide +kernel)) (by decide) k7.symm) (by omega)).2.1 (NMR.bad (p25 t _ _ 1 (by decide) (RS.next (NMR.ok (p10 t _ (fun _ y => okS y) 0 (by decide) (RS.next hσ hk p3 hR5 p4 (by decide +kernel)) (by decide) k7.symm) (by omega)).1 (NMR.ok (p10 t _ (fun _ y => okS y) 0 (by decide) (RS.next hσ hk p3 hR5 p4 (by decide +kernel)) (by decide) k7.symm) (by omega)).2.2.2.2 p18 hR20 p19 (by decide +kernel)) (by decide) k22.symm) (by omega))), (((((LFr.rf _ _).tr p4 (by decide +kernel)).tr p11 (by decide +kernel)).tr p19 (by decide +kernel)).tr p26 (by decide +kernel))⟩
 refine jy_ic c1 hm rfl (by decide) ?_
 exact jx_retz c2 hm rfl rfl ⟨by omega, by omega⟩ ⟨_, rfl, hH12, hF12, by omega, by omega, (fun t σ hσ hk => NMR.bad (p10 t _ _ 0 (by decide) (RS.next hσ hk p3 hR5 p4 (by decide +kernel)) (by decide) k7.symm) (by omega)), (((LFr.rf _ _).tr p4 (by decide +kernel)).tr p11 (by decide +kernel))⟩
def ml_X12_readOwes_173p : List (Nat × (Nat × Nat)) := [(173, (12, 12))]
def md_X12_readOwes_173p : List (Nat × (Nat × Nat)) := [(173, (5, 5)), (173, (6, 6)), (173, (7, 7)), (173, (8, 8)), (173, (9, 9)), (173, (10, 10)), (173, (11, 11)), (173, (13, 13)), (176, (3, 100))]
theorem ct_X12_readOwes_173p (X : Int) (hX : 0 ≤ X ∧ X ≤ 100000000) (M0 : JM) (hH0 : HI X M0)  : JOk shp PJ 5 170 [.inr (.inr (.inl 173))] M0 (jRi (fun v M' => HI X M' ∧ Fr md_X12_readOwes_173p M0 M' ∧ 0 ≤ v ∧ v ≤ 1 ∧ (∀ (t : TXT) (σ : PSt), RS M0 t σ → 2 ≤ kK t σ → LRr t (oweS t σ) v M') ∧ (LFr ml_X12_readOwes_173p M0 M'))) := by
 refine ⟨jr_X12_readOwes, pj_X12_readOwes, fun F c1 c2 c3 => ?_⟩
 have hm := pj_X12_readOwes
 change F 0 [some (.inr (.inr (.inl 173))), none, none] [] M0
 have hF0 : Fr md_X12_readOwes_173p M0 M0 := Fr.rf _ _
 refine jx_load c1 hm rfl rfl rfl rfl ?_
 obtain ⟨z1, k2, lz1, uz1⟩ := hH0.ld (c := 173) (i := 5) (A := 0) (B := 940) (bs_28_3 _ _ (by omega) (by omega))
 refine jv_v c3 hm rfl pj_X12_go rfl rfl ⟨_, _, _, rfl, sh_173⟩ rfl ((ct_X12_go_173p X (by omega) M0 hH0 ).le (by decide)) (fun M5 ⟨hH5, hR5, p3, p4⟩ => ?_)
 have hF5 := hF0.tr hR5 (by decide +kernel)
 refine jx_load c1 hm rfl rfl rfl rfl ?_
 refine jy_ic c1 hm rfl (by decide) ?_
 refine jx_load c1 hm rfl rfl rfl rfl ?_
 refine jx_getr c1 hm rfl sh_173 rfl ?_
 refine jy_ic c1 hm rfl (by decide) ?_
 obtain ⟨z6, k7, lz6, uz6⟩ := hH5.ld (c := 176) (i := 0) (A := 0) (B := 6) (bs_12_0 _ _ (by omega) (by omega))
 refine jx_iald c1 hm rfl sh_176 ⟨by omega, by omega⟩ k7 ?_
 skip
 refine jv_i c3 hm rfl pj_X12_isOne rfl rfl ⟨_, _, _, rfl, sh_173⟩ rfl ((ct_X12_isOne_173p X (by omega) M5 hH5 0 ⟨by omega, by omega⟩ z6 ⟨by omega, by omega⟩).le (by decide)) (fun z8 M12 ⟨hH12, hR12, lz8, uz8, p9, p10, p11⟩ => ?_)
 have hF12 := hF5.tr hR12 (by decide +kernel)
 obtain ⟨z13, k14, lz13, uz13⟩ := hH12.ld (c := 173) (i := 13) (A := (-2147483648)) (B := 2147483647) (bs_28_7 _ _ (by omega) (by omega))
 refine jz_ne c1 hm 20 rfl rfl (fun h15 => ?_) (fun h15 => ?_)
 ·
  refine jx_load c1 hm rfl rfl rfl rfl ?_
  refine jx_geti c1 hm rfl sh_173 rfl k14 ?_
  refine jx_stor c1 hm (L' := [some (.inr (.inr (.inl 173))), some (.inl z13), none]) rfl rfl rfl rfl rfl ?_
  refine jx_load c1 hm rfl rfl rfl rfl ?_
  obtain ⟨z16, k17, lz16, uz16⟩ := hH12.ld (c := 173) (i := 5) (A := 0) (B := 940) (bs_28_3 _ _ (by omega) (by omega))
  refine jv_v c3 hm rfl pj_X12_go rfl rfl ⟨_, _, _, rfl, sh_173⟩ rfl ((ct_X12_go_173p X (by omega) M12 hH12 ).le (by decide)) (fun M20 ⟨hH20, hR20, p18, p19⟩ => ?_)
  have hF20 := hF12.tr hR20 (by decide +kernel)
  refine jx_load c1 hm rfl rfl rfl rfl ?_
  refine jy_ic c1 hm rfl (by decide) ?_
  refine jx_load c1 hm rfl rfl rfl rfl ?_
  refine jx_getr c1 hm rfl sh_173 rfl ?_
  refine jy_ic c1 hm rfl (by decide) ?_
  have k21 : M20.1 176 0 = z6 := (hR20 176 0 (by decide +kernel)).trans ((hR12 176 0 (by decide +kernel)).trans k7)
  refine jx_iald c1 hm rfl sh_176 ⟨by omega, by omega⟩ k21 ?_
  skip
  refine jv_i c3 hm rfl pj_X12_isOne rfl rfl ⟨_, _, _, rfl, sh_173⟩ rfl ((ct_X12_isOne_173p X (by omega) M20 hH20 0 ⟨by omega, by omega⟩ z6 ⟨by omega, by omega⟩).le (by decide)) (fun z22 M26 ⟨hH26, hR26, lz22, uz22, p23, p24, p25⟩ => ?_)
  have hF26 := hF20.tr hR26 (by decide +kernel)
  obtain ⟨z27, k28, lz27, uz27⟩ := hH26.ld (c := 173) (i := 13) (A := (-2147483648)) (B := 2147483647) (bs_28_7 _ _ (by omega) (by omega))
  refine jz_ne c1 hm 45 rfl rfl (fun h29 => ?_) (fun h29 => ?_)
  ·
   refine jy_bp c1 hm rfl (by decide) ?_
   refine jy_bp c1 hm rfl (by decide) ?_
   refine jx_load c1 hm rfl rfl rfl rfl ?_
   refine jy_mul c1 hm (6 * z13) rfl (by omega) ?_
   refine jy_add c1 hm (6 * z13 + 65) rfl (by omega) ?_
   refine jx_load c1 hm rfl rfl rfl rfl ?_
   refine jx_geti c1 hm rfl sh_173 rfl k28 ?_
   refine jy_add c1 hm (6 * z13 + z27 + 65) rfl (by omega) ?_
   skip
   refine jx_stor c1 hm (L' := [some (.inr (.inr (.inl 173))), some (.inl z13), some (.inl (6 * z13 + z27 + 65))]) rfl rfl rfl rfl rfl ?_
   refine jx_load c1 hm rfl rfl rfl rfl ?_
   refine jx_load c1 hm rfl rfl rfl rfl ?_
   refine jx_geti c1 hm rfl sh_173 rfl k28 ?_
   refine jc_eq c1 hm 75 rfl rfl (fun h30 => ?_) (fun h30 => ?_)
   ·
    refine jx_load c1 hm rfl rfl rfl rfl ?_
    refine jy_ic c1 hm rfl (by decide) ?_
    obtain ⟨z31, k32, lz31, uz31⟩ := hH26.ld (c := 173) (i := 6) (A := 0) (B := 940) (bs_28_3 _ _ (by omega) (by omega))
    refine jv_i c3 hm rfl pj_X12_bad rfl rfl ⟨_, _, _, rfl, sh_173⟩ rfl ((ct_X12_bad_173p X (by omega) M26 hH26 3 ⟨by omega, by omega⟩).le (by decide)) (fun z33 M37 ⟨hH37, hR37, lz33, uz33, p34, p35, p36⟩ => ?_)
    have hF37 := hF26.tr hR37 (by decide +kernel)
    obtain ⟨z38, k39, lz38, uz38⟩ := hH37.ld (c := 173) (i := 11) (A := 0) (B := 940) (bs_28_6 _ _ (by omega) (by omega))
    exact jx_retz c2 hm rfl rfl ⟨by omega, by omega⟩ ⟨_, rfl, hH37, hF37, by omega, by omega, (fun t σ hσ hk => LRr.eq (NMR.ok (p10 t _ _ 0 (by decide) (RS.next hσ hk p3 hR5 p4 (by decide +kernel)) (by decide) k7.symm) (by omega)).2.1 (LRr.eq (NMR.ok (p24 t _ _ 0 (by decide) (RS.next (NMR.ok (p10 t _ (fun _ y => okS y) 0 (by decide) (RS.next hσ hk p3 hR5 p4 (by decide +kernel)) (by decide) k7.symm) (by omega)).1 (NMR.ok (p10 t _ (fun _ y => okS y) 0 (by decide) (RS.next hσ hk p3 hR5 p4 (by decide +kernel)) (by decide) k7.symm) (by omega)).2.2.2.2 p18 hR20 p19 (by decide +kernel)) (by decide) k21.symm) (by omega)).2.1 (LRr.eq (if_pos (by have b1 := (NMR.ok (p10 t _ (fun _ y => okS y) 0 (by decide) (RS.next hσ hk p3 hR5 p4 (by decide +kernel)) (by decide) k7.symm) (by omega)).2.2; have b2 := (NMR.ok (p24 t _ (fun _ y => okS y) 0 (by decide) (RS.next (NMR.ok (p10 t _ (fun _ y => okS y) 0 (by decide) (RS.next hσ hk p3 hR5 p4 (by decide +kernel)) (by decide) k7.symm) (by omega)).1 (NMR.ok (p10 t _ (fun _ y => okS y) 0 (by decide) (RS.next hσ hk p3 hR5 p4 (by decide +kernel)) (by decide) k7.symm) (by omega)).2.2.2.2 p18 hR20 p19 (by decide +kernel)) (by decide) k21.symm) (by omega)).2.2; by_cases c9 : M12.1 173 13 = M26.1 173 13; exact Or.inl c9; have y9 := rfl_o (NMR.ok (p24 t _ (fun _ y => okS y) 0 (by decide) (RS.next (NMR.ok (p10 t _ (fun _ y => okS y) 0 (by decide) (RS.next hσ hk p3 hR5 p4 (by decide +kernel)) (by decide) k7.symm) (by omega)).1 (NMR.ok (p10 t _ (fun _ y => okS y) 0 (by decide) (RS.next hσ hk p3 hR5 p4 (by decide +kernel)) (by decide) k7.symm) (by omega)).2.2.2.2 p18 hR20 p19 (by decide +kernel)) (by decide) k21.symm) (by omega)).1 (x := 6 * M12.1 173 13 + M26.1 173 13) (y := (6 * z13 + z27 + 65)) (z := 36 + 6 * M12.1 173 13 + M26.1 173 13) ⟨by omega, by omega⟩ (by omega) (by omega); exact Or.inr (fun e => absurd (y9.2.mpr e) (by omega)))) (Or.inr ⟨tF_nn (NMR.ok (p24 t _ (fun _ y => okS y) 0 (by decide) (RS.next (NMR.ok (p10 t _ (fun _ y => okS y) 0 (by decide) (RS.next hσ hk p3 hR5 p4 (by decide +kernel)) (by decide) k7.symm) (by omega)).1 (NMR.ok (p10 t _ (fun _ y => okS y) 0 (by decide) (RS.next hσ hk p3 hR5 p4 (by decide +kernel)) (by decide) k7.symm) (by omega)).2.2.2.2 p18 hR20 p19 (by decide +kernel)) (by decide) k21.symm) (by omega)).1.2.2, by omega, (show _ = kF t _ from (p35).trans (NMR.ok (p24 t _ (fun _ y => okS y) 0 (by decide) (RS.next (NMR.ok (p10 t _ (fun _ y => okS y) 0 (by decide) (RS.next hσ hk p3 hR5 p4 (by decide +kernel)) (by decide) k7.symm) (by omega)).1 (NMR.ok (p10 t _ (fun _ y => okS y) 0 (by decide) (RS.next hσ hk p3 hR5 p4 (by decide +kernel)) (by decide) k7.symm) (by omega)).2.2.2.2 p18 hR20 p19 (by decide +kernel)) (by decide) k21.symm) (by omega)).1.start)⟩)))), ((((((LFr.rf _ _).tr p4 (by decide +kernel)).tr p11 (by decide +kernel)).tr p19 (by decide +kernel)).tr p25 (by decide +kernel)).tr p36 (by decide +kernel))⟩
   refine jx_load c1 hm rfl rfl rfl rfl ?_
   refine jx_getr c1 hm rfl sh_173 rfl ?_
   refine jx_load c1 hm rfl rfl rfl rfl ?_
   obtain ⟨z40, k41, lz40, uz40⟩ := hH26.ld (c := 176) (i := ((6 * z13 + z27 + 65)).toNat) (A := (-2147483648)) (B := 2147483647) (bs_12_7 _ _ (by omega))
   refine jx_iald c1 hm rfl sh_176 ⟨by omega, by omega⟩ k41 ?_
   refine jz_le c1 hm 81 rfl rfl (fun h42 => ?_) (fun h42 => ?_)
   ·
    refine jx_load c1 hm rfl rfl rfl rfl ?_
    obtain ⟨z43, k44, lz43, uz43⟩ := hH26.ld (c := 173) (i := 5) (A := 0) (B := 940) (bs_28_3 _ _ (by omega) (by omega))
    refine jv_v c3 hm rfl pj_X12_go rfl rfl ⟨_, _, _, rfl, sh_173⟩ rfl ((ct_X12_go_173p X (by omega) M26 hH26 ).le (by decide)) (fun M47 ⟨hH47, hR47, p45, p46⟩ => ?_)
    have hF47 := hF26.tr hR47 (by decide +kernel)
    refine jx_load c1 hm rfl rfl rfl rfl ?_
    refine jx_load c1 hm rfl rfl rfl rfl ?_
    refine jx_load c1 hm rfl rfl rfl rfl ?_
    refine jy_ic c1 hm rfl (by decide) ?_
    refine jy_bp c1 hm rfl (by decide) ?_
    refine jv_i c3 hm rfl pj_X12_readNumber rfl rfl ⟨_, _, _, rfl, sh_173⟩ rfl ((ct_X12_readNumber_173p X (by omega) M47 hH47 1 ⟨by omega, by omega⟩ 99 ⟨by omega, by omega⟩).le (by decide)) (fun z48 M52 ⟨hH52, hR52, lz48, uz48, p49, p50, p51⟩ => ?_)
    have hF52 := hF47.tr hR52 (by decide +kernel)
    obtain ⟨z53, k54, lz53, uz53⟩ := hH52.ld (c := 173) (i := 13) (A := (-2147483648)) (B := 2147483647) (bs_28_7 _ _ (by omega) (by omega))
    refine jv_i c3 hm rfl pj_X12_put rfl rfl ⟨_, _, _, rfl, sh_173⟩ rfl ((ct_X12_put_173p X (by omega) M52 hH52 (6 * z13 + z27 + 65) ⟨by omega, by omega⟩ z48 ⟨by omega, by omega⟩ (by rw [show bnd X 176 ((6 * z13 + z27 + 65) : Int).toNat = ((-2147483648), 2147483647) from (bs_12_7 _ _ (by omega))]; dsimp only; omega)).le (by decide)) (fun z55 M60 ⟨hH60, hR60, lz55, uz55, p56, p57, p58, p59⟩ => ?_)
    have hF60 := hF52.tr hR60 (by decide +kernel)
    exact jx_retz c2 hm rfl rfl ⟨by omega, by omega⟩ ⟨_, rfl, hH60, hF60, by omega, by omega, (fun t σ hσ hk => LRr.eq (NMR.ok (p10 t _ _ 0 (by decide) (RS.next hσ hk p3 hR5 p4 (by decide +kernel)) (by decide) k7.symm) (by omega)).2.1 (LRr.eq (NMR.ok (p24 t _ _ 0 (by decide) (RS.next (NMR.ok (p10 t _ (fun _ y => okS y) 0 (by decide) (RS.next hσ hk p3 hR5 p4 (by decide +kernel)) (by decide) k7.symm) (by omega)).1 (NMR.ok (p10 t _ (fun _ y => okS y) 0 (by decide) (RS.next hσ hk p3 hR5 p4 (by decide +kernel)) (by decide) k7.symm) (by omega)).2.2.2.2 p18 hR20 p19 (by decide +kernel)) (by decide) k21.symm) (by omega)).2.1 (LRr.eq (if_neg (by have b1 := (NMR.ok (p10 t _ (fun _ y => okS y) 0 (by decide) (RS.next hσ hk p3 hR5 p4 (by decide +kernel)) (by decide) k7.symm) (by omega)).2.2; have b2 := (NMR.ok (p24 t _ (fun _ y => okS y) 0 (by decide) (RS.next (NMR.ok (p10 t _ (fun _ y => okS y) 0 (by decide) (RS.next hσ hk p3 hR5 p4 (by decide +kernel)) (by decide) k7.symm) (by omega)).1 (NMR.ok (p10 t _ (fun _ y => okS y) 0 (by decide) (RS.next hσ hk p3 hR5 p4 (by decide +kernel)) (by decide) k7.symm) (by omega)).2.2.2.2 p18 hR20 p19 (by decide +kernel)) (by decide) k21.symm) (by omega)).2.2; have y9 := rfl_o (NMR.ok (p24 t _ (fun _ y => okS y) 0 (by decide) (RS.next (NMR.ok (p10 t _ (fun _ y => okS y) 0 (by decide) (RS.next hσ hk p3 hR5 p4 (by decide +kernel)) (by decide) k7.symm) (by omega)).1 (NMR.ok (p10 t _ (fun _ y => okS y) 0 (by decide) (RS.next hσ hk p3 hR5 p4 (by decide +kernel)) (by decide) k7.symm) (by omega)).2.2.2.2 p18 hR20 p19 (by decide +kernel)) (by decide) k21.symm) (by omega)).1 (x := 6 * M12.1 173 13 + M26.1 173 13) (y := (6 * z13 + z27 + 65)) (z := 36 + 6 * M12.1 173 13 + M26.1 173 13) ⟨by omega, by omega⟩ (by omega) (by omega); intro e; rcases e with e | e; omega; exact e (y9.2.mp (by omega)))) (rset_fin (p50 t _ (RS.next (NMR.ok (p24 t _ (fun _ y => okS y) 0 (by decide) (RS.next (NMR.ok (p10 t _ (fun _ y => okS y) 0 (by decide) (RS.next hσ hk p3 hR5 p4 (by decide +kernel)) (by decide) k7.symm) (by omega)).1 (NMR.ok (p10 t _ (fun _ y => okS y) 0 (by decide) (RS.next hσ hk p3 hR5 p4 (by decide +kernel)) (by decide) k7.symm) (by omega)).2.2.2.2 p18 hR20 p19 (by decide +kernel)) (by decide) k21.symm) (by omega)).1 (NMR.ok (p24 t _ (fun _ y => okS y) 0 (by decide) (RS.next (NMR.ok (p10 t _ (fun _ y => okS y) 0 (by decide) (RS.next hσ hk p3 hR5 p4 (by decide +kernel)) (by decide) k7.symm) (by omega)).1 (NMR.ok (p10 t _ (fun _ y => okS y) 0 (by decide) (RS.next hσ hk p3 hR5 p4 (by decide +kernel)) (by decide) k7.symm) (by omega)).2.2.2.2 p18 hR20 p19 (by decide +kernel)) (by decide) k21.symm) (by omega)).2.2.2.2 p45 hR47 p46 (by decide +kernel))) p56 p57 (fun c i => p59 c i rfl) (fun y => by have b1 := (NMR.ok (p10 t _ (fun _ y => okS y) 0 (by decide) (RS.next hσ hk p3 hR5 p4 (by decide +kernel)) (by decide) k7.symm) (by omega)).2.2; have b2 := (NMR.ok (p24 t _ (fun _ y => okS y) 0 (by decide) (RS.next (NMR.ok (p10 t _ (fun _ y => okS y) 0 (by decide) (RS.next hσ hk p3 hR5 p4 (by decide +kernel)) (by decide) k7.symm) (by omega)).1 (NMR.ok (p10 t _ (fun _ y => okS y) 0 (by decide) (RS.next hσ hk p3 hR5 p4 (by decide +kernel)) (by decide) k7.symm) (by omega)).2.2.2.2 p18 hR20 p19 (by decide +kernel)) (by decide) k21.symm) (by omega)).2.2; exact Or.inr ⟨by omega, by omega, by omega, by omega⟩))))), ((((((((LFr.rf _ _).tr p4 (by decide +kernel)).tr p11 (by decide +kernel)).tr p19 (by decide +kernel)).tr p25 (by decide +kernel)).tr p46 (by decide +kernel)).tr p51 (by decide +kernel)).tr p59 (by decide +kernel))⟩
   refine jx_load c1 hm rfl rfl rfl rfl ?_
   refine jy_ic c1 hm rfl (by decide) ?_
   obtain ⟨z61, k62, lz61, uz61⟩ := hH26.ld (c := 173) (i := 6) (A := 0) (B := 940) (bs_28_3 _ _ (by omega) (by omega))
   refine jv_i c3 hm rfl pj_X12_bad rfl rfl ⟨_, _, _, rfl, sh_173⟩ rfl ((ct_X12_bad_173p X (by omega) M26 hH26 3 ⟨by omega, by omega⟩).le (by decide)) (fun z63 M67 ⟨hH67, hR67, lz63, uz63, p64, p65, p66⟩ => ?_)
   have hF67 := hF26.tr hR67 (by decide +kernel)
   obtain ⟨z68, k69, lz68, uz68⟩ := hH67.ld (c := 173) (i := 11) (A := 0) (B := 940) (bs_28_6 _ _ (by omega) (by omega))
   exact jx_retz c2 hm rfl rfl ⟨by omega, by omega⟩ ⟨_, rfl, hH67, hF67, by omega, by omega, (fun t σ hσ hk => LRr.eq (NMR.ok (p10 t _ _ 0 (by decide) (RS.next hσ hk p3 hR5 p4 (by decide +kernel)) (by decide) k7.symm) (by omega)).2.1 (LRr.eq (NMR.ok (p24 t _ _ 0 (by decide) (RS.next (NMR.ok (p10 t _ (fun _ y => okS y) 0 (by decide) (RS.next hσ hk p3 hR5 p4 (by decide +kernel)) (by decide) k7.symm) (by omega)).1 (NMR.ok (p10 t _ (fun _ y => okS y) 0 (by decide) (RS.next hσ hk p3 hR5 p4 (by decide +kernel)) (by decide) k7.symm) (by omega)).2.2.2.2 p18 hR20 p19 (by decide +kernel)) (by decide) k21.symm) (by omega)).2.1 (LRr.eq (if_pos (by have b1 := (NMR.ok (p10 t _ (fun _ y => okS y) 0 (by decide) (RS.next hσ hk p3 hR5 p4 (by decide +kernel)) (by decide) k7.symm) (by omega)).2.2; have b2 := (NMR.ok (p24 t _ (fun _ y => okS y) 0 (by decide) (RS.next (NMR.ok (p10 t _ (fun _ y => okS y) 0 (by decide) (RS.next hσ hk p3 hR5 p4 (by decide +kernel)) (by decide) k7.symm) (by omega)).1 (NMR.ok (p10 t _ (fun _ y => okS y) 0 (by decide) (RS.next hσ hk p3 hR5 p4 (by decide +kernel)) (by decide) k7.symm) (by omega)).2.2.2.2 p18 hR20 p19 (by decide +kernel)) (by decide) k21.symm) (by omega)).2.2; by_cases c9 : M12.1 173 13 = M26.1 173 13; exact Or.inl c9; have y9 := rfl_o (NMR.ok (p24 t _ (fun _ y => okS y) 0 (by decide) (RS.next (NMR.ok (p10 t _ (fun _ y => okS y) 0 (by decide) (RS.next hσ hk p3 hR5 p4 (by decide +kernel)) (by decide) k7.symm) (by omega)).1 (NMR.ok (p10 t _ (fun _ y => okS y) 0 (by decide) (RS.next hσ hk p3 hR5 p4 (by decide +kernel)) (by decide) k7.symm) (by omega)).2.2.2.2 p18 hR20 p19 (by decide +kernel)) (by decide) k21.symm) (by omega)).1 (x := 6 * M12.1 173 13 + M26.1 173 13) (y := (6 * z13 + z27 + 65)) (z := 36 + 6 * M12.1 173 13 + M26.1 173 13) ⟨by omega, by omega⟩ (by omega) (by omega); exact Or.inr (fun e => absurd (y9.2.mpr e) (by omega)))) (Or.inr ⟨tF_nn (NMR.ok (p24 t _ (fun _ y => okS y) 0 (by decide) (RS.next (NMR.ok (p10 t _ (fun _ y => okS y) 0 (by decide) (RS.next hσ hk p3 hR5 p4 (by decide +kernel)) (by decide) k7.symm) (by omega)).1 (NMR.ok (p10 t _ (fun _ y => okS y) 0 (by decide) (RS.next hσ hk p3 hR5 p4 (by decide +kernel)) (by decide) k7.symm) (by omega)).2.2.2.2 p18 hR20 p19 (by decide +kernel)) (by decide) k21.symm) (by omega)).1.2.2, by omega, (show _ = kF t _ from (p65).trans (NMR.ok (p24 t _ (fun _ y => okS y) 0 (by decide) (RS.next (NMR.ok (p10 t _ (fun _ y => okS y) 0 (by decide) (RS.next hσ hk p3 hR5 p4 (by decide +kernel)) (by decide) k7.symm) (by omega)).1 (NMR.ok (p10 t _ (fun _ y => okS y) 0 (by decide) (RS.next hσ hk p3 hR5 p4 (by decide +kernel)) (by decide) k7.symm) (by omega)).2.2.2.2 p18 hR20 p19 (by decide +kernel)) (by decide) k21.symm) (by omega)).1.start)⟩)))), ((((((LFr.rf _ _).tr p4 (by decide +kernel)).tr p11 (by decide +kernel)).tr p19 (by decide +kernel)).tr p25 (by decide +kernel)).tr p66 (by decide +kernel))⟩
  refine jy_ic c1 hm rfl (by decide) ?_
  exact jx_retz c2 hm rfl rfl ⟨by omega, by omega⟩ ⟨_, rfl, hH26, hF26, by omega, by omega, (fun t σ hσ hk => LRr.eq (NMR.ok (p10 t _ _ 0 (by decide) (RS.next hσ hk p3 hR5 p4 (by decide +kernel)) (by decide) k7.symm) (by omega)).2.1 (NMR.bad (p24 t _ _ 0 (by decide) (RS.next (NMR.ok (p10 t _ (fun _ y => okS y) 0 (by decide) (RS.next hσ hk p3 hR5 p4 (by decide +kernel)) (by decide) k7.symm) (by omega)).1 (NMR.ok (p10 t _ (fun _ y => okS y) 0 (by decide) (RS.next hσ hk p3 hR5 p4 (by decide +kernel)) (by decide) k7.symm) (by omega)).2.2.2.2 p18 hR20 p19 (by decide +kernel)) (by decide) k21.symm) (by omega))), (((((LFr.rf _ _).tr p4 (by decide +kernel)).tr p11 (by decide +kernel)).tr p19 (by decide +kernel)).tr p25 (by decide +kernel))⟩
 refine jy_ic c1 hm rfl (by decide) ?_
 exact jx_retz c2 hm rfl rfl ⟨by omega, by omega⟩ ⟨_, rfl, hH12, hF12, by omega, by omega, (fun t σ hσ hk => NMR.bad (p10 t _ _ 0 (by decide) (RS.next hσ hk p3 hR5 p4 (by decide +kernel)) (by decide) k7.symm) (by omega)), (((LFr.rf _ _).tr p4 (by decide +kernel)).tr p11 (by decide +kernel))⟩
def ml_X12_readLine_173p : List (Nat × (Nat × Nat)) := [(173, (12, 12)), (181, (0, 17))]
def md_X12_readLine_173p : List (Nat × (Nat × Nat)) := [(173, (5, 5)), (173, (6, 6)), (173, (7, 7)), (173, (8, 8)), (173, (9, 9)), (173, (10, 10)), (173, (11, 11)), (173, (13, 13)), (173, (24, 24)), (173, (25, 25)), (176, (0, 0)), (176, (1, 1)), (176, (2, 2)), (176, (3, 100))]
theorem ct_X12_readLine_173p (X : Int) (hX : 0 ≤ X ∧ X ≤ 100000000) (M0 : JM) (hH0 : HI X M0)  : JOk shp PJ 6 161 [.inr (.inr (.inl 173))] M0 (jRi (fun v M' => HI X M' ∧ Fr md_X12_readLine_173p M0 M' ∧ 0 ≤ v ∧ v ≤ 1 ∧ (∀ (t : TXT) (σ : PSt), RS M0 t σ → LRr t (lineS t σ) v M') ∧ (LFr ml_X12_readLine_173p M0 M'))) := by
 refine ⟨jr_X12_readLine, pj_X12_readLine, fun F c1 c2 c3 => ?_⟩
 have hm := pj_X12_readLine
 change F 0 [some (.inr (.inr (.inl 173)))] [] M0
 have hF0 : Fr md_X12_readLine_173p M0 M0 := Fr.rf _ _
 obtain ⟨z1, k2, lz1, uz1⟩ := hH0.ld (c := 173) (i := 24) (A := 0) (B := 1) (bs_28_9 _ _ (by omega) (by omega))
 obtain ⟨z3, k4, lz3, uz3⟩ := hH0.ld (c := 173) (i := 25) (A := 0) (B := 1) (bs_28_9 _ _ (by omega) (by omega))
 refine jx_load c1 hm rfl rfl rfl rfl ?_
 refine jy_ic c1 hm rfl (by decide) ?_
 refine jv_i c3 hm rfl pj_X12_isWord rfl rfl ⟨_, _, _, rfl, sh_173⟩ rfl ((ct_X12_isWord_173p X (by omega) M0 hH0 0 ⟨by omega, by omega⟩).le (by decide)) (fun z5 _ ⟨rfl, lz5, uz5, p6, p7⟩ => ?_)
 refine jz_eq c1 hm 13 rfl rfl (fun h8 => ?_) (fun h8 => ?_)
 ·
  refine jx_load c1 hm rfl rfl rfl rfl ?_
  refine jy_ic c1 hm rfl (by decide) ?_
  refine jv_i c3 hm rfl pj_X12_isWord rfl rfl ⟨_, _, _, rfl, sh_173⟩ rfl ((ct_X12_isWord_173p X (by omega) M0 hH0 1 ⟨by omega, by omega⟩).le (by decide)) (fun z9 _ ⟨rfl, lz9, uz9, p10, p11⟩ => ?_)
  refine jz_eq c1 hm 26 rfl rfl (fun h12 => ?_) (fun h12 => ?_)
  ·
   refine jx_load c1 hm rfl rfl rfl rfl ?_
   refine jy_ic c1 hm rfl (by decide) ?_
   refine jv_i c3 hm rfl pj_X12_isWord rfl rfl ⟨_, _, _, rfl, sh_173⟩ rfl ((ct_X12_isWord_173p X (by omega) M0 hH0 2 ⟨by omega, by omega⟩).le (by decide)) (fun z13 _ ⟨rfl, lz13, uz13, p14, p15⟩ => ?_)
   refine jz_eq c1 hm 39 rfl rfl (fun h16 => ?_) (fun h16 => ?_)
   ·
    refine jx_load c1 hm rfl rfl rfl rfl ?_
    refine jy_ic c1 hm rfl (by decide) ?_
    refine jv_i c3 hm rfl pj_X12_isWord rfl rfl ⟨_, _, _, rfl, sh_173⟩ rfl ((ct_X12_isWord_173p X (by omega) M0 hH0 3 ⟨by omega, by omega⟩).le (by decide)) (fun z17 _ ⟨rfl, lz17, uz17, p18, p19⟩ => ?_)
    refine jz_eq c1 hm 52 rfl rfl (fun h20 => ?_) (fun h20 => ?_)
    ·
     refine jx_load c1 hm rfl rfl rfl rfl ?_
     refine jy_ic c1 hm rfl (by decide) ?_
     refine jv_i c3 hm rfl pj_X12_isWord rfl rfl ⟨_, _, _, rfl, sh_173⟩ rfl ((ct_X12_isWord_173p X (by omega) M0 hH0 4 ⟨by omega, by omega⟩).le (by decide)) (fun z21 _ ⟨rfl, lz21, uz21, p22, p23⟩ => ?_)
     refine jz_eq c1 hm 65 rfl rfl (fun h24 => ?_) (fun h24 => ?_)
     ·
      refine jx_load c1 hm rfl rfl rfl rfl ?_
      refine jy_ic c1 hm rfl (by decide) ?_
      refine jv_i c3 hm rfl pj_X12_isWord rfl rfl ⟨_, _, _, rfl, sh_173⟩ rfl ((ct_X12_isWord_173p X (by omega) M0 hH0 5 ⟨by omega, by omega⟩).le (by decide)) (fun z25 _ ⟨rfl, lz25, uz25, p26, p27⟩ => ?_)
      refine jz_eq c1 hm 108 rfl rfl (fun h28 => ?_) (fun h28 => ?_)
      ·
       refine jx_load c1 hm rfl rfl rfl rfl ?_
       refine jy_bp c1 hm rfl (by decide) ?_
       refine jv_i c3 hm rfl pj_X12_isWord rfl rfl ⟨_, _, _, rfl, sh_173⟩ rfl ((ct_X12_isWord_173p X (by omega) M0 hH0 6 ⟨by omega, by omega⟩).le (by decide)) (fun z29 _ ⟨rfl, lz29, uz29, p30, p31⟩ => ?_)
       refine jz_ne c1 hm 123 rfl rfl (fun h32 => ?_) (fun h32 => ?_)
       ·
        refine jx_load c1 hm rfl rfl rfl rfl ?_
        refine jx_getz c1 hm rfl sh_173 rfl k4 ?_
        refine jz_eq c1 hm 136 rfl rfl (fun h33 => ?_) (fun h33 => ?_)
        ·
         refine jx_load c1 hm rfl rfl rfl rfl ?_
         refine jy_ic c1 hm rfl (by decide) ?_
         obtain ⟨M34, e34, hH34, hF34, k34, n34, q34⟩ := mup hH0 hF0 (c := 173) (i := 25) (v := 1) (A := 0) (B := 1) (bs_28_9 _ _ (by omega) (by omega)) ⟨by omega, by omega⟩ (jin_of 9 rfl ⟨by omega, by omega⟩)
         refine jm_putz c1 hm rfl sh_173 rfl ⟨by omega, by omega⟩ e34 ?_
         refine jx_load c1 hm rfl rfl rfl rfl ?_
         obtain ⟨z35, k36, lz35, uz35⟩ := hH34.ld (c := 173) (i := 5) (A := 0) (B := 940) (bs_28_3 _ _ (by omega) (by omega))
         refine jv_v c3 hm rfl pj_X12_go rfl rfl ⟨_, _, _, rfl, sh_173⟩ rfl ((ct_X12_go_173p X (by omega) M34 hH34 ).le (by decide)) (fun M39 ⟨hH39, hR39, p37, p38⟩ => ?_)
         have hF39 := hF34.tr hR39 (by decide +kernel)
         refine jx_load c1 hm rfl rfl rfl rfl ?_
         refine jy_ic c1 hm rfl (by decide) ?_
         refine jx_load c1 hm rfl rfl rfl rfl ?_
         refine jy_ic c1 hm rfl (by decide) ?_
         refine jy_bp c1 hm rfl (by decide) ?_
         refine jv_i c3 hm rfl pj_X12_readNumber rfl rfl ⟨_, _, _, rfl, sh_173⟩ rfl ((ct_X12_readNumber_173p X (by omega) M39 hH39 0 ⟨by omega, by omega⟩ 9 ⟨by omega, by omega⟩).le (by decide)) (fun z40 M44 ⟨hH44, hR44, lz40, uz40, p41, p42, p43⟩ => ?_)
         have hF44 := hF39.tr hR44 (by decide +kernel)
         obtain ⟨z45, k46, lz45, uz45⟩ := hH44.ld (c := 173) (i := 13) (A := (-2147483648)) (B := 2147483647) (bs_28_7 _ _ (by omega) (by omega))
         refine jv_i c3 hm rfl pj_X12_put rfl rfl ⟨_, _, _, rfl, sh_173⟩ rfl ((ct_X12_put_173p X (by omega) M44 hH44 4 ⟨by omega, by omega⟩ z40 ⟨by omega, by omega⟩ (by rw [show bnd X 176 (4 : Int).toNat = (0, 9) from (bs_12_1 _ _ (by omega) (by omega))]; dsimp only; omega)).le (by decide)) (fun z47 M52 ⟨hH52, hR52, lz47, uz47, p48, p49, p50, p51⟩ => ?_)
         have hF52 := hF44.tr hR52 (by decide +kernel)
         exact jx_retz c2 hm rfl rfl ⟨by omega, by omega⟩ ⟨_, rfl, hH52, hF52, by omega, by omega, (fun t σ hσ => LRr.eq (rl_6 hσ (p7.resolve_left (by omega)) (p11.resolve_left (by omega)) (p15.resolve_left (by omega)) (p19.resolve_left (by omega)) (p23.resolve_left (by omega)) (p27.resolve_left (by omega)) (p30 (by omega))) (LRr.eq (rwm_eq (i := 25) (by decide) hσ (by omega)) (LRr.put (wm_cv (p42 t _ (RS.next (RS.flag (c := 173) (i := 25) (j := 73) hσ n34 q34 (Or.inr (Or.inr (Or.inr ⟨rfl, rfl, rfl, by omega⟩)))) (by have y9 := (WD.y hσ (p30 (by omega)) (by decide)).1; exact (show 2 ≤ kK t σ by omega)) p37 hR39 p38 (by decide +kernel)))) p49 (fun c i => p51 c i rfl) (by decide) p48))), (((((LFr.rf _ _).eq q34).tr p38 (by decide +kernel)).tr p43 (by decide +kernel)).tr p51 (by decide +kernel))⟩
        refine jx_load c1 hm rfl rfl rfl rfl ?_
        refine jy_ic c1 hm rfl (by decide) ?_
        obtain ⟨z53, k54, lz53, uz53⟩ := hH0.ld (c := 173) (i := 6) (A := 0) (B := 940) (bs_28_3 _ _ (by omega) (by omega))
        refine jv_i c3 hm rfl pj_X12_bad rfl rfl ⟨_, _, _, rfl, sh_173⟩ rfl ((ct_X12_bad_173p X (by omega) M0 hH0 3 ⟨by omega, by omega⟩).le (by decide)) (fun z55 M59 ⟨hH59, hR59, lz55, uz55, p56, p57, p58⟩ => ?_)
        have hF59 := hF0.tr hR59 (by decide +kernel)
        obtain ⟨z60, k61, lz60, uz60⟩ := hH59.ld (c := 173) (i := 11) (A := 0) (B := 940) (bs_28_6 _ _ (by omega) (by omega))
        exact jx_retz c2 hm rfl rfl ⟨by omega, by omega⟩ ⟨_, rfl, hH59, hF59, by omega, by omega, (fun t σ hσ => LRr.eq (rl_6 hσ (p7.resolve_left (by omega)) (p11.resolve_left (by omega)) (p15.resolve_left (by omega)) (p19.resolve_left (by omega)) (p23.resolve_left (by omega)) (p27.resolve_left (by omega)) (p30 (by omega))) (rwm_no (i := 25) (by decide) hσ (by omega) (by omega) p57)), ((LFr.rf _ _).tr p58 (by decide +kernel))⟩
       refine jx_load c1 hm rfl rfl rfl rfl ?_
       refine jy_ic c1 hm rfl (by decide) ?_
       obtain ⟨z62, k63, lz62, uz62⟩ := hH0.ld (c := 173) (i := 6) (A := 0) (B := 940) (bs_28_3 _ _ (by omega) (by omega))
       refine jv_i c3 hm rfl pj_X12_bad rfl rfl ⟨_, _, _, rfl, sh_173⟩ rfl ((ct_X12_bad_173p X (by omega) M0 hH0 1 ⟨by omega, by omega⟩).le (by decide)) (fun z64 M68 ⟨hH68, hR68, lz64, uz64, p65, p66, p67⟩ => ?_)
       have hF68 := hF0.tr hR68 (by decide +kernel)
       obtain ⟨z69, k70, lz69, uz69⟩ := hH68.ld (c := 173) (i := 11) (A := 0) (B := 940) (bs_28_6 _ _ (by omega) (by omega))
       exact jx_retz c2 hm rfl rfl ⟨by omega, by omega⟩ ⟨_, rfl, hH68, hF68, by omega, by omega, (fun t σ hσ => LRr.no (rl_no hσ (p7.resolve_left (by omega)) (p11.resolve_left (by omega)) (p15.resolve_left (by omega)) (p19.resolve_left (by omega)) (p23.resolve_left (by omega)) (p27.resolve_left (by omega)) (p31.resolve_left (by omega))) hσ (by omega) p66), ((LFr.rf _ _).tr p67 (by decide +kernel))⟩
      refine jx_load c1 hm rfl rfl rfl rfl ?_
      refine jx_getz c1 hm rfl sh_173 rfl k2 ?_
      refine jz_eq c1 hm 86 rfl rfl (fun h71 => ?_) (fun h71 => ?_)
      ·
       refine jx_load c1 hm rfl rfl rfl rfl ?_
       refine jy_ic c1 hm rfl (by decide) ?_
       obtain ⟨M72, e72, hH72, hF72, k72, n72, q72⟩ := mup hH0 hF0 (c := 173) (i := 24) (v := 1) (A := 0) (B := 1) (bs_28_9 _ _ (by omega) (by omega)) ⟨by omega, by omega⟩ (jin_of 8 rfl ⟨by omega, by omega⟩)
       refine jm_putz c1 hm rfl sh_173 rfl ⟨by omega, by omega⟩ e72 ?_
       refine jx_load c1 hm rfl rfl rfl rfl ?_
       obtain ⟨z73, k74, lz73, uz73⟩ := hH72.ld (c := 173) (i := 5) (A := 0) (B := 940) (bs_28_3 _ _ (by omega) (by omega))
       refine jv_v c3 hm rfl pj_X12_go rfl rfl ⟨_, _, _, rfl, sh_173⟩ rfl ((ct_X12_go_173p X (by omega) M72 hH72 ).le (by decide)) (fun M77 ⟨hH77, hR77, p75, p76⟩ => ?_)
       have hF77 := hF72.tr hR77 (by decide +kernel)
       refine jx_load c1 hm rfl rfl rfl rfl ?_
       refine jy_ic c1 hm rfl (by decide) ?_
       refine jx_load c1 hm rfl rfl rfl rfl ?_
       refine jy_ic c1 hm rfl (by decide) ?_
       refine jy_bp c1 hm rfl (by decide) ?_
       refine jv_i c3 hm rfl pj_X12_readNumber rfl rfl ⟨_, _, _, rfl, sh_173⟩ rfl ((ct_X12_readNumber_173p X (by omega) M77 hH77 0 ⟨by omega, by omega⟩ 9 ⟨by omega, by omega⟩).le (by decide)) (fun z78 M82 ⟨hH82, hR82, lz78, uz78, p79, p80, p81⟩ => ?_)
       have hF82 := hF77.tr hR82 (by decide +kernel)
       obtain ⟨z83, k84, lz83, uz83⟩ := hH82.ld (c := 173) (i := 13) (A := (-2147483648)) (B := 2147483647) (bs_28_7 _ _ (by omega) (by omega))
       refine jv_i c3 hm rfl pj_X12_put rfl rfl ⟨_, _, _, rfl, sh_173⟩ rfl ((ct_X12_put_173p X (by omega) M82 hH82 3 ⟨by omega, by omega⟩ z78 ⟨by omega, by omega⟩ (by rw [show bnd X 176 (3 : Int).toNat = (0, 9) from (bs_12_1 _ _ (by omega) (by omega))]; dsimp only; omega)).le (by decide)) (fun z85 M90 ⟨hH90, hR90, lz85, uz85, p86, p87, p88, p89⟩ => ?_)
       have hF90 := hF82.tr hR90 (by decide +kernel)
       exact jx_retz c2 hm rfl rfl ⟨by omega, by omega⟩ ⟨_, rfl, hH90, hF90, by omega, by omega, (fun t σ hσ => LRr.eq (rl_5 hσ (p7.resolve_left (by omega)) (p11.resolve_left (by omega)) (p15.resolve_left (by omega)) (p19.resolve_left (by omega)) (p23.resolve_left (by omega)) (p26 (by omega))) (LRr.eq (rwm_eq (i := 24) (by decide) hσ (by omega)) (LRr.put (wm_cv (p80 t _ (RS.next (RS.flag (c := 173) (i := 24) (j := 72) hσ n72 q72 (Or.inr (Or.inr (Or.inl ⟨rfl, rfl, rfl, by omega⟩)))) (by have y9 := (WD.y hσ (p26 (by omega)) (by decide)).1; exact (show 2 ≤ kK t σ by omega)) p75 hR77 p76 (by decide +kernel)))) p87 (fun c i => p89 c i rfl) (by decide) p86))), (((((LFr.rf _ _).eq q72).tr p76 (by decide +kernel)).tr p81 (by decide +kernel)).tr p89 (by decide +kernel))⟩
      refine jx_load c1 hm rfl rfl rfl rfl ?_
      refine jy_ic c1 hm rfl (by decide) ?_
      obtain ⟨z91, k92, lz91, uz91⟩ := hH0.ld (c := 173) (i := 6) (A := 0) (B := 940) (bs_28_3 _ _ (by omega) (by omega))
      refine jv_i c3 hm rfl pj_X12_bad rfl rfl ⟨_, _, _, rfl, sh_173⟩ rfl ((ct_X12_bad_173p X (by omega) M0 hH0 3 ⟨by omega, by omega⟩).le (by decide)) (fun z93 M97 ⟨hH97, hR97, lz93, uz93, p94, p95, p96⟩ => ?_)
      have hF97 := hF0.tr hR97 (by decide +kernel)
      obtain ⟨z98, k99, lz98, uz98⟩ := hH97.ld (c := 173) (i := 11) (A := 0) (B := 940) (bs_28_6 _ _ (by omega) (by omega))
      exact jx_retz c2 hm rfl rfl ⟨by omega, by omega⟩ ⟨_, rfl, hH97, hF97, by omega, by omega, (fun t σ hσ => LRr.eq (rl_5 hσ (p7.resolve_left (by omega)) (p11.resolve_left (by omega)) (p15.resolve_left (by omega)) (p19.resolve_left (by omega)) (p23.resolve_left (by omega)) (p26 (by omega))) (rwm_no (i := 24) (by decide) hσ (by omega) (by omega) p95)), ((LFr.rf _ _).tr p96 (by decide +kernel))⟩
     refine jx_load c1 hm rfl rfl rfl rfl ?_
     refine jv_i c3 hm rfl pj_X12_readOwes rfl rfl ⟨_, _, _, rfl, sh_173⟩ rfl ((ct_X12_readOwes_173p X (by omega) M0 hH0 ).le (by decide)) (fun z100 M103 ⟨hH103, hR103, lz100, uz100, p101, p102⟩ => ?_)
     have hF103 := hF0.tr hR103 (by decide +kernel)
     exact jx_retz c2 hm rfl rfl ⟨by omega, by omega⟩ ⟨_, rfl, hH103, hF103, by omega, by omega, (fun t σ hσ => LRr.eq (rl_4 hσ (p7.resolve_left (by omega)) (p11.resolve_left (by omega)) (p15.resolve_left (by omega)) (p19.resolve_left (by omega)) (p22 (by omega))) (p101 t σ hσ (by have y9 := (WD.y hσ (p22 (by omega)) (by decide)).1; omega))), ((LFr.rf _ _).tr p102 (by decide +kernel))⟩
    refine jx_load c1 hm rfl rfl rfl rfl ?_
    refine jv_i c3 hm rfl pj_X12_readGood rfl rfl ⟨_, _, _, rfl, sh_173⟩ rfl ((ct_X12_readGood_173p X (by omega) M0 hH0 ).le (by decide)) (fun z104 M107 ⟨hH107, hR107, lz104, uz104, p105, p106⟩ => ?_)
    have hF107 := hF0.tr hR107 (by decide +kernel)
    exact jx_retz c2 hm rfl rfl ⟨by omega, by omega⟩ ⟨_, rfl, hH107, hF107, by omega, by omega, (fun t σ hσ => LRr.eq (rl_3 hσ (p7.resolve_left (by omega)) (p11.resolve_left (by omega)) (p15.resolve_left (by omega)) (p18 (by omega))) (p105 t σ hσ (by have y9 := (WD.y hσ (p18 (by omega)) (by decide)).1; omega))), ((LFr.rf _ _).tr p106 (by decide +kernel))⟩
   refine jx_load c1 hm rfl rfl rfl rfl ?_
   refine jv_i c3 hm rfl pj_X12_readMinds rfl rfl ⟨_, _, _, rfl, sh_173⟩ rfl ((ct_X12_readMinds_173p X (by omega) M0 hH0 ).le (by decide)) (fun z108 M111 ⟨hH111, hR111, lz108, uz108, p109, p110⟩ => ?_)
   have hF111 := hF0.tr hR111 (by decide +kernel)
   exact jx_retz c2 hm rfl rfl ⟨by omega, by omega⟩ ⟨_, rfl, hH111, hF111, by omega, by omega, (fun t σ hσ => LRr.eq (rl_2 hσ (p7.resolve_left (by omega)) (p11.resolve_left (by omega)) (p14 (by omega))) (p109 t σ hσ (by have y9 := (WD.y hσ (p14 (by omega)) (by decide)).1; omega))), ((LFr.rf _ _).tr p110 (by decide +kernel))⟩
  refine jx_load c1 hm rfl rfl rfl rfl ?_
  refine jv_i c3 hm rfl pj_X12_readForfeit rfl rfl ⟨_, _, _, rfl, sh_173⟩ rfl ((ct_X12_readForfeit_173p X (by omega) M0 hH0 ).le (by decide)) (fun z112 M115 ⟨hH115, hR115, lz112, uz112, p113, p114⟩ => ?_)
  have hF115 := hF0.tr hR115 (by decide +kernel)
  exact jx_retz c2 hm rfl rfl ⟨by omega, by omega⟩ ⟨_, rfl, hH115, hF115, by omega, by omega, (fun t σ hσ => LRr.eq (rl_1 hσ (p7.resolve_left (by omega)) (p10 (by omega))) (p113 t σ hσ (by have y9 := (WD.y hσ (p10 (by omega)) (by decide)).1; omega))), ((LFr.rf _ _).tr p114 (by decide +kernel))⟩
 refine jx_load c1 hm rfl rfl rfl rfl ?_
 refine jv_i c3 hm rfl pj_X12_readMan rfl rfl ⟨_, _, _, rfl, sh_173⟩ rfl ((ct_X12_readMan_173p X (by omega) M0 hH0 ).le (by decide)) (fun z116 M119 ⟨hH119, hR119, lz116, uz116, p117, p118⟩ => ?_)
 have hF119 := hF0.tr hR119 (by decide +kernel)
 exact jx_retz c2 hm rfl rfl ⟨by omega, by omega⟩ ⟨_, rfl, hH119, hF119, by omega, by omega, (fun t σ hσ => LRr.eq (rl_0 hσ  (p6 (by omega))) (p117 t σ hσ (by have y9 := (WD.y hσ (p6 (by omega)) (by decide)).1; omega))), ((LFr.rf _ _).tr p118 (by decide +kernel))⟩
