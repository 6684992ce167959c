/-! Contracts of the class over a SENTENCE (by wip/q/wlk.py). -/
def ml_X7_readOne_42_1_5q : List (Nat × (Nat × Nat)) := [(1, (8, 8))]
def md_X7_readOne_42_1_5q : List (Nat × (Nat × Nat)) := [(1, (4, 4)), (1, (5, 5)), (1, (6, 6)), (1, (7, 7)), (1, (9, 9)), (1, (11, 11)), (1, (12, 12)), (1, (13, 13)), (42, (2, 2)), (42, (3, 3)), (43, (0, 39))]
def ST_X7_readOne_42_1_5q (n : Nat) : Prop := ∀ (X : Int) (hX : 0 ≤ X ∧ X ≤ 100000000) (M0 : JM) (hH0 : HI X M0) (a0 : Int) (ha0 : 1 ≤ a0 ∧ a0 ≤ 9) (hr : 9 - a0 < (n : Int)), JOk shp PJ (2 * n + 5) 257 [.inr (.inr (.inl 42)), .inr (.inr (.inl 1)), .inr (.inr (.inl 5)), .inl a0] M0 (jRi (fun v M' => HI X M' ∧ Fr md_X7_readOne_42_1_5q M0 M' ∧ 0 ≤ v ∧ v ≤ 1 ∧ (v = 1 → M0.1 42 3 + 1 ≤ M'.1 42 3) ∧ (∀ (t : TXT) (σ : PSt), CQ M0 t σ → OneC t 0 a0 (σ, M0.1 42 3) v M') ∧ (LFr ml_X7_readOne_42_1_5q M0 M')))
def md_X7_readCond_42_1_5q : List (Nat × (Nat × Nat)) := [(1, (4, 4)), (1, (5, 5)), (1, (6, 6)), (1, (7, 7)), (1, (9, 9)), (1, (11, 11)), (1, (12, 12)), (1, (13, 13)), (42, (2, 2)), (42, (3, 3)), (43, (0, 39))]
theorem ct_X7_readCond_42_1_5q (n : Nat) (hy : ST_X7_readOne_42_1_5q n) (X : Int) (hX : 0 ≤ X ∧ X ≤ 100000000) (M0 : JM) (hH0 : HI X M0) (a0 : Int) (ha0 : 1 ≤ a0 ∧ a0 ≤ 9) (hr : 9 - a0 < (n : Int)) : JOk shp PJ (2 * n + 5 + 1) 256 [.inr (.inr (.inl 42)), .inr (.inr (.inl 1)), .inr (.inr (.inl 5)), .inl a0] M0 (jRi (fun v M' => HI X M' ∧ Fr md_X7_readCond_42_1_5q M0 M' ∧ 0 ≤ v ∧ v ≤ 1 ∧ (v = 1 → M0.1 42 3 + 1 ≤ M'.1 42 3) ∧ (∀ (t : TXT) (σ : PSt), CQ M0 t σ → OneC t 1 a0 (σ, M0.1 42 3) v M') ∧ (LFr ml_X7_readOne_42_1_5q M0 M'))) := by
 refine ⟨jr_X7_readCond, pj_X7_readCond, fun F c1 c2 c3 => ?_⟩
 have hm := pj_X7_readCond
 change F 0 [some (.inr (.inr (.inl 42))), some (.inr (.inr (.inl 1))), some (.inr (.inr (.inl 5))), some (.inl a0), none, none, none] [] M0
 have hF0 : Fr md_X7_readCond_42_1_5q M0 M0 := Fr.rf _ _
 obtain ⟨z1, k2, lz1, uz1⟩ := hH0.ld (c := 42) (i := 3) (A := 0) (B := 20) (bs_21_2 _ _ (by omega) (by omega))
 refine jx_load c1 hm rfl rfl rfl rfl ?_
 refine jx_load c1 hm rfl rfl rfl rfl ?_
 refine jx_load c1 hm rfl rfl rfl rfl ?_
 refine jx_load c1 hm rfl rfl rfl rfl ?_
 refine jv_i c3 hm rfl pj_X7_readOne rfl rfl ⟨_, _, _, rfl, sh_42⟩ rfl ((hy X (by omega) M0 hH0 a0 ⟨by omega, by omega⟩ (by omega)).le (by omega)) (fun z3 M7 ⟨hH7, hR7, lz3, uz3, p4, p5, p6⟩ => ?_)
 have hF7 := hF0.tr hR7 (by decide +kernel)
 obtain ⟨z8, k9, lz8, uz8⟩ := hH7.ld (c := 42) (i := 3) (A := 0) (B := 20) (bs_21_2 _ _ (by omega) (by omega))
 refine jz_ne c1 hm 12 rfl rfl (fun h10 => ?_) (fun h10 => ?_)
 ·
  refine jy_ic c1 hm rfl (by decide) ?_
  refine jx_stor c1 hm (L' := [some (.inr (.inr (.inl 42))), some (.inr (.inr (.inl 1))), some (.inr (.inr (.inl 5))), some (.inl a0), some (.inl 0), none, none]) rfl rfl rfl rfl rfl ?_
  refine jy_ic c1 hm rfl (by decide) ?_
  refine jx_stor c1 hm (L' := [some (.inr (.inr (.inl 42))), some (.inr (.inr (.inl 1))), some (.inr (.inr (.inl 5))), some (.inl a0), some (.inl 0), some (.inl 0), none]) rfl rfl rfl rfl rfl ?_
  have W20 : ∀ (n21 : Nat) (b11 : Int) (hb11 : 0 ≤ b11 ∧ b11 ≤ 1) (b12 : Int) (hb12 : 0 ≤ b12 ∧ b12 ≤ 20) (o13 : Option JV) (ho13 : o13 = none ∨ (∃ z, o13 = some (.inl z)) ∨ ∃ r, o13 = some (.inr (.inr r))) (M14 : JM) (hH14 : HI (X) M14) (hF14 : Fr md_X7_readCond_42_1_5q M0 M14) (b15 : Int) (hb15 : 1 ≤ b15 ∧ b15 ≤ 20) (k16 : M14.1 42 3 = b15) (h17 : b12 + 1 ≤ M14.1 42 3 ∧ M0.1 42 3 + 1 ≤ M14.1 42 3) (hco : ∀ (t : TXT) (σ : PSt), CQ M0 t σ → RowI t a0 (σ, M0.1 42 3) M14) (hg : LFr ml_X7_readOne_42_1_5q M0 M14), (-b12 + 20) < (n21 : Int) → F 18 [some (.inr (.inr (.inl 42))), some (.inr (.inr (.inl 1))), some (.inr (.inr (.inl 5))), some (.inl a0), some (.inl b11), some (.inl b12), o13] [] M14 := by
   intro n21
   induction n21 with
   | zero => intros; omega
   | succ n21 ihW20 =>
    intro b11 hb11 b12 hb12 o13 ho13 M14 hH14 hF14 b15 hb15 k16 h17 hco hg hrW20
    refine jx_load c1 hm rfl rfl rfl rfl ?_
    refine jy_bp c1 hm rfl (by decide) ?_
    refine jc_ge c1 hm 131 rfl rfl (fun h22 => ?_) (fun h22 => ?_)
    ·
     refine jx_load c1 hm rfl rfl rfl rfl ?_
     refine jz_eq c1 hm 145 rfl rfl (fun h23 => ?_) (fun h23 => ?_)
     ·
      refine jy_ic c1 hm rfl (by decide) ?_
      exact jx_retz c2 hm rfl rfl ⟨by omega, by omega⟩ ⟨_, rfl, hH14, hF14, by omega, by omega, (by omega), (fun t σ hσ => RowI.fin (hco t σ hσ) (by omega) (by omega) (fun σ hσ => hσ) (rfl) (by omega)), hg⟩
     refine jx_load c1 hm rfl rfl rfl rfl ?_
     refine jy_bp c1 hm rfl (by decide) ?_
     refine jy_ic c1 hm rfl (by decide) ?_
     refine jy_ic c1 hm rfl (by decide) ?_
     refine jv_i c3 hm rfl pj_X7_add rfl rfl ⟨_, _, _, rfl, sh_42⟩ rfl ((ct_X7_add_42p X (by omega) M14 hH14 13 ⟨by omega, by omega⟩ 0 ⟨by omega, by omega⟩ 0 ⟨by omega, by omega⟩).le (by omega)) (fun z24 M27 ⟨hH27, hR27, lz24, uz24, p25, p26⟩ => ?_)
     have hF27 := hF14.tr hR27 (by decide +kernel)
     refine jx_pop c1 hm rfl rfl ?_
     refine jy_ic c1 hm rfl (by decide) ?_
     have k28 : M27.1 42 3 = b15 := (hR27 42 3 (by decide +kernel)).trans k16
     exact jx_retz c2 hm rfl rfl ⟨by omega, by omega⟩ ⟨_, rfl, hH27, hF27, by omega, by omega, (by omega), (fun t σ hσ => RowI.fin (hco t σ hσ) (by omega) (by omega) (fun σ hσ => (CQ.cg hσ (fun j => (hR27 2 j rfl)) (fun i hi => (hR27 1 i rfl)) ((p26 1 8 rfl)) (fun j => (hR27 6 j rfl)) (fun k => (p26 7 k rfl)))) ((hR27 42 3 rfl)) (by omega)), (hg.tr p26 (by decide +kernel))⟩
    refine jx_load c1 hm rfl rfl rfl rfl ?_
    obtain ⟨z29, k30, lz29, uz29⟩ := hH14.ld (c := 1) (i := 7) (A := (-1)) (B := 23) (bs_19_5 _ _ (by omega) (by omega))
    refine jx_geti c1 hm rfl sh_1 rfl k30 ?_
    refine jy_bp c1 hm rfl (by decide) ?_
    refine jc_eq c1 hm 43 rfl rfl (fun h31 => ?_) (fun h31 => ?_)
    ·
     refine jx_load c1 hm rfl rfl rfl rfl ?_
     refine jx_geti c1 hm rfl sh_1 rfl k30 ?_
     refine jy_bp c1 hm rfl (by decide) ?_
     refine jc_ne c1 hm 56 rfl rfl (fun h32 => ?_) (fun h32 => ?_)
     ·
      exfalso; omega
     refine jy_ic c1 hm rfl (by decide) ?_
     refine jx_goto c1 hm 57 rfl rfl ?_
     refine jx_stor c1 hm (L' := [some (.inr (.inr (.inl 42))), some (.inr (.inr (.inl 1))), some (.inr (.inr (.inl 5))), some (.inl a0), some (.inl b11), some (.inl b12), some (.inl 1)]) rfl rfl rfl rfl rfl ?_
     refine jx_load c1 hm rfl rfl rfl rfl ?_
     refine jz_ne c1 hm 78 rfl rfl (fun h33 => ?_) (fun h33 => ?_)
     ·
      refine jx_load c1 hm rfl rfl rfl rfl ?_
      refine jz_ne c1 hm 88 rfl rfl (fun h34 => ?_) (fun h34 => ?_)
      ·
       refine jy_ic c1 hm rfl (by decide) ?_
       refine jx_goto c1 hm 93 rfl rfl ?_
       refine jx_stor c1 hm (L' := [some (.inr (.inr (.inl 42))), some (.inr (.inr (.inl 1))), some (.inr (.inr (.inl 5))), some (.inl a0), some (.inl 1), some (.inl b12), some (.inl 1)]) rfl rfl rfl rfl rfl ?_
       refine jx_load c1 hm rfl rfl rfl rfl ?_
       obtain ⟨z35, k36, lz35, uz35⟩ := hH14.ld (c := 1) (i := 2) (A := 0) (B := 940) (bs_19_1 _ _ (by omega) (by omega))
       obtain ⟨z37, k38, lz37, uz37⟩ := hH14.ld (c := 1) (i := 4) (A := 0) (B := 940) (bs_19_3 _ _ (by omega) (by omega))
       refine jv_v c3 hm rfl pj_X10_next rfl rfl ⟨_, _, _, rfl, sh_1⟩ rfl ((ct_X10_next_1p X (by omega) M14 hH14 ).le (by omega)) (fun M41 ⟨hH41, hR41, p39, p40⟩ => ?_)
       have hF41 := hF14.tr hR41 (by decide +kernel)
       refine jx_load c1 hm rfl rfl rfl rfl ?_
       refine jx_load c1 hm rfl rfl rfl rfl ?_
       refine jx_load c1 hm rfl rfl rfl rfl ?_
       refine jx_load c1 hm rfl rfl rfl rfl ?_
       have k42 : M41.1 42 3 = b15 := (hR41 42 3 (by decide +kernel)).trans k16
       refine jv_i c3 hm rfl pj_X7_readOne rfl rfl ⟨_, _, _, rfl, sh_42⟩ rfl ((hy X (by omega) M41 hH41 a0 ⟨by omega, by omega⟩ (by omega)).le (by omega)) (fun z43 M47 ⟨hH47, hR47, lz43, uz43, p44, p45, p46⟩ => ?_)
       have hF47 := hF41.tr hR47 (by decide +kernel)
       obtain ⟨z48, k49, lz48, uz48⟩ := hH47.ld (c := 42) (i := 3) (A := 0) (B := 20) (bs_21_2 _ _ (by omega) (by omega))
       refine jz_ne c1 hm 111 rfl rfl (fun h50 => ?_) (fun h50 => ?_)
       ·
        refine jx_load c1 hm rfl rfl rfl rfl ?_
        refine jz_eq c1 hm 125 rfl rfl (fun h51 => ?_) (fun h51 => ?_)
        ·
         exfalso; omega
        refine jx_load c1 hm rfl rfl rfl rfl ?_
        refine jy_bp c1 hm rfl (by decide) ?_
        refine jy_ic c1 hm rfl (by decide) ?_
        refine jy_ic c1 hm rfl (by decide) ?_
        refine jv_i c3 hm rfl pj_X7_add rfl rfl ⟨_, _, _, rfl, sh_42⟩ rfl ((ct_X7_add_42p X (by omega) M47 hH47 14 ⟨by omega, by omega⟩ 0 ⟨by omega, by omega⟩ 0 ⟨by omega, by omega⟩).le (by omega)) (fun z52 M55 ⟨hH55, hR55, lz52, uz52, p53, p54⟩ => ?_)
        have hF55 := hF47.tr hR55 (by decide +kernel)
        refine jx_pop c1 hm rfl rfl ?_
        refine jx_iinc c1 hm (v := (b12 + 1)) (L' := [some (.inr (.inr (.inl 42))), some (.inr (.inr (.inl 1))), some (.inr (.inr (.inl 5))), some (.inl a0), some (.inl 1), some (.inl (b12 + 1)), some (.inl 1)]) rfl rfl (by omega) (by omega) rfl ?_
        refine jx_goto c1 hm 18 rfl rfl ?_
        have k129 : M55.1 42 3 = z48 := (hR55 42 3 (by decide +kernel)).trans k49
        exact ihW20 1 (by omega) (b12 + 1) (by omega) (some (.inl 1)) (Or.inr (Or.inl ⟨_, rfl⟩)) M55 hH55 hF55 z48 (by omega) k129 (by omega) (fun t σ hσ => RowI.go (hco t σ hσ) (by omega) (fun σ hσ hk => CQ.next hσ hk p39 (hR41 1 12 rfl) (fun j => hR41 6 j rfl) (fun k => p40 7 k rfl)) ((hR41 42 3 rfl)) (p45 t) (by omega) (fun σ hσ => (CQ.cg hσ (fun j => (hR55 2 j rfl)) (fun i hi => (hR55 1 i rfl)) ((p54 1 8 rfl)) (fun j => (hR55 6 j rfl)) (fun k => (p54 7 k rfl)))) ((hR55 42 3 rfl))) (((hg.tr p40 (by decide +kernel)).tr p46 (by decide +kernel)).tr p54 (by decide +kernel)) (by omega)
       refine jy_ic c1 hm rfl (by decide) ?_
       exact jx_retz c2 hm rfl rfl ⟨by omega, by omega⟩ ⟨_, rfl, hH47, hF47, by omega, by omega, (by omega), (fun t σ hσ => RowI.bad (hco t σ hσ) (by omega) (fun σ hσ hk => CQ.next hσ hk p39 (hR41 1 12 rfl) (fun j => hR41 6 j rfl) (fun k => p40 7 k rfl)) ((hR41 42 3 rfl)) (p45 t) (by omega) (by omega)), ((hg.tr p40 (by decide +kernel)).tr p46 (by decide +kernel))⟩
      refine jx_load c1 hm rfl rfl rfl rfl ?_
      refine jz_ne c1 hm 92 rfl rfl (fun h56 => ?_) (fun h56 => ?_)
      ·
       refine jy_ic c1 hm rfl (by decide) ?_
       refine jx_stor c1 hm (L' := [some (.inr (.inr (.inl 42))), some (.inr (.inr (.inl 1))), some (.inr (.inr (.inl 5))), some (.inl a0), some (.inl 0), some (.inl b12), some (.inl 1)]) rfl rfl rfl rfl rfl ?_
       refine jx_load c1 hm rfl rfl rfl rfl ?_
       obtain ⟨z57, k58, lz57, uz57⟩ := hH14.ld (c := 1) (i := 2) (A := 0) (B := 940) (bs_19_1 _ _ (by omega) (by omega))
       obtain ⟨z59, k60, lz59, uz59⟩ := hH14.ld (c := 1) (i := 4) (A := 0) (B := 940) (bs_19_3 _ _ (by omega) (by omega))
       refine jv_v c3 hm rfl pj_X10_next rfl rfl ⟨_, _, _, rfl, sh_1⟩ rfl ((ct_X10_next_1p X (by omega) M14 hH14 ).le (by omega)) (fun M63 ⟨hH63, hR63, p61, p62⟩ => ?_)
       have hF63 := hF14.tr hR63 (by decide +kernel)
       refine jx_load c1 hm rfl rfl rfl rfl ?_
       refine jx_load c1 hm rfl rfl rfl rfl ?_
       refine jx_load c1 hm rfl rfl rfl rfl ?_
       refine jx_load c1 hm rfl rfl rfl rfl ?_
       have k64 : M63.1 42 3 = b15 := (hR63 42 3 (by decide +kernel)).trans k16
       refine jv_i c3 hm rfl pj_X7_readOne rfl rfl ⟨_, _, _, rfl, sh_42⟩ rfl ((hy X (by omega) M63 hH63 a0 ⟨by omega, by omega⟩ (by omega)).le (by omega)) (fun z65 M69 ⟨hH69, hR69, lz65, uz65, p66, p67, p68⟩ => ?_)
       have hF69 := hF63.tr hR69 (by decide +kernel)
       obtain ⟨z70, k71, lz70, uz70⟩ := hH69.ld (c := 42) (i := 3) (A := 0) (B := 20) (bs_21_2 _ _ (by omega) (by omega))
       refine jz_ne c1 hm 111 rfl rfl (fun h72 => ?_) (fun h72 => ?_)
       ·
        refine jx_load c1 hm rfl rfl rfl rfl ?_
        refine jz_eq c1 hm 125 rfl rfl (fun h73 => ?_) (fun h73 => ?_)
        ·
         exfalso; omega
        refine jx_load c1 hm rfl rfl rfl rfl ?_
        refine jy_bp c1 hm rfl (by decide) ?_
        refine jy_ic c1 hm rfl (by decide) ?_
        refine jy_ic c1 hm rfl (by decide) ?_
        refine jv_i c3 hm rfl pj_X7_add rfl rfl ⟨_, _, _, rfl, sh_42⟩ rfl ((ct_X7_add_42p X (by omega) M69 hH69 14 ⟨by omega, by omega⟩ 0 ⟨by omega, by omega⟩ 0 ⟨by omega, by omega⟩).le (by omega)) (fun z74 M77 ⟨hH77, hR77, lz74, uz74, p75, p76⟩ => ?_)
        have hF77 := hF69.tr hR77 (by decide +kernel)
        refine jx_pop c1 hm rfl rfl ?_
        refine jx_iinc c1 hm (v := (b12 + 1)) (L' := [some (.inr (.inr (.inl 42))), some (.inr (.inr (.inl 1))), some (.inr (.inr (.inl 5))), some (.inl a0), some (.inl 0), some (.inl (b12 + 1)), some (.inl 1)]) rfl rfl (by omega) (by omega) rfl ?_
        refine jx_goto c1 hm 18 rfl rfl ?_
        have k130 : M77.1 42 3 = z70 := (hR77 42 3 (by decide +kernel)).trans k71
        exact ihW20 0 (by omega) (b12 + 1) (by omega) (some (.inl 1)) (Or.inr (Or.inl ⟨_, rfl⟩)) M77 hH77 hF77 z70 (by omega) k130 (by omega) (fun t σ hσ => RowI.go (hco t σ hσ) (by omega) (fun σ hσ hk => CQ.next hσ hk p61 (hR63 1 12 rfl) (fun j => hR63 6 j rfl) (fun k => p62 7 k rfl)) ((hR63 42 3 rfl)) (p67 t) (by omega) (fun σ hσ => (CQ.cg hσ (fun j => (hR77 2 j rfl)) (fun i hi => (hR77 1 i rfl)) ((p76 1 8 rfl)) (fun j => (hR77 6 j rfl)) (fun k => (p76 7 k rfl)))) ((hR77 42 3 rfl))) (((hg.tr p62 (by decide +kernel)).tr p68 (by decide +kernel)).tr p76 (by decide +kernel)) (by omega)
       refine jy_ic c1 hm rfl (by decide) ?_
       exact jx_retz c2 hm rfl rfl ⟨by omega, by omega⟩ ⟨_, rfl, hH69, hF69, by omega, by omega, (by omega), (fun t σ hσ => RowI.bad (hco t σ hσ) (by omega) (fun σ hσ hk => CQ.next hσ hk p61 (hR63 1 12 rfl) (fun j => hR63 6 j rfl) (fun k => p62 7 k rfl)) ((hR63 42 3 rfl)) (p67 t) (by omega) (by omega)), ((hg.tr p62 (by decide +kernel)).tr p68 (by decide +kernel))⟩
      exfalso; omega
     exfalso; omega
    refine jx_load c1 hm rfl rfl rfl rfl ?_
    refine jx_geti c1 hm rfl sh_1 rfl k30 ?_
    refine jy_bp c1 hm rfl (by decide) ?_
    refine jc_ne c1 hm 131 rfl rfl (fun h78 => ?_) (fun h78 => ?_)
    ·
     refine jx_load c1 hm rfl rfl rfl rfl ?_
     refine jz_eq c1 hm 145 rfl rfl (fun h79 => ?_) (fun h79 => ?_)
     ·
      refine jy_ic c1 hm rfl (by decide) ?_
      exact jx_retz c2 hm rfl rfl ⟨by omega, by omega⟩ ⟨_, rfl, hH14, hF14, by omega, by omega, (by omega), (fun t σ hσ => RowI.fin (hco t σ hσ) (by omega) (by omega) (fun σ hσ => hσ) (rfl) (by omega)), hg⟩
     refine jx_load c1 hm rfl rfl rfl rfl ?_
     refine jy_bp c1 hm rfl (by decide) ?_
     refine jy_ic c1 hm rfl (by decide) ?_
     refine jy_ic c1 hm rfl (by decide) ?_
     refine jv_i c3 hm rfl pj_X7_add rfl rfl ⟨_, _, _, rfl, sh_42⟩ rfl ((ct_X7_add_42p X (by omega) M14 hH14 13 ⟨by omega, by omega⟩ 0 ⟨by omega, by omega⟩ 0 ⟨by omega, by omega⟩).le (by omega)) (fun z80 M83 ⟨hH83, hR83, lz80, uz80, p81, p82⟩ => ?_)
     have hF83 := hF14.tr hR83 (by decide +kernel)
     refine jx_pop c1 hm rfl rfl ?_
     refine jy_ic c1 hm rfl (by decide) ?_
     have k84 : M83.1 42 3 = b15 := (hR83 42 3 (by decide +kernel)).trans k16
     exact jx_retz c2 hm rfl rfl ⟨by omega, by omega⟩ ⟨_, rfl, hH83, hF83, by omega, by omega, (by omega), (fun t σ hσ => RowI.fin (hco t σ hσ) (by omega) (by omega) (fun σ hσ => (CQ.cg hσ (fun j => (hR83 2 j rfl)) (fun i hi => (hR83 1 i rfl)) ((p82 1 8 rfl)) (fun j => (hR83 6 j rfl)) (fun k => (p82 7 k rfl)))) ((hR83 42 3 rfl)) (by omega)), (hg.tr p82 (by decide +kernel))⟩
    refine jx_load c1 hm rfl rfl rfl rfl ?_
    refine jx_geti c1 hm rfl sh_1 rfl k30 ?_
    refine jy_bp c1 hm rfl (by decide) ?_
    refine jc_ne c1 hm 56 rfl rfl (fun h85 => ?_) (fun h85 => ?_)
    ·
     refine jy_ic c1 hm rfl (by decide) ?_
     refine jx_stor c1 hm (L' := [some (.inr (.inr (.inl 42))), some (.inr (.inr (.inl 1))), some (.inr (.inr (.inl 5))), some (.inl a0), some (.inl b11), some (.inl b12), some (.inl 0)]) rfl rfl rfl rfl rfl ?_
     refine jx_load c1 hm rfl rfl rfl rfl ?_
     refine jz_ne c1 hm 78 rfl rfl (fun h86 => ?_) (fun h86 => ?_)
     ·
      exfalso; omega
     refine jx_load c1 hm rfl rfl rfl rfl ?_
     refine jz_eq c1 hm 78 rfl rfl (fun h87 => ?_) (fun h87 => ?_)
     ·
      refine jx_load c1 hm rfl rfl rfl rfl ?_
      refine jz_ne c1 hm 88 rfl rfl (fun h88 => ?_) (fun h88 => ?_)
      ·
       exfalso; omega
      refine jx_load c1 hm rfl rfl rfl rfl ?_
      refine jz_ne c1 hm 92 rfl rfl (fun h89 => ?_) (fun h89 => ?_)
      ·
       exfalso; omega
      refine jy_ic c1 hm rfl (by decide) ?_
      refine jx_goto c1 hm 93 rfl rfl ?_
      refine jx_stor c1 hm (L' := [some (.inr (.inr (.inl 42))), some (.inr (.inr (.inl 1))), some (.inr (.inr (.inl 5))), some (.inl a0), some (.inl 1), some (.inl b12), some (.inl 0)]) rfl rfl rfl rfl rfl ?_
      refine jx_load c1 hm rfl rfl rfl rfl ?_
      obtain ⟨z90, k91, lz90, uz90⟩ := hH14.ld (c := 1) (i := 2) (A := 0) (B := 940) (bs_19_1 _ _ (by omega) (by omega))
      obtain ⟨z92, k93, lz92, uz92⟩ := hH14.ld (c := 1) (i := 4) (A := 0) (B := 940) (bs_19_3 _ _ (by omega) (by omega))
      refine jv_v c3 hm rfl pj_X10_next rfl rfl ⟨_, _, _, rfl, sh_1⟩ rfl ((ct_X10_next_1p X (by omega) M14 hH14 ).le (by omega)) (fun M96 ⟨hH96, hR96, p94, p95⟩ => ?_)
      have hF96 := hF14.tr hR96 (by decide +kernel)
      refine jx_load c1 hm rfl rfl rfl rfl ?_
      refine jx_load c1 hm rfl rfl rfl rfl ?_
      refine jx_load c1 hm rfl rfl rfl rfl ?_
      refine jx_load c1 hm rfl rfl rfl rfl ?_
      have k97 : M96.1 42 3 = b15 := (hR96 42 3 (by decide +kernel)).trans k16
      refine jv_i c3 hm rfl pj_X7_readOne rfl rfl ⟨_, _, _, rfl, sh_42⟩ rfl ((hy X (by omega) M96 hH96 a0 ⟨by omega, by omega⟩ (by omega)).le (by omega)) (fun z98 M102 ⟨hH102, hR102, lz98, uz98, p99, p100, p101⟩ => ?_)
      have hF102 := hF96.tr hR102 (by decide +kernel)
      obtain ⟨z103, k104, lz103, uz103⟩ := hH102.ld (c := 42) (i := 3) (A := 0) (B := 20) (bs_21_2 _ _ (by omega) (by omega))
      refine jz_ne c1 hm 111 rfl rfl (fun h105 => ?_) (fun h105 => ?_)
      ·
       refine jx_load c1 hm rfl rfl rfl rfl ?_
       refine jz_eq c1 hm 125 rfl rfl (fun h106 => ?_) (fun h106 => ?_)
       ·
        refine jx_iinc c1 hm (v := (b12 + 1)) (L' := [some (.inr (.inr (.inl 42))), some (.inr (.inr (.inl 1))), some (.inr (.inr (.inl 5))), some (.inl a0), some (.inl 1), some (.inl (b12 + 1)), some (.inl 0)]) rfl rfl (by omega) (by omega) rfl ?_
        refine jx_goto c1 hm 18 rfl rfl ?_
        exact ihW20 1 (by omega) (b12 + 1) (by omega) (some (.inl 0)) (Or.inr (Or.inl ⟨_, rfl⟩)) M102 hH102 hF102 z103 (by omega) k104 (by omega) (fun t σ hσ => RowI.go (hco t σ hσ) (by omega) (fun σ hσ hk => CQ.next hσ hk p94 (hR96 1 12 rfl) (fun j => hR96 6 j rfl) (fun k => p95 7 k rfl)) ((hR96 42 3 rfl)) (p100 t) (by omega) (fun σ hσ => hσ) (rfl)) ((hg.tr p95 (by decide +kernel)).tr p101 (by decide +kernel)) (by omega)
       exfalso; omega
      refine jy_ic c1 hm rfl (by decide) ?_
      exact jx_retz c2 hm rfl rfl ⟨by omega, by omega⟩ ⟨_, rfl, hH102, hF102, by omega, by omega, (by omega), (fun t σ hσ => RowI.bad (hco t σ hσ) (by omega) (fun σ hσ hk => CQ.next hσ hk p94 (hR96 1 12 rfl) (fun j => hR96 6 j rfl) (fun k => p95 7 k rfl)) ((hR96 42 3 rfl)) (p100 t) (by omega) (by omega)), ((hg.tr p95 (by decide +kernel)).tr p101 (by decide +kernel))⟩
     refine jx_load c1 hm rfl rfl rfl rfl ?_
     refine jy_bp c1 hm rfl (by decide) ?_
     refine jy_ic c1 hm rfl (by decide) ?_
     refine jy_ic c1 hm rfl (by decide) ?_
     refine jv_i c3 hm rfl pj_X7_add rfl rfl ⟨_, _, _, rfl, sh_42⟩ rfl ((ct_X7_add_42p X (by omega) M14 hH14 13 ⟨by omega, by omega⟩ 0 ⟨by omega, by omega⟩ 0 ⟨by omega, by omega⟩).le (by omega)) (fun z107 M110 ⟨hH110, hR110, lz107, uz107, p108, p109⟩ => ?_)
     have hF110 := hF14.tr hR110 (by decide +kernel)
     refine jx_pop c1 hm rfl rfl ?_
     refine jx_load c1 hm rfl rfl rfl rfl ?_
     refine jz_ne c1 hm 88 rfl rfl (fun h111 => ?_) (fun h111 => ?_)
     ·
      refine jy_ic c1 hm rfl (by decide) ?_
      refine jx_goto c1 hm 93 rfl rfl ?_
      refine jx_stor c1 hm (L' := [some (.inr (.inr (.inl 42))), some (.inr (.inr (.inl 1))), some (.inr (.inr (.inl 5))), some (.inl a0), some (.inl 1), some (.inl b12), some (.inl 0)]) rfl rfl rfl rfl rfl ?_
      refine jx_load c1 hm rfl rfl rfl rfl ?_
      obtain ⟨z112, k113, lz112, uz112⟩ := hH110.ld (c := 1) (i := 2) (A := 0) (B := 940) (bs_19_1 _ _ (by omega) (by omega))
      obtain ⟨z114, k115, lz114, uz114⟩ := hH110.ld (c := 1) (i := 4) (A := 0) (B := 940) (bs_19_3 _ _ (by omega) (by omega))
      refine jv_v c3 hm rfl pj_X10_next rfl rfl ⟨_, _, _, rfl, sh_1⟩ rfl ((ct_X10_next_1p X (by omega) M110 hH110 ).le (by omega)) (fun M118 ⟨hH118, hR118, p116, p117⟩ => ?_)
      have hF118 := hF110.tr hR118 (by decide +kernel)
      refine jx_load c1 hm rfl rfl rfl rfl ?_
      refine jx_load c1 hm rfl rfl rfl rfl ?_
      refine jx_load c1 hm rfl rfl rfl rfl ?_
      refine jx_load c1 hm rfl rfl rfl rfl ?_
      have k119 : M118.1 42 3 = b15 := (hR118 42 3 (by decide +kernel)).trans ((hR110 42 3 (by decide +kernel)).trans k16)
      refine jv_i c3 hm rfl pj_X7_readOne rfl rfl ⟨_, _, _, rfl, sh_42⟩ rfl ((hy X (by omega) M118 hH118 a0 ⟨by omega, by omega⟩ (by omega)).le (by omega)) (fun z120 M124 ⟨hH124, hR124, lz120, uz120, p121, p122, p123⟩ => ?_)
      have hF124 := hF118.tr hR124 (by decide +kernel)
      obtain ⟨z125, k126, lz125, uz125⟩ := hH124.ld (c := 42) (i := 3) (A := 0) (B := 20) (bs_21_2 _ _ (by omega) (by omega))
      refine jz_ne c1 hm 111 rfl rfl (fun h127 => ?_) (fun h127 => ?_)
      ·
       refine jx_load c1 hm rfl rfl rfl rfl ?_
       refine jz_eq c1 hm 125 rfl rfl (fun h128 => ?_) (fun h128 => ?_)
       ·
        refine jx_iinc c1 hm (v := (b12 + 1)) (L' := [some (.inr (.inr (.inl 42))), some (.inr (.inr (.inl 1))), some (.inr (.inr (.inl 5))), some (.inl a0), some (.inl 1), some (.inl (b12 + 1)), some (.inl 0)]) rfl rfl (by omega) (by omega) rfl ?_
        refine jx_goto c1 hm 18 rfl rfl ?_
        exact ihW20 1 (by omega) (b12 + 1) (by omega) (some (.inl 0)) (Or.inr (Or.inl ⟨_, rfl⟩)) M124 hH124 hF124 z125 (by omega) k126 (by omega) (fun t σ hσ => RowI.go (hco t σ hσ) (by omega) (fun σ hσ hk => CQ.next (CQ.cg hσ (fun j => (hR110 2 j rfl)) (fun i hi => (hR110 1 i rfl)) ((p109 1 8 rfl)) (fun j => (hR110 6 j rfl)) (fun k => (p109 7 k rfl))) hk p116 (hR118 1 12 rfl) (fun j => hR118 6 j rfl) (fun k => p117 7 k rfl)) (((hR118 42 3 rfl).trans (hR110 42 3 rfl))) (p122 t) (by omega) (fun σ hσ => hσ) (rfl)) (((hg.tr p109 (by decide +kernel)).tr p117 (by decide +kernel)).tr p123 (by decide +kernel)) (by omega)
       exfalso; omega
      refine jy_ic c1 hm rfl (by decide) ?_
      exact jx_retz c2 hm rfl rfl ⟨by omega, by omega⟩ ⟨_, rfl, hH124, hF124, by omega, by omega, (by omega), (fun t σ hσ => RowI.bad (hco t σ hσ) (by omega) (fun σ hσ hk => CQ.next (CQ.cg hσ (fun j => (hR110 2 j rfl)) (fun i hi => (hR110 1 i rfl)) ((p109 1 8 rfl)) (fun j => (hR110 6 j rfl)) (fun k => (p109 7 k rfl))) hk p116 (hR118 1 12 rfl) (fun j => hR118 6 j rfl) (fun k => p117 7 k rfl)) (((hR118 42 3 rfl).trans (hR110 42 3 rfl))) (p122 t) (by omega) (by omega)), (((hg.tr p109 (by decide +kernel)).tr p117 (by decide +kernel)).tr p123 (by decide +kernel))⟩
     exfalso; omega
    exfalso; omega
  exact W20 (20 + 1 : Int).toNat 0 (by omega) 0 (by omega) none (Or.inl rfl) M7 hH7 hF7 z8 (by omega) k9 (by omega) (fun t σ hσ => RowI.start (p5 t σ hσ) (by omega)) ((LFr.rf _ _).tr p6 (by decide +kernel)) (by omega)
 refine jy_ic c1 hm rfl (by decide) ?_
 exact jx_retz c2 hm rfl rfl ⟨by omega, by omega⟩ ⟨_, rfl, hH7, hF7, by omega, by omega, (by omega), (fun t σ hσ => RowI.no (p5 t σ hσ) (by omega) (by omega)), ((LFr.rf _ _).tr p6 (by decide +kernel))⟩
theorem ct_X7_readOne_42_1_5q : ∀ n : Nat, ST_X7_readOne_42_1_5q n := by
 intro n
 induction n with
 | zero =>
  unfold ST_X7_readOne_42_1_5q
  intros; omega
 | succ n ih =>
  unfold ST_X7_readOne_42_1_5q
  intro X hX M0 hH0 a0 ha0 hr
  refine ⟨jr_X7_readOne, pj_X7_readOne, fun F c1 c2 c3 => ?_⟩
  have hm := pj_X7_readOne
  change F 0 [some (.inr (.inr (.inl 42))), some (.inr (.inr (.inl 1))), some (.inr (.inr (.inl 5))), some (.inl a0), none, none] [] M0
  have hF0 : Fr md_X7_readOne_42_1_5q M0 M0 := Fr.rf _ _
  obtain ⟨z1, k2, lz1, uz1⟩ := hH0.ld (c := 42) (i := 3) (A := 0) (B := 20) (bs_21_2 _ _ (by omega) (by omega))
  obtain ⟨z3, k4, lz3, uz3⟩ := hH0.ld (c := 1) (i := 6) (A := 0) (B := 4) (bs_19_4 _ _ (by omega) (by omega))
  obtain ⟨z5, k6, lz5, uz5⟩ := hH0.ld (c := 1) (i := 7) (A := (-1)) (B := 23) (bs_19_5 _ _ (by omega) (by omega))
  obtain ⟨z7, k8, lz7, uz7⟩ := hH0.ld (c := 1) (i := 9) (A := (-2147483648)) (B := 2147483647) (bs_19_6 _ _ (by omega) (by omega))
  obtain ⟨z9, k10, lz9, uz9⟩ := hH0.ld (c := 1) (i := 5) (A := 0) (B := 940) (bs_19_3 _ _ (by omega) (by omega))
  refine jx_load c1 hm rfl rfl rfl rfl ?_
  refine jy_bp c1 hm rfl (by decide) ?_
  refine jv_i c3 hm rfl pj_X10_isSign rfl rfl ⟨_, _, _, rfl, sh_1⟩ rfl ((ct_X10_isSign_1p X (by omega) M0 hH0 40 ⟨by omega, by omega⟩).le (by omega)) (fun z11 _ ⟨rfl, lz11, uz11, p12, p13⟩ => ?_)
  refine jx_stor c1 hm (L' := [some (.inr (.inr (.inl 42))), some (.inr (.inr (.inl 1))), some (.inr (.inr (.inl 5))), some (.inl a0), some (.inl z11), none]) rfl rfl rfl rfl rfl ?_
  refine jx_load c1 hm rfl rfl rfl rfl ?_
  refine jz_ne c1 hm 41 rfl rfl (fun h14 => ?_) (fun h14 => ?_)
  ·
   refine jx_load c1 hm rfl rfl rfl rfl ?_
   refine jx_geti c1 hm rfl sh_42 rfl k2 ?_
   refine jy_bp c1 hm rfl (by decide) ?_
   refine jc_ge c1 hm 56 rfl rfl (fun h15 => ?_) (fun h15 => ?_)
   ·
    refine jx_load c1 hm rfl rfl rfl rfl ?_
    refine jy_ic c1 hm rfl (by decide) ?_
    refine jx_load c1 hm rfl rfl rfl rfl ?_
    refine jx_geti c1 hm rfl sh_1 rfl k10 ?_
    refine jv_i c3 hm rfl pj_X10_fails rfl rfl ⟨_, _, _, rfl, sh_1⟩ rfl ((ct_X10_fails_1p X (by omega) M0 hH0 4 ⟨by omega, by omega⟩ z9 ⟨by omega, by omega⟩).le (by omega)) (fun z16 M22 ⟨hH22, hR22, lz16, uz16, p17, p18, p19, p20, p21⟩ => ?_)
    have hF22 := hF0.tr hR22 (by decide +kernel)
    obtain ⟨z23, k24, lz23, uz23⟩ := hH22.ld (c := 1) (i := 12) (A := 0) (B := 4) (bs_19_8 _ _ (by omega) (by omega))
    obtain ⟨z25, k26, lz25, uz25⟩ := hH22.ld (c := 1) (i := 13) (A := 0) (B := 940) (bs_19_9 _ _ (by omega) (by omega))
    have k27 : M22.1 42 3 = z1 := (hR22 42 3 (by decide +kernel)).trans k2
    exact jx_retz c2 hm rfl rfl ⟨by omega, by omega⟩ ⟨_, rfl, hH22, hF22, by omega, by omega, (by omega), (fun t σ hσ => OneC.no4 hσ (by omega) (by omega) (by omega) (by omega) (by omega)), ((LFr.rf _ _).tr p21 (by decide +kernel))⟩
   refine jx_load c1 hm rfl rfl rfl rfl ?_
   refine jy_bp c1 hm rfl (by decide) ?_
   refine jc_le c1 hm 66 rfl rfl (fun h28 => ?_) (fun h28 => ?_)
   ·
    refine jx_load c1 hm rfl rfl rfl rfl ?_
    refine jx_dup c1 hm rfl rfl ?_
    refine jx_geti c1 hm rfl sh_42 rfl k2 ?_
    refine jy_ic c1 hm rfl (by decide) ?_
    refine jy_add c1 hm (z1 + 1) rfl (by omega) ?_
    obtain ⟨M29, e29, hH29, hF29, k29, n29, q29⟩ := mup hH0 hF0 (c := 42) (i := 3) (v := (z1 + 1)) (A := 0) (B := 20) (bs_21_2 _ _ (by omega) (by omega)) ⟨by omega, by omega⟩ (jin_of 9 rfl ⟨by omega, by omega⟩)
    refine jm_puti c1 hm rfl sh_42 rfl e29 ?_
    refine jx_load c1 hm rfl rfl rfl rfl ?_
    have k30 : M29.1 1 7 = z5 := (n29 1 7 (fun h => absurd h.1 (by decide))).trans k6
    refine jx_geti c1 hm rfl sh_1 rfl k30 ?_
    refine jx_stor c1 hm (L' := [some (.inr (.inr (.inl 42))), some (.inr (.inr (.inl 1))), some (.inr (.inr (.inl 5))), some (.inl a0), some (.inl z11), some (.inl z5)]) rfl rfl rfl rfl rfl ?_
    refine jx_load c1 hm rfl rfl rfl rfl ?_
    obtain ⟨z31, k32, lz31, uz31⟩ := hH29.ld (c := 1) (i := 2) (A := 0) (B := 940) (bs_19_1 _ _ (by omega) (by omega))
    obtain ⟨z33, k34, lz33, uz33⟩ := hH29.ld (c := 1) (i := 4) (A := 0) (B := 940) (bs_19_3 _ _ (by omega) (by omega))
    refine jv_v c3 hm rfl pj_X10_next rfl rfl ⟨_, _, _, rfl, sh_1⟩ rfl ((ct_X10_next_1p X (by omega) M29 hH29 ).le (by omega)) (fun M37 ⟨hH37, hR37, p35, p36⟩ => ?_)
    have hF37 := hF29.tr hR37 (by decide +kernel)
    refine jx_load c1 hm rfl rfl rfl rfl ?_
    refine jz_eq c1 hm 118 rfl rfl (fun h38 => ?_) (fun h38 => ?_)
    ·
     exfalso; omega
    refine jx_load c1 hm rfl rfl rfl rfl ?_
    refine jx_load c1 hm rfl rfl rfl rfl ?_
    refine jx_load c1 hm rfl rfl rfl rfl ?_
    refine jx_load c1 hm rfl rfl rfl rfl ?_
    refine jy_ic c1 hm rfl (by decide) ?_
    refine jy_add c1 hm (a0 + 1) rfl (by omega) ?_
    have k39 : M37.1 42 3 = (z1 + 1) := (hR37 42 3 (by decide +kernel)).trans k29
    refine jv_i c3 hm rfl pj_X7_readCond rfl rfl ⟨_, _, _, rfl, sh_42⟩ rfl ((ct_X7_readCond_42_1_5q n ih X (by omega) M37 hH37 (a0 + 1) ⟨by omega, by omega⟩ (by omega)).le (by omega)) (fun z40 M44 ⟨hH44, hR44, lz40, uz40, p41, p42, p43⟩ => ?_)
    have hF44 := hF37.tr hR44 (by decide +kernel)
    obtain ⟨z45, k46, lz45, uz45⟩ := hH44.ld (c := 42) (i := 3) (A := 0) (B := 20) (bs_21_2 _ _ (by omega) (by omega))
    refine jz_eq c1 hm 116 rfl rfl (fun h47 => ?_) (fun h47 => ?_)
    ·
     refine jy_ic c1 hm rfl (by decide) ?_
     exact jx_retz c2 hm rfl rfl ⟨by omega, by omega⟩ ⟨_, rfl, hH44, hF44, by omega, by omega, (by omega), (fun t σ hσ => OneC.brn hσ ⟨by omega, by omega⟩ ⟨by omega, by omega⟩ (p42 t _ (CQ.next (CQ.cg hσ (fun j => (n29 2 j (fun h => absurd h.1 (by decide)))) (fun i hi => (n29 1 i (fun h => absurd h.1 (by decide)))) ((q29 1 8)) (fun j => (n29 6 j (fun h => absurd h.1 (by decide)))) (fun k => (q29 7 k))) (brQ.k2 (n := 0) (hσ.br ⟨by omega, by omega⟩)) p35 (hR37 1 12 rfl) (fun j => hR37 6 j rfl) (fun k => p36 7 k rfl))) (by omega) (by omega) (by omega)), ((((LFr.rf _ _).eq q29).tr p36 (by decide +kernel)).tr p43 (by decide +kernel))⟩
    refine jx_load c1 hm rfl rfl rfl rfl ?_
    refine jy_bp c1 hm rfl (by decide) ?_
    refine jv_i c3 hm rfl pj_X10_takesSign rfl rfl ⟨_, _, _, rfl, sh_1⟩ rfl ((ct_X10_takesSign_1q X (by omega) M44 hH44 41 ⟨by omega, by omega⟩).le (by omega)) (fun z48 M52 ⟨hH52, hR52, lz48, uz48, p49, p50, p51⟩ => ?_)
    have hF52 := hF44.tr hR52 (by decide +kernel)
    refine jz_eq c1 hm 116 rfl rfl (fun h53 => ?_) (fun h53 => ?_)
    ·
     refine jy_ic c1 hm rfl (by decide) ?_
     have k54 : M52.1 42 3 = z45 := (hR52 42 3 (by decide +kernel)).trans k46
     exact jx_retz c2 hm rfl rfl ⟨by omega, by omega⟩ ⟨_, rfl, hH52, hF52, by omega, by omega, (by omega), (fun t σ hσ => OneC.bry hσ ⟨by omega, by omega⟩ ⟨by omega, by omega⟩ (p42 t _ (CQ.next (CQ.cg hσ (fun j => (n29 2 j (fun h => absurd h.1 (by decide)))) (fun i hi => (n29 1 i (fun h => absurd h.1 (by decide)))) ((q29 1 8)) (fun j => (n29 6 j (fun h => absurd h.1 (by decide)))) (fun k => (q29 7 k))) (brQ.k2 (n := 0) (hσ.br ⟨by omega, by omega⟩)) p35 (hR37 1 12 rfl) (fun j => hR37 6 j rfl) (fun k => p36 7 k rfl))) (by omega) (by omega) (fun σ n hσ => p51 t σ n hσ) (by omega) ((hR52 42 3 rfl))), (((((LFr.rf _ _).eq q29).tr p36 (by decide +kernel)).tr p43 (by decide +kernel)).tr p50 (by decide +kernel))⟩
    refine jy_ic c1 hm rfl (by decide) ?_
    refine jx_goto c1 hm 117 rfl rfl ?_
    have k55 : M52.1 42 3 = z45 := (hR52 42 3 (by decide +kernel)).trans k46
    exact jx_retz c2 hm rfl rfl ⟨by omega, by omega⟩ ⟨_, rfl, hH52, hF52, by omega, by omega, (by omega), (fun t σ hσ => OneC.bry hσ ⟨by omega, by omega⟩ ⟨by omega, by omega⟩ (p42 t _ (CQ.next (CQ.cg hσ (fun j => (n29 2 j (fun h => absurd h.1 (by decide)))) (fun i hi => (n29 1 i (fun h => absurd h.1 (by decide)))) ((q29 1 8)) (fun j => (n29 6 j (fun h => absurd h.1 (by decide)))) (fun k => (q29 7 k))) (brQ.k2 (n := 0) (hσ.br ⟨by omega, by omega⟩)) p35 (hR37 1 12 rfl) (fun j => hR37 6 j rfl) (fun k => p36 7 k rfl))) (by omega) (by omega) (fun σ n hσ => p51 t σ n hσ) (by omega) ((hR52 42 3 rfl))), (((((LFr.rf _ _).eq q29).tr p36 (by decide +kernel)).tr p43 (by decide +kernel)).tr p50 (by decide +kernel))⟩
   refine jx_load c1 hm rfl rfl rfl rfl ?_
   refine jy_ic c1 hm rfl (by decide) ?_
   refine jx_load c1 hm rfl rfl rfl rfl ?_
   refine jx_geti c1 hm rfl sh_1 rfl k10 ?_
   refine jv_i c3 hm rfl pj_X10_fails rfl rfl ⟨_, _, _, rfl, sh_1⟩ rfl ((ct_X10_fails_1p X (by omega) M0 hH0 4 ⟨by omega, by omega⟩ z9 ⟨by omega, by omega⟩).le (by omega)) (fun z56 M62 ⟨hH62, hR62, lz56, uz56, p57, p58, p59, p60, p61⟩ => ?_)
   have hF62 := hF0.tr hR62 (by decide +kernel)
   obtain ⟨z63, k64, lz63, uz63⟩ := hH62.ld (c := 1) (i := 12) (A := 0) (B := 4) (bs_19_8 _ _ (by omega) (by omega))
   obtain ⟨z65, k66, lz65, uz65⟩ := hH62.ld (c := 1) (i := 13) (A := 0) (B := 940) (bs_19_9 _ _ (by omega) (by omega))
   have k67 : M62.1 42 3 = z1 := (hR62 42 3 (by decide +kernel)).trans k2
   exact jx_retz c2 hm rfl rfl ⟨by omega, by omega⟩ ⟨_, rfl, hH62, hF62, by omega, by omega, (by omega), (fun t σ hσ => OneC.no4 hσ (by omega) (by omega) (by omega) (by omega) (by omega)), ((LFr.rf _ _).tr p61 (by decide +kernel))⟩
  refine jx_load c1 hm rfl rfl rfl rfl ?_
  refine jx_geti c1 hm rfl sh_1 rfl k6 ?_
  refine jy_bp c1 hm rfl (by decide) ?_
  refine jc_lt c1 hm 31 rfl rfl (fun h68 => ?_) (fun h68 => ?_)
  ·
   refine jx_load c1 hm rfl rfl rfl rfl ?_
   refine jy_ic c1 hm rfl (by decide) ?_
   refine jx_load c1 hm rfl rfl rfl rfl ?_
   refine jx_geti c1 hm rfl sh_1 rfl k10 ?_
   refine jv_i c3 hm rfl pj_X10_fails rfl rfl ⟨_, _, _, rfl, sh_1⟩ rfl ((ct_X10_fails_1p X (by omega) M0 hH0 1 ⟨by omega, by omega⟩ z9 ⟨by omega, by omega⟩).le (by omega)) (fun z69 M75 ⟨hH75, hR75, lz69, uz69, p70, p71, p72, p73, p74⟩ => ?_)
   have hF75 := hF0.tr hR75 (by decide +kernel)
   obtain ⟨z76, k77, lz76, uz76⟩ := hH75.ld (c := 1) (i := 12) (A := 0) (B := 4) (bs_19_8 _ _ (by omega) (by omega))
   obtain ⟨z78, k79, lz78, uz78⟩ := hH75.ld (c := 1) (i := 13) (A := 0) (B := 940) (bs_19_9 _ _ (by omega) (by omega))
   have k80 : M75.1 42 3 = z1 := (hR75 42 3 (by decide +kernel)).trans k2
   exact jx_retz c2 hm rfl rfl ⟨by omega, by omega⟩ ⟨_, rfl, hH75, hF75, by omega, by omega, (by omega), (fun t σ hσ => OneC.no1 hσ (by omega) (by omega) (by omega) (by omega) (by omega)), ((LFr.rf _ _).tr p74 (by decide +kernel))⟩
  refine jx_load c1 hm rfl rfl rfl rfl ?_
  refine jx_geti c1 hm rfl sh_1 rfl k6 ?_
  refine jy_bp c1 hm rfl (by decide) ?_
  refine jc_le c1 hm 41 rfl rfl (fun h81 => ?_) (fun h81 => ?_)
  ·
   refine jx_load c1 hm rfl rfl rfl rfl ?_
   refine jx_geti c1 hm rfl sh_42 rfl k2 ?_
   refine jy_bp c1 hm rfl (by decide) ?_
   refine jc_ge c1 hm 56 rfl rfl (fun h82 => ?_) (fun h82 => ?_)
   ·
    refine jx_load c1 hm rfl rfl rfl rfl ?_
    refine jy_ic c1 hm rfl (by decide) ?_
    refine jx_load c1 hm rfl rfl rfl rfl ?_
    refine jx_geti c1 hm rfl sh_1 rfl k10 ?_
    refine jv_i c3 hm rfl pj_X10_fails rfl rfl ⟨_, _, _, rfl, sh_1⟩ rfl ((ct_X10_fails_1p X (by omega) M0 hH0 4 ⟨by omega, by omega⟩ z9 ⟨by omega, by omega⟩).le (by omega)) (fun z83 M89 ⟨hH89, hR89, lz83, uz83, p84, p85, p86, p87, p88⟩ => ?_)
    have hF89 := hF0.tr hR89 (by decide +kernel)
    obtain ⟨z90, k91, lz90, uz90⟩ := hH89.ld (c := 1) (i := 12) (A := 0) (B := 4) (bs_19_8 _ _ (by omega) (by omega))
    obtain ⟨z92, k93, lz92, uz92⟩ := hH89.ld (c := 1) (i := 13) (A := 0) (B := 940) (bs_19_9 _ _ (by omega) (by omega))
    have k94 : M89.1 42 3 = z1 := (hR89 42 3 (by decide +kernel)).trans k2
    exact jx_retz c2 hm rfl rfl ⟨by omega, by omega⟩ ⟨_, rfl, hH89, hF89, by omega, by omega, (by omega), (fun t σ hσ => OneC.no4 hσ (by omega) (by omega) (by omega) (by omega) (by omega)), ((LFr.rf _ _).tr p88 (by decide +kernel))⟩
   refine jx_load c1 hm rfl rfl rfl rfl ?_
   refine jy_bp c1 hm rfl (by decide) ?_
   refine jc_le c1 hm 66 rfl rfl (fun h95 => ?_) (fun h95 => ?_)
   ·
    refine jx_load c1 hm rfl rfl rfl rfl ?_
    refine jx_dup c1 hm rfl rfl ?_
    refine jx_geti c1 hm rfl sh_42 rfl k2 ?_
    refine jy_ic c1 hm rfl (by decide) ?_
    refine jy_add c1 hm (z1 + 1) rfl (by omega) ?_
    obtain ⟨M96, e96, hH96, hF96, k96, n96, q96⟩ := mup hH0 hF0 (c := 42) (i := 3) (v := (z1 + 1)) (A := 0) (B := 20) (bs_21_2 _ _ (by omega) (by omega)) ⟨by omega, by omega⟩ (jin_of 9 rfl ⟨by omega, by omega⟩)
    refine jm_puti c1 hm rfl sh_42 rfl e96 ?_
    refine jx_load c1 hm rfl rfl rfl rfl ?_
    have k97 : M96.1 1 7 = z5 := (n96 1 7 (fun h => absurd h.1 (by decide))).trans k6
    refine jx_geti c1 hm rfl sh_1 rfl k97 ?_
    refine jx_stor c1 hm (L' := [some (.inr (.inr (.inl 42))), some (.inr (.inr (.inl 1))), some (.inr (.inr (.inl 5))), some (.inl a0), some (.inl z11), some (.inl z5)]) rfl rfl rfl rfl rfl ?_
    refine jx_load c1 hm rfl rfl rfl rfl ?_
    obtain ⟨z98, k99, lz98, uz98⟩ := hH96.ld (c := 1) (i := 2) (A := 0) (B := 940) (bs_19_1 _ _ (by omega) (by omega))
    obtain ⟨z100, k101, lz100, uz100⟩ := hH96.ld (c := 1) (i := 4) (A := 0) (B := 940) (bs_19_3 _ _ (by omega) (by omega))
    refine jv_v c3 hm rfl pj_X10_next rfl rfl ⟨_, _, _, rfl, sh_1⟩ rfl ((ct_X10_next_1p X (by omega) M96 hH96 ).le (by omega)) (fun M104 ⟨hH104, hR104, p102, p103⟩ => ?_)
    have hF104 := hF96.tr hR104 (by decide +kernel)
    refine jx_load c1 hm rfl rfl rfl rfl ?_
    refine jz_eq c1 hm 118 rfl rfl (fun h105 => ?_) (fun h105 => ?_)
    ·
     refine jx_load c1 hm rfl rfl rfl rfl ?_
     refine jy_bp c1 hm rfl (by decide) ?_
     refine jc_ne c1 hm 154 rfl rfl (fun h106 => ?_) (fun h106 => ?_)
     ·
      refine jx_load c1 hm rfl rfl rfl rfl ?_
      refine jx_load c1 hm rfl rfl rfl rfl ?_
      refine jx_load c1 hm rfl rfl rfl rfl ?_
      refine jx_load c1 hm rfl rfl rfl rfl ?_
      refine jv_i c3 hm rfl pj_X7_readPlainOne rfl rfl ⟨_, _, _, rfl, sh_42⟩ rfl ((ct_X7_readPlainOne_42_1_5q X (by omega) M104 hH104 z5 ⟨by omega, by omega⟩).le (by omega)) (fun z107 M110 ⟨hH110, hR110, lz107, uz107, p108, p109⟩ => ?_)
      have hF110 := hF104.tr hR110 (by decide +kernel)
      have k111 : M110.1 42 3 = (z1 + 1) := (hR110 42 3 (by decide +kernel)).trans ((hR104 42 3 (by decide +kernel)).trans k96)
      exact jx_retz c2 hm rfl rfl ⟨by omega, by omega⟩ ⟨_, rfl, hH110, hF110, by omega, by omega, (by omega), (fun t σ hσ => OneC.pl (m := 0) hσ (by omega) (by omega) ⟨by omega, by omega⟩ (p108 t _ _ (CQ.next (CQ.cg hσ (fun j => (n96 2 j (fun h => absurd h.1 (by decide)))) (fun i hi => (n96 1 i (fun h => absurd h.1 (by decide)))) ((q96 1 8)) (fun j => (n96 6 j (fun h => absurd h.1 (by decide)))) (fun k => (q96 7 k))) (anyQ.k2 (n := 0) (hσ.any (by omega))) p102 (hR104 1 12 rfl) (fun j => hR104 6 j rfl) (fun k => p103 7 k rfl)) (by omega)) (by omega) (by omega)), ((((LFr.rf _ _).eq q96).tr p103 (by decide +kernel)).tr p109 (by decide +kernel))⟩
     refine jx_load c1 hm rfl rfl rfl rfl ?_
     refine jx_load c1 hm rfl rfl rfl rfl ?_
     refine jx_load c1 hm rfl rfl rfl rfl ?_
     refine jx_load c1 hm rfl rfl rfl rfl ?_
     refine jy_ic c1 hm rfl (by decide) ?_
     refine jy_add c1 hm (a0 + 1) rfl (by omega) ?_
     have k112 : M104.1 42 3 = (z1 + 1) := (hR104 42 3 (by decide +kernel)).trans k96
     refine jv_i c3 hm rfl pj_X7_readOne rfl rfl ⟨_, _, _, rfl, sh_42⟩ rfl ((ih X (by omega) M104 hH104 (a0 + 1) ⟨by omega, by omega⟩ (by omega)).le (by omega)) (fun z113 M117 ⟨hH117, hR117, lz113, uz113, p114, p115, p116⟩ => ?_)
     have hF117 := hF104.tr hR117 (by decide +kernel)
     obtain ⟨z118, k119, lz118, uz118⟩ := hH117.ld (c := 42) (i := 3) (A := 0) (B := 20) (bs_21_2 _ _ (by omega) (by omega))
     refine jz_eq c1 hm 152 rfl rfl (fun h120 => ?_) (fun h120 => ?_)
     ·
      refine jy_ic c1 hm rfl (by decide) ?_
      exact jx_retz c2 hm rfl rfl ⟨by omega, by omega⟩ ⟨_, rfl, hH117, hF117, by omega, by omega, (by omega), (fun t σ hσ => OneC.nn hσ (by omega) ⟨by omega, by omega⟩ (p115 t _ (CQ.next (CQ.cg hσ (fun j => (n96 2 j (fun h => absurd h.1 (by decide)))) (fun i hi => (n96 1 i (fun h => absurd h.1 (by decide)))) ((q96 1 8)) (fun j => (n96 6 j (fun h => absurd h.1 (by decide)))) (fun k => (q96 7 k))) (anyQ.k2 (n := 0) (hσ.any (by omega))) p102 (hR104 1 12 rfl) (fun j => hR104 6 j rfl) (fun k => p103 7 k rfl))) (by omega) (by omega) (by omega)), ((((LFr.rf _ _).eq q96).tr p103 (by decide +kernel)).tr p116 (by decide +kernel))⟩
     refine jx_load c1 hm rfl rfl rfl rfl ?_
     refine jx_load c1 hm rfl rfl rfl rfl ?_
     refine jy_ic c1 hm rfl (by decide) ?_
     refine jy_ic c1 hm rfl (by decide) ?_
     refine jv_i c3 hm rfl pj_X7_add rfl rfl ⟨_, _, _, rfl, sh_42⟩ rfl ((ct_X7_add_42p X (by omega) M117 hH117 z5 ⟨by omega, by omega⟩ 0 ⟨by omega, by omega⟩ 0 ⟨by omega, by omega⟩).le (by omega)) (fun z121 M124 ⟨hH124, hR124, lz121, uz121, p122, p123⟩ => ?_)
     have hF124 := hF117.tr hR124 (by decide +kernel)
     refine jz_eq c1 hm 152 rfl rfl (fun h125 => ?_) (fun h125 => ?_)
     ·
      exfalso; omega
     refine jy_ic c1 hm rfl (by decide) ?_
     refine jx_goto c1 hm 153 rfl rfl ?_
     have k126 : M124.1 42 3 = z118 := (hR124 42 3 (by decide +kernel)).trans k119
     exact jx_retz c2 hm rfl rfl ⟨by omega, by omega⟩ ⟨_, rfl, hH124, hF124, by omega, by omega, (by omega), (fun t σ hσ => OneC.ny hσ (by omega) ⟨by omega, by omega⟩ (p115 t _ (CQ.next (CQ.cg hσ (fun j => (n96 2 j (fun h => absurd h.1 (by decide)))) (fun i hi => (n96 1 i (fun h => absurd h.1 (by decide)))) ((q96 1 8)) (fun j => (n96 6 j (fun h => absurd h.1 (by decide)))) (fun k => (q96 7 k))) (anyQ.k2 (n := 0) (hσ.any (by omega))) p102 (hR104 1 12 rfl) (fun j => hR104 6 j rfl) (fun k => p103 7 k rfl))) (by omega) (by omega) (fun σ hσ => (CQ.cg hσ (fun j => (hR124 2 j rfl)) (fun i hi => (hR124 1 i rfl)) ((p123 1 8 rfl)) (fun j => (hR124 6 j rfl)) (fun k => (p123 7 k rfl)))) (by omega) ((hR124 42 3 rfl))), (((((LFr.rf _ _).eq q96).tr p103 (by decide +kernel)).tr p116 (by decide +kernel)).tr p123 (by decide +kernel))⟩
    exfalso; omega
   refine jx_load c1 hm rfl rfl rfl rfl ?_
   refine jy_ic c1 hm rfl (by decide) ?_
   refine jx_load c1 hm rfl rfl rfl rfl ?_
   refine jx_geti c1 hm rfl sh_1 rfl k10 ?_
   refine jv_i c3 hm rfl pj_X10_fails rfl rfl ⟨_, _, _, rfl, sh_1⟩ rfl ((ct_X10_fails_1p X (by omega) M0 hH0 4 ⟨by omega, by omega⟩ z9 ⟨by omega, by omega⟩).le (by omega)) (fun z127 M133 ⟨hH133, hR133, lz127, uz127, p128, p129, p130, p131, p132⟩ => ?_)
   have hF133 := hF0.tr hR133 (by decide +kernel)
   obtain ⟨z134, k135, lz134, uz134⟩ := hH133.ld (c := 1) (i := 12) (A := 0) (B := 4) (bs_19_8 _ _ (by omega) (by omega))
   obtain ⟨z136, k137, lz136, uz136⟩ := hH133.ld (c := 1) (i := 13) (A := 0) (B := 940) (bs_19_9 _ _ (by omega) (by omega))
   have k138 : M133.1 42 3 = z1 := (hR133 42 3 (by decide +kernel)).trans k2
   exact jx_retz c2 hm rfl rfl ⟨by omega, by omega⟩ ⟨_, rfl, hH133, hF133, by omega, by omega, (by omega), (fun t σ hσ => OneC.no4 hσ (by omega) (by omega) (by omega) (by omega) (by omega)), ((LFr.rf _ _).tr p132 (by decide +kernel))⟩
  exfalso; omega
