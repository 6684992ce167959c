/-! Contracts of a SENTENCE, of names (by wip/q/wlk.py). -/
def md_X12_begin_173q : List (Nat × (Nat × Nat)) := [(173, (0, 0)), (173, (2, 2)), (173, (3, 3)), (173, (4, 4)), (173, (5, 5)), (173, (6, 6)), (173, (7, 7)), (173, (8, 8)), (173, (9, 9)), (173, (10, 10))]
theorem ct_X12_begin_173q (X : Int) (hX : 0 ≤ X ∧ X ≤ 100000000) (M0 : JM) (hH0 : HI X M0) (a0 : Int) (ha0 : 0 ≤ a0 ∧ a0 ≤ 900) : JOk shp PJ 3 82 [.inr (.inr (.inl 173)), .inl a0] M0 (jRv (fun M' => HI X M' ∧ Fr md_X12_begin_173q M0 M' ∧ (RTk M' (uR M0, (M0.1 173 2, a0)) 0) ∧ (M'.1 173 2 = 0) ∧ (M'.1 173 10 = 0) ∧ (LFr ml_X12_go_173p M0 M'))) := by
 refine ⟨jr_X12_begin, pj_X12_begin, fun F c1 c2 c3 => ?_⟩
 have hm := pj_X12_begin
 change F 0 [some (.inr (.inr (.inl 173))), some (.inl a0)] [] M0
 have hF0 : Fr md_X12_begin_173q M0 M0 := Fr.rf _ _
 obtain ⟨z1, k2, lz1, uz1⟩ := hH0.ld (c := 173) (i := 2) (A := 0) (B := 940) (bs_28_1 _ _ (by omega) (by omega))
 refine jx_load c1 hm rfl rfl rfl rfl ?_
 refine jy_ic c1 hm rfl (by decide) ?_
 obtain ⟨M3, e3, hH3, hF3, k3, n3, q3⟩ := mup hH0 hF0 (c := 173) (i := 0) (v := 0) (A := (-2147483648)) (B := 2147483647) (bs_28_0 _ _ (by omega) (by omega)) ⟨by omega, by omega⟩ (jin_of 0 rfl ⟨by omega, by omega⟩)
 refine jm_puti c1 hm rfl sh_173 rfl e3 ?_
 refine jx_load c1 hm rfl rfl rfl rfl ?_
 refine jx_load c1 hm rfl rfl rfl rfl ?_
 have k4 : M3.1 173 2 = z1 := (n3 173 2 (by decide)).trans k2
 refine jv_i c3 hm rfl pj_X12_take rfl rfl ⟨_, _, _, rfl, sh_173⟩ rfl ((ct_X12_take_173p X (by omega) M3 hH3 ).le (by decide)) (fun z5 M9 ⟨hH9, hR9, lz5, uz5, p6, p7, p8⟩ => ?_)
 have hF9 := hF3.tr hR9 (by decide +kernel)
 obtain ⟨z10, k11, lz10, uz10⟩ := hH9.ld (c := 173) (i := 2) (A := 0) (B := 940) (bs_28_1 _ _ (by omega) (by omega))
 obtain ⟨M12, e12, hH12, hF12, k12, n12, q12⟩ := mup hH9 hF9 (c := 173) (i := 3) (v := z5) (A := 0) (B := 940) (bs_28_1 _ _ (by omega) (by omega)) ⟨by omega, by omega⟩ (jin_of 2 rfl ⟨by omega, by omega⟩)
 refine jm_puti c1 hm rfl sh_173 rfl e12 ?_
 refine jx_load c1 hm rfl rfl rfl rfl ?_
 refine jx_load c1 hm rfl rfl rfl rfl ?_
 obtain ⟨M13, e13, hH13, hF13, k13, n13, q13⟩ := mup hH12 hF12 (c := 173) (i := 4) (v := a0) (A := 0) (B := 900) (bs_28_2 _ _ (by omega) (by omega)) ⟨by omega, by omega⟩ (jin_of 3 rfl ⟨by omega, by omega⟩)
 refine jm_puti c1 hm rfl sh_173 rfl e13 ?_
 refine jx_load c1 hm rfl rfl rfl rfl ?_
 refine jy_ic c1 hm rfl (by decide) ?_
 obtain ⟨M14, e14, hH14, hF14, k14, n14, q14⟩ := mup hH13 hF13 (c := 173) (i := 10) (v := 0) (A := (-2147483648)) (B := 2147483647) (bs_28_5 _ _ (by omega) (by omega)) ⟨by omega, by omega⟩ (jin_of 9 rfl ⟨by omega, by omega⟩)
 refine jm_puti c1 hm rfl sh_173 rfl e14 ?_
 refine jx_load c1 hm rfl rfl rfl rfl ?_
 refine jy_ic c1 hm rfl (by decide) ?_
 obtain ⟨M15, e15, hH15, hF15, k15, n15, q15⟩ := mup hH14 hF14 (c := 173) (i := 5) (v := 0) (A := 0) (B := 940) (bs_28_3 _ _ (by omega) (by omega)) ⟨by omega, by omega⟩ (jin_of 4 rfl ⟨by omega, by omega⟩)
 refine jm_puti c1 hm rfl sh_173 rfl e15 ?_
 refine jx_load c1 hm rfl rfl rfl rfl ?_
 refine jv_v c3 hm rfl pj_X12_go rfl rfl ⟨_, _, _, rfl, sh_173⟩ rfl ((ct_X12_go_173p X (by omega) M15 hH15 ).le (by decide)) (fun M18 ⟨hH18, hR18, p16, p17⟩ => ?_)
 have hF18 := hF15.tr hR18 (by decide +kernel)
 have k19 : M18.1 173 2 = z10 := (hR18 173 2 (by decide +kernel)).trans ((n15 173 2 (by decide)).trans ((n14 173 2 (by decide)).trans ((n13 173 2 (by decide)).trans ((n12 173 2 (by decide)).trans k11))))
 have k20 : M18.1 173 10 = 0 := (hR18 173 10 (by decide +kernel)).trans ((n15 173 10 (by decide)).trans k14)
 exact jx_retv c2 hm rfl rfl ⟨rfl, hH18, hF18, (be_tx p16 (fun j => hF15 174 j rfl) ((((n15 173 3 (by decide)).trans (n14 173 3 (by decide))).trans (n13 173 3 (by decide))).trans (k12.trans (by omega))) (((n15 173 4 (by decide)).trans (n14 173 4 (by decide))).trans k13) (rfl.trans k15)), (by omega), (by omega), ((((((((LFr.rf _ _).eq q3).tr p8 (by decide +kernel)).eq q12).eq q13).eq q14).eq q15).tr p17 (by decide +kernel))⟩
def md_X12_readSaid_173q : List (Nat × (Nat × Nat)) := [(173, (5, 5)), (173, (6, 6)), (173, (7, 7)), (173, (8, 8)), (173, (9, 9)), (173, (10, 10)), (173, (11, 11)), (173, (13, 13)), (173, (49, 49)), (173, (50, 50)), (173, (51, 51)), (173, (52, 52)), (197, (0, 239))]
def ST_X12_readSaid_173q (n : Nat) : Prop := ∀ (X : Int) (hX : 0 ≤ X ∧ X ≤ 100000000) (M0 : JM) (hH0 : HI X M0) (hp0 : M0.1 173 49 ≤ 2 * M0.1 173 50) (hp1 : TRN M0 (M0.1 173 49)) (hr : 20 - M0.1 173 50 < (n : Int)), JOk shp PJ (4 * n + 7) 171 [.inr (.inr (.inl 173))] M0 (jRi (fun v M' => HI X M' ∧ Fr md_X12_readSaid_173q M0 M' ∧ 0 ≤ v ∧ v ≤ 1 ∧ (M'.1 173 51 = M0.1 173 51) ∧ (v = 0 ∨ M'.1 173 49 - M0.1 173 49 ≤ 2 * (M'.1 173 50 - M0.1 173 50) - 1) ∧ (v = 0 ∨ M0.1 173 50 < M'.1 173 50) ∧ (v = 0 ∨ (0 ≤ M'.1 173 52 ∧ M'.1 173 52 < M'.1 173 49)) ∧ (v = 0 ∨ TRN M' (M'.1 173 49)) ∧ (v = 0 ∨ M0.1 173 49 ≤ M'.1 173 49) ∧ (∀ (t : TXT) (σ : PSt), CR M0 t σ → OneR QP t 0 (M0.1 173 51 + 1) (σ, M0.1 173 50) v M') ∧ (LFr ml_X12_go_173p M0 M')))
def md_X12_readAnd_173q : List (Nat × (Nat × Nat)) := [(173, (5, 5)), (173, (6, 6)), (173, (7, 7)), (173, (8, 8)), (173, (9, 9)), (173, (10, 10)), (173, (11, 11)), (173, (13, 13)), (173, (49, 49)), (173, (50, 50)), (173, (51, 51)), (173, (52, 52)), (197, (0, 239))]
theorem ct_X12_readAnd_173q (n : Nat) (hy : ST_X12_readSaid_173q n) (X : Int) (hX : 0 ≤ X ∧ X ≤ 100000000) (M0 : JM) (hH0 : HI X M0) (hp0 : M0.1 173 49 ≤ 2 * M0.1 173 50) (hp1 : TRN M0 (M0.1 173 49)) (hr : 20 - M0.1 173 50 < (n : Int)) : JOk shp PJ (4 * n + 7 + 1) 152 [.inr (.inr (.inl 173))] M0 (jRi (fun v M' => HI X M' ∧ Fr md_X12_readAnd_173q M0 M' ∧ 0 ≤ v ∧ v ≤ 1 ∧ (M'.1 173 51 = M0.1 173 51) ∧ (v = 0 ∨ M'.1 173 49 - M0.1 173 49 ≤ 2 * (M'.1 173 50 - M0.1 173 50) - 1) ∧ (v = 0 ∨ M0.1 173 50 < M'.1 173 50) ∧ (v = 0 ∨ (0 ≤ M'.1 173 52 ∧ M'.1 173 52 < M'.1 173 49)) ∧ (v = 0 ∨ TRN M' (M'.1 173 49)) ∧ (v = 0 ∨ M0.1 173 49 ≤ M'.1 173 49) ∧ (∀ (t : TXT) (σ : PSt), CR M0 t σ → OneR QO t 0 (M0.1 173 51 + 1) (σ, M0.1 173 50) v M') ∧ (LFr ml_X12_go_173p M0 M'))) := by
 refine ⟨jr_X12_readAnd, pj_X12_readAnd, fun F c1 c2 c3 => ?_⟩
 have hm := pj_X12_readAnd
 change F 0 [some (.inr (.inr (.inl 173))), none] [] M0
 have hF0 : Fr md_X12_readAnd_173q M0 M0 := Fr.rf _ _
 obtain ⟨z1, k2, lz1, uz1⟩ := hH0.ld (c := 173) (i := 49) (A := 0) (B := 60) (bs_28_23 _ _ (by omega) (by omega))
 obtain ⟨z3, k4, lz3, uz3⟩ := hH0.ld (c := 173) (i := 50) (A := 0) (B := 20) (bs_28_24 _ _ (by omega) (by omega))
 obtain ⟨z5, k6, lz5, uz5⟩ := hH0.ld (c := 173) (i := 51) (A := 0) (B := 8) (bs_28_25 _ _ (by omega) (by omega))
 refine jx_load c1 hm rfl rfl rfl rfl ?_
 refine jv_i c3 hm rfl pj_X12_readSaid rfl rfl ⟨_, _, _, rfl, sh_173⟩ rfl ((hy X (by omega) M0 hH0 (by omega) (TRN.cg hp1 (fun j => rfl) (by omega)) (by omega)).le (by omega)) (fun z7 M16 ⟨hH16, hR16, lz7, uz7, p8, p9, p10, p11, p12, p13, p14, p15⟩ => ?_)
 have hF16 := hF0.tr hR16 (by decide +kernel)
 obtain ⟨z17, k18, lz17, uz17⟩ := hH16.ld (c := 173) (i := 51) (A := 0) (B := 8) (bs_28_25 _ _ (by omega) (by omega))
 obtain ⟨z19, k20, lz19, uz19⟩ := hH16.ld (c := 173) (i := 49) (A := 0) (B := 60) (bs_28_23 _ _ (by omega) (by omega))
 obtain ⟨z21, k22, lz21, uz21⟩ := hH16.ld (c := 173) (i := 50) (A := 0) (B := 20) (bs_28_24 _ _ (by omega) (by omega))
 obtain ⟨z23, k24, lz23, uz23⟩ := hH16.ld (c := 173) (i := 52) (A := (-2147483648)) (B := 2147483647) (bs_28_26 _ _ (by omega))
 skip
 refine jz_ne c1 hm 9 rfl rfl (fun h25 => ?_) (fun h25 => ?_)
 ·
  refine jx_load c1 hm rfl rfl rfl rfl ?_
  refine jx_geti c1 hm rfl sh_173 rfl k24 ?_
  refine jx_stor c1 hm (L' := [some (.inr (.inr (.inl 173))), some (.inl z23)]) rfl rfl rfl rfl rfl ?_
  have W43 : ∀ (n44 : Nat) (b26 : Int) (hb26 : 0 ≤ b26 ∧ b26 ≤ 59) (M27 : JM) (hH27 : HI (X) M27) (hF27 : Fr md_X12_readAnd_173q M0 M27) (b28 : Int) (hb28 : 1 ≤ b28 ∧ b28 ≤ 60) (k29 : M27.1 173 49 = b28) (b30 : Int) (hb30 : 1 ≤ b30 ∧ b30 ≤ 20) (k31 : M27.1 173 50 = b30) (b32 : Int) (hb32 : 0 ≤ b32 ∧ b32 ≤ 8) (k33 : M27.1 173 51 = b32) (b34 : Int) (hb34 : 0 ≤ b34 ∧ b34 ≤ 59) (k35 : M27.1 173 52 = b34) (h36 : M27.1 173 51 = M0.1 173 51 ∧ M0.1 173 49 ≤ M27.1 173 49) (h37 : M27.1 173 49 - M0.1 173 49 ≤ 2 * (M27.1 173 50 - M0.1 173 50) - 1) (h38 : M0.1 173 50 < M27.1 173 50 ∧ M27.1 173 50 ≤ 20) (h39 : 0 ≤ b26 ∧ b26 < M27.1 173 49) (ht : TRN M27 (M27.1 173 49)) (hco : ∀ (t : TXT) (σ : PSt), CR M0 t σ → RowR t 1 0 (M0.1 173 51 + 1) (σ, M0.1 173 50) M27) (hg : LFr ml_X12_go_173p M0 M27), 20 - M27.1 173 50 < (n44 : Int) → F 14 [some (.inr (.inr (.inl 173))), some (.inl b26)] [] M27 := by
   intro n44
   induction n44 with
   | zero => intros; omega
   | succ n44 ihW43 =>
    intro b26 hb26 M27 hH27 hF27 b28 hb28 k29 b30 hb30 k31 b32 hb32 k33 b34 hb34 k35 h36 h37 h38 h39 ht hco hg hrW43
    refine jx_load c1 hm rfl rfl rfl rfl ?_
    skip
    refine jy_bp c1 hm rfl (by decide) ?_
    refine jv_i c3 hm rfl pj_X12_isWord rfl rfl ⟨_, _, _, rfl, sh_173⟩ rfl ((ct_X12_isWord_173p X (by omega) M27 hH27 14 ⟨by omega, by omega⟩).le (by omega)) (fun z45 _ ⟨rfl, lz45, uz45, p46, p47⟩ => ?_)
    refine jz_eq c1 hm 51 rfl rfl (fun h48 => ?_) (fun h48 => ?_)
    ·
     refine jx_load c1 hm rfl rfl rfl rfl ?_
     refine jx_load c1 hm rfl rfl rfl rfl ?_
     obtain ⟨M49, e49, hH49, hF49, k49, n49, q49⟩ := mup hH27 hF27 (c := 173) (i := 52) (v := b26) (A := (-2147483648)) (B := 2147483647) (bs_28_26 _ _ (by omega)) ⟨by omega, by omega⟩ (jin_of 11 rfl ⟨by omega, by omega⟩)
     refine jm_puti c1 hm rfl sh_173 rfl e49 ?_
     refine jy_ic c1 hm rfl (by decide) ?_
     have k50 : M49.1 173 49 = b28 := (n49 173 49 (by decide)).trans k29
     have k51 : M49.1 173 50 = b30 := (n49 173 50 (by decide)).trans k31
     have k52 : M49.1 173 51 = b32 := (n49 173 51 (by decide)).trans k33
     exact jx_retz c2 hm rfl rfl ⟨by omega, by omega⟩ ⟨_, rfl, hH49, hF49, by omega, by omega, (by omega), (by omega), (by omega), (by omega), (Or.inr (TRN.cg ht (fun j => (n49 197 j (fun h => absurd h.1 (by decide)))) (by omega))), (by omega), (fun t σ hσ => RowR.fin0 (hco t σ hσ) (p47.resolve_left (by omega)) (fun σ hσ => (CR.cg hσ (fun j => (n49 174 j (fun h => absurd h.1 (by decide)))) (fun j hj => (n49 173 j (fun e => absurd e.2 (by omega)))) ((q49 173 12)) ((n49 173 10 (by decide))) (fun j => (n49 175 j (fun h => absurd h.1 (by decide)))) (fun k => (q49 180 k)))) ((n49 173 50 (by decide))) rfl), (hg.eq q49)⟩
    refine jx_load c1 hm rfl rfl rfl rfl ?_
    obtain ⟨z53, k54, lz53, uz53⟩ := hH27.ld (c := 173) (i := 5) (A := 0) (B := 940) (bs_28_3 _ _ (by omega) (by omega))
    refine jv_v c3 hm rfl pj_X12_go rfl rfl ⟨_, _, _, rfl, sh_173⟩ rfl ((ct_X12_go_173p X (by omega) M27 hH27 ).le (by omega)) (fun M57 ⟨hH57, hR57, p55, p56⟩ => ?_)
    have hF57 := hF27.tr hR57 (by decide +kernel)
    refine jx_load c1 hm rfl rfl rfl rfl ?_
    have k58 : M57.1 173 49 = b28 := (hR57 173 49 (by decide +kernel)).trans k29
    have k59 : M57.1 173 50 = b30 := (hR57 173 50 (by decide +kernel)).trans k31
    have k60 : M57.1 173 51 = b32 := (hR57 173 51 (by decide +kernel)).trans k33
    refine jv_i c3 hm rfl pj_X12_readSaid rfl rfl ⟨_, _, _, rfl, sh_173⟩ rfl ((hy X (by omega) M57 hH57 (by omega) (TRN.cg ht (fun j => (hR57 197 j rfl)) (by omega)) (by omega)).le (by omega)) (fun z61 M70 ⟨hH70, hR70, lz61, uz61, p62, p63, p64, p65, p66, p67, p68, p69⟩ => ?_)
    have hF70 := hF57.tr hR70 (by decide +kernel)
    obtain ⟨z71, k72, lz71, uz71⟩ := hH70.ld (c := 173) (i := 51) (A := 0) (B := 8) (bs_28_25 _ _ (by omega) (by omega))
    obtain ⟨z73, k74, lz73, uz73⟩ := hH70.ld (c := 173) (i := 49) (A := 0) (B := 60) (bs_28_23 _ _ (by omega) (by omega))
    obtain ⟨z75, k76, lz75, uz75⟩ := hH70.ld (c := 173) (i := 50) (A := 0) (B := 20) (bs_28_24 _ _ (by omega) (by omega))
    obtain ⟨z77, k78, lz77, uz77⟩ := hH70.ld (c := 173) (i := 52) (A := (-2147483648)) (B := 2147483647) (bs_28_26 _ _ (by omega))
    skip
    refine jz_ne c1 hm 36 rfl rfl (fun h79 => ?_) (fun h79 => ?_)
    ·
     refine jx_load c1 hm rfl rfl rfl rfl ?_
     refine jy_ic c1 hm rfl (by decide) ?_
     refine jx_load c1 hm rfl rfl rfl rfl ?_
     refine jx_load c1 hm rfl rfl rfl rfl ?_
     refine jx_geti c1 hm rfl sh_173 rfl k78 ?_
     refine jy_ic c1 hm rfl (by decide) ?_
     refine jv_i c3 hm rfl pj_X12_saysOne rfl rfl ⟨_, _, _, rfl, sh_173⟩ rfl ((ct_X12_saysOne_173q X (by omega) M70 hH70 2 ⟨by omega, by omega⟩ b26 ⟨by omega, by omega⟩ z77 ⟨by omega, by omega⟩ 0 ⟨by omega, by omega⟩ (by omega) (TRN.cg (p66.resolve_left (by omega)) (fun j => rfl) (by omega)) ⟨by omega, fun _ => ⟨by omega, by omega, by omega, by omega⟩, by omega⟩).le (by omega)) (fun z80 M85 ⟨hH85, hR85, lz80, uz80, p81, p82, p83, p84⟩ => ?_)
     have hF85 := hF70.tr hR85 (by decide +kernel)
     obtain ⟨z86, k87, lz86, uz86⟩ := hH85.ld (c := 173) (i := 49) (A := 0) (B := 60) (bs_28_23 _ _ (by omega) (by omega))
     skip
     refine jx_stor c1 hm (L' := [some (.inr (.inr (.inl 173))), some (.inl z80)]) rfl rfl rfl rfl rfl ?_
     refine jx_goto c1 hm 14 rfl rfl ?_
     have k88 : M85.1 173 50 = z75 := (hR85 173 50 (by decide +kernel)).trans k76
     have k89 : M85.1 173 51 = z71 := (hR85 173 51 (by decide +kernel)).trans k72
     have k90 : M85.1 173 52 = z77 := (hR85 173 52 (by decide +kernel)).trans k78
     exact ihW43 z80 (by omega) M85 hH85 hF85 z86 (by omega) k87 z75 (by omega) k88 z71 (by omega) k89 z77 (by omega) k90 (by omega) (by omega) (by omega) (by omega) (TRN.cg p83 (fun j => rfl) (by omega)) (fun t σ hσ => (RowR.go0 (hco t σ hσ) (p46 (by omega)) (fun σ hσ hk => (CR.next hσ hk p55 (hR57 173 10 rfl) (fun j => hR57 175 j rfl) (fun k => p56 180 k rfl))) ((hR57 173 50 rfl)) (by omega) (p68 t) (by omega)).cg (fun σ hσ => (CR.cg hσ (fun j => (hR85 174 j rfl)) (fun j hj => (hR85 173 j (jin_lo (b := 10) (by decide +kernel) (by omega)))) ((p84 173 12 rfl)) ((hR85 173 10 rfl)) (fun j => (hR85 175 j rfl)) (fun k => (p84 180 k rfl)))) ((hR85 173 50 rfl))) (((hg.tr p56 (by decide +kernel)).tr p69 (by decide +kernel)).tr p84 (by decide +kernel)) (by omega)
    refine jy_ic c1 hm rfl (by decide) ?_
    exact jx_retz c2 hm rfl rfl ⟨by omega, by omega⟩ ⟨_, rfl, hH70, hF70, by omega, by omega, (by omega), (by omega), (by omega), (by omega), (Or.inl rfl), (by omega), (fun t σ hσ => RowR.bad0 (hco t σ hσ) (p46 (by omega)) (fun σ hσ hk => (CR.next hσ hk p55 (hR57 173 10 rfl) (fun j => hR57 175 j rfl) (fun k => p56 180 k rfl))) ((hR57 173 50 rfl)) (by omega) (p68 t) (by omega) (by omega)), ((hg.tr p56 (by decide +kernel)).tr p69 (by decide +kernel))⟩
  exact W43 (20 - M16.1 173 50 + 1 : Int).toNat z23 (by omega) M16 hH16 hF16 z19 (by omega) k20 z21 (by omega) k22 z17 (by omega) k18 z23 (by omega) k24 (by omega) (by omega) (by omega) (by omega) (TRN.cg (p12.resolve_left (by omega)) (fun j => rfl) (by omega)) (fun t σ hσ => RowR.start0 (p14 t σ hσ) (by omega)) ((LFr.rf _ _).tr p15 (by decide +kernel)) (by omega)
 refine jy_ic c1 hm rfl (by decide) ?_
 exact jx_retz c2 hm rfl rfl ⟨by omega, by omega⟩ ⟨_, rfl, hH16, hF16, by omega, by omega, (by omega), (by omega), (by omega), (by omega), (Or.inl rfl), (by omega), (fun t σ hσ => RowR.no0 (p14 t σ hσ) (by omega) (by omega)), ((LFr.rf _ _).tr p15 (by decide +kernel))⟩
def md_X12_readOr_173q : List (Nat × (Nat × Nat)) := [(173, (5, 5)), (173, (6, 6)), (173, (7, 7)), (173, (8, 8)), (173, (9, 9)), (173, (10, 10)), (173, (11, 11)), (173, (13, 13)), (173, (49, 49)), (173, (50, 50)), (173, (51, 51)), (173, (52, 52)), (197, (0, 239))]
theorem ct_X12_readOr_173q (n : Nat) (hy : ST_X12_readSaid_173q n) (X : Int) (hX : 0 ≤ X ∧ X ≤ 100000000) (M0 : JM) (hH0 : HI X M0) (hp0 : M0.1 173 49 ≤ 2 * M0.1 173 50) (hp1 : TRN M0 (M0.1 173 49)) (hr : 20 - M0.1 173 50 < (n : Int)) : JOk shp PJ (4 * n + 7 + 2) 169 [.inr (.inr (.inl 173))] M0 (jRi (fun v M' => HI X M' ∧ Fr md_X12_readOr_173q M0 M' ∧ 0 ≤ v ∧ v ≤ 1 ∧ (M'.1 173 51 = M0.1 173 51) ∧ (v = 0 ∨ M'.1 173 49 - M0.1 173 49 ≤ 2 * (M'.1 173 50 - M0.1 173 50) - 1) ∧ (v = 0 ∨ M0.1 173 50 < M'.1 173 50) ∧ (v = 0 ∨ (0 ≤ M'.1 173 52 ∧ M'.1 173 52 < M'.1 173 49)) ∧ (v = 0 ∨ TRN M' (M'.1 173 49)) ∧ (v = 0 ∨ M0.1 173 49 ≤ M'.1 173 49) ∧ (∀ (t : TXT) (σ : PSt), CR M0 t σ → OneR QO t 2 (M0.1 173 51 + 1) (σ, M0.1 173 50) v M') ∧ (LFr ml_X12_go_173p M0 M'))) := by
 refine ⟨jr_X12_readOr, pj_X12_readOr, fun F c1 c2 c3 => ?_⟩
 have hm := pj_X12_readOr
 change F 0 [some (.inr (.inr (.inl 173))), none] [] M0
 have hF0 : Fr md_X12_readOr_173q M0 M0 := Fr.rf _ _
 obtain ⟨z1, k2, lz1, uz1⟩ := hH0.ld (c := 173) (i := 49) (A := 0) (B := 60) (bs_28_23 _ _ (by omega) (by omega))
 obtain ⟨z3, k4, lz3, uz3⟩ := hH0.ld (c := 173) (i := 50) (A := 0) (B := 20) (bs_28_24 _ _ (by omega) (by omega))
 obtain ⟨z5, k6, lz5, uz5⟩ := hH0.ld (c := 173) (i := 51) (A := 0) (B := 8) (bs_28_25 _ _ (by omega) (by omega))
 refine jx_load c1 hm rfl rfl rfl rfl ?_
 refine jv_i c3 hm rfl pj_X12_readAnd rfl rfl ⟨_, _, _, rfl, sh_173⟩ rfl ((ct_X12_readAnd_173q n hy X (by omega) M0 hH0 (by omega) (TRN.cg hp1 (fun j => rfl) (by omega)) (by omega)).le (by omega)) (fun z7 M16 ⟨hH16, hR16, lz7, uz7, p8, p9, p10, p11, p12, p13, p14, p15⟩ => ?_)
 have hF16 := hF0.tr hR16 (by decide +kernel)
 obtain ⟨z17, k18, lz17, uz17⟩ := hH16.ld (c := 173) (i := 51) (A := 0) (B := 8) (bs_28_25 _ _ (by omega) (by omega))
 obtain ⟨z19, k20, lz19, uz19⟩ := hH16.ld (c := 173) (i := 49) (A := 0) (B := 60) (bs_28_23 _ _ (by omega) (by omega))
 obtain ⟨z21, k22, lz21, uz21⟩ := hH16.ld (c := 173) (i := 50) (A := 0) (B := 20) (bs_28_24 _ _ (by omega) (by omega))
 obtain ⟨z23, k24, lz23, uz23⟩ := hH16.ld (c := 173) (i := 52) (A := (-2147483648)) (B := 2147483647) (bs_28_26 _ _ (by omega))
 skip
 refine jz_ne c1 hm 9 rfl rfl (fun h25 => ?_) (fun h25 => ?_)
 ·
  refine jx_load c1 hm rfl rfl rfl rfl ?_
  refine jx_geti c1 hm rfl sh_173 rfl k24 ?_
  refine jx_stor c1 hm (L' := [some (.inr (.inr (.inl 173))), some (.inl z23)]) rfl rfl rfl rfl rfl ?_
  have W43 : ∀ (n44 : Nat) (b26 : Int) (hb26 : 0 ≤ b26 ∧ b26 ≤ 59) (M27 : JM) (hH27 : HI (X) M27) (hF27 : Fr md_X12_readOr_173q M0 M27) (b28 : Int) (hb28 : 1 ≤ b28 ∧ b28 ≤ 60) (k29 : M27.1 173 49 = b28) (b30 : Int) (hb30 : 1 ≤ b30 ∧ b30 ≤ 20) (k31 : M27.1 173 50 = b30) (b32 : Int) (hb32 : 0 ≤ b32 ∧ b32 ≤ 8) (k33 : M27.1 173 51 = b32) (b34 : Int) (hb34 : 0 ≤ b34 ∧ b34 ≤ 59) (k35 : M27.1 173 52 = b34) (h36 : M27.1 173 51 = M0.1 173 51 ∧ M0.1 173 49 ≤ M27.1 173 49) (h37 : M27.1 173 49 - M0.1 173 49 ≤ 2 * (M27.1 173 50 - M0.1 173 50) - 1) (h38 : M0.1 173 50 < M27.1 173 50 ∧ M27.1 173 50 ≤ 20) (h39 : 0 ≤ b26 ∧ b26 < M27.1 173 49) (ht : TRN M27 (M27.1 173 49)) (hco : ∀ (t : TXT) (σ : PSt), CR M0 t σ → RowR t 3 2 (M0.1 173 51 + 1) (σ, M0.1 173 50) M27) (hg : LFr ml_X12_go_173p M0 M27), 20 - M27.1 173 50 < (n44 : Int) → F 14 [some (.inr (.inr (.inl 173))), some (.inl b26)] [] M27 := by
   intro n44
   induction n44 with
   | zero => intros; omega
   | succ n44 ihW43 =>
    intro b26 hb26 M27 hH27 hF27 b28 hb28 k29 b30 hb30 k31 b32 hb32 k33 b34 hb34 k35 h36 h37 h38 h39 ht hco hg hrW43
    refine jx_load c1 hm rfl rfl rfl rfl ?_
    skip
    refine jy_bp c1 hm rfl (by decide) ?_
    refine jv_i c3 hm rfl pj_X12_isWord rfl rfl ⟨_, _, _, rfl, sh_173⟩ rfl ((ct_X12_isWord_173p X (by omega) M27 hH27 13 ⟨by omega, by omega⟩).le (by omega)) (fun z45 _ ⟨rfl, lz45, uz45, p46, p47⟩ => ?_)
    refine jz_eq c1 hm 51 rfl rfl (fun h48 => ?_) (fun h48 => ?_)
    ·
     refine jx_load c1 hm rfl rfl rfl rfl ?_
     refine jx_load c1 hm rfl rfl rfl rfl ?_
     obtain ⟨M49, e49, hH49, hF49, k49, n49, q49⟩ := mup hH27 hF27 (c := 173) (i := 52) (v := b26) (A := (-2147483648)) (B := 2147483647) (bs_28_26 _ _ (by omega)) ⟨by omega, by omega⟩ (jin_of 11 rfl ⟨by omega, by omega⟩)
     refine jm_puti c1 hm rfl sh_173 rfl e49 ?_
     refine jy_ic c1 hm rfl (by decide) ?_
     have k50 : M49.1 173 49 = b28 := (n49 173 49 (by decide)).trans k29
     have k51 : M49.1 173 50 = b30 := (n49 173 50 (by decide)).trans k31
     have k52 : M49.1 173 51 = b32 := (n49 173 51 (by decide)).trans k33
     exact jx_retz c2 hm rfl rfl ⟨by omega, by omega⟩ ⟨_, rfl, hH49, hF49, by omega, by omega, (by omega), (by omega), (by omega), (by omega), (Or.inr (TRN.cg ht (fun j => (n49 197 j (fun h => absurd h.1 (by decide)))) (by omega))), (by omega), (fun t σ hσ => RowR.fin2 (hco t σ hσ) (p47.resolve_left (by omega)) (fun σ hσ => (CR.cg hσ (fun j => (n49 174 j (fun h => absurd h.1 (by decide)))) (fun j hj => (n49 173 j (fun e => absurd e.2 (by omega)))) ((q49 173 12)) ((n49 173 10 (by decide))) (fun j => (n49 175 j (fun h => absurd h.1 (by decide)))) (fun k => (q49 180 k)))) ((n49 173 50 (by decide))) rfl), (hg.eq q49)⟩
    refine jx_load c1 hm rfl rfl rfl rfl ?_
    obtain ⟨z53, k54, lz53, uz53⟩ := hH27.ld (c := 173) (i := 5) (A := 0) (B := 940) (bs_28_3 _ _ (by omega) (by omega))
    refine jv_v c3 hm rfl pj_X12_go rfl rfl ⟨_, _, _, rfl, sh_173⟩ rfl ((ct_X12_go_173p X (by omega) M27 hH27 ).le (by omega)) (fun M57 ⟨hH57, hR57, p55, p56⟩ => ?_)
    have hF57 := hF27.tr hR57 (by decide +kernel)
    refine jx_load c1 hm rfl rfl rfl rfl ?_
    have k58 : M57.1 173 49 = b28 := (hR57 173 49 (by decide +kernel)).trans k29
    have k59 : M57.1 173 50 = b30 := (hR57 173 50 (by decide +kernel)).trans k31
    have k60 : M57.1 173 51 = b32 := (hR57 173 51 (by decide +kernel)).trans k33
    refine jv_i c3 hm rfl pj_X12_readAnd rfl rfl ⟨_, _, _, rfl, sh_173⟩ rfl ((ct_X12_readAnd_173q n hy X (by omega) M57 hH57 (by omega) (TRN.cg ht (fun j => (hR57 197 j rfl)) (by omega)) (by omega)).le (by omega)) (fun z61 M70 ⟨hH70, hR70, lz61, uz61, p62, p63, p64, p65, p66, p67, p68, p69⟩ => ?_)
    have hF70 := hF57.tr hR70 (by decide +kernel)
    obtain ⟨z71, k72, lz71, uz71⟩ := hH70.ld (c := 173) (i := 51) (A := 0) (B := 8) (bs_28_25 _ _ (by omega) (by omega))
    obtain ⟨z73, k74, lz73, uz73⟩ := hH70.ld (c := 173) (i := 49) (A := 0) (B := 60) (bs_28_23 _ _ (by omega) (by omega))
    obtain ⟨z75, k76, lz75, uz75⟩ := hH70.ld (c := 173) (i := 50) (A := 0) (B := 20) (bs_28_24 _ _ (by omega) (by omega))
    obtain ⟨z77, k78, lz77, uz77⟩ := hH70.ld (c := 173) (i := 52) (A := (-2147483648)) (B := 2147483647) (bs_28_26 _ _ (by omega))
    skip
    refine jz_ne c1 hm 36 rfl rfl (fun h79 => ?_) (fun h79 => ?_)
    ·
     refine jx_load c1 hm rfl rfl rfl rfl ?_
     refine jy_ic c1 hm rfl (by decide) ?_
     refine jx_load c1 hm rfl rfl rfl rfl ?_
     refine jx_load c1 hm rfl rfl rfl rfl ?_
     refine jx_geti c1 hm rfl sh_173 rfl k78 ?_
     refine jy_ic c1 hm rfl (by decide) ?_
     refine jv_i c3 hm rfl pj_X12_saysOne rfl rfl ⟨_, _, _, rfl, sh_173⟩ rfl ((ct_X12_saysOne_173q X (by omega) M70 hH70 3 ⟨by omega, by omega⟩ b26 ⟨by omega, by omega⟩ z77 ⟨by omega, by omega⟩ 0 ⟨by omega, by omega⟩ (by omega) (TRN.cg (p66.resolve_left (by omega)) (fun j => rfl) (by omega)) ⟨by omega, fun _ => ⟨by omega, by omega, by omega, by omega⟩, by omega⟩).le (by omega)) (fun z80 M85 ⟨hH85, hR85, lz80, uz80, p81, p82, p83, p84⟩ => ?_)
     have hF85 := hF70.tr hR85 (by decide +kernel)
     obtain ⟨z86, k87, lz86, uz86⟩ := hH85.ld (c := 173) (i := 49) (A := 0) (B := 60) (bs_28_23 _ _ (by omega) (by omega))
     skip
     refine jx_stor c1 hm (L' := [some (.inr (.inr (.inl 173))), some (.inl z80)]) rfl rfl rfl rfl rfl ?_
     refine jx_goto c1 hm 14 rfl rfl ?_
     have k88 : M85.1 173 50 = z75 := (hR85 173 50 (by decide +kernel)).trans k76
     have k89 : M85.1 173 51 = z71 := (hR85 173 51 (by decide +kernel)).trans k72
     have k90 : M85.1 173 52 = z77 := (hR85 173 52 (by decide +kernel)).trans k78
     exact ihW43 z80 (by omega) M85 hH85 hF85 z86 (by omega) k87 z75 (by omega) k88 z71 (by omega) k89 z77 (by omega) k90 (by omega) (by omega) (by omega) (by omega) (TRN.cg p83 (fun j => rfl) (by omega)) (fun t σ hσ => (RowR.go2 (hco t σ hσ) (p46 (by omega)) (fun σ hσ hk => (CR.next hσ hk p55 (hR57 173 10 rfl) (fun j => hR57 175 j rfl) (fun k => p56 180 k rfl))) ((hR57 173 50 rfl)) (by omega) (p68 t) (by omega)).cg (fun σ hσ => (CR.cg hσ (fun j => (hR85 174 j rfl)) (fun j hj => (hR85 173 j (jin_lo (b := 10) (by decide +kernel) (by omega)))) ((p84 173 12 rfl)) ((hR85 173 10 rfl)) (fun j => (hR85 175 j rfl)) (fun k => (p84 180 k rfl)))) ((hR85 173 50 rfl))) (((hg.tr p56 (by decide +kernel)).tr p69 (by decide +kernel)).tr p84 (by decide +kernel)) (by omega)
    refine jy_ic c1 hm rfl (by decide) ?_
    exact jx_retz c2 hm rfl rfl ⟨by omega, by omega⟩ ⟨_, rfl, hH70, hF70, by omega, by omega, (by omega), (by omega), (by omega), (by omega), (Or.inl rfl), (by omega), (fun t σ hσ => RowR.bad2 (hco t σ hσ) (p46 (by omega)) (fun σ hσ hk => (CR.next hσ hk p55 (hR57 173 10 rfl) (fun j => hR57 175 j rfl) (fun k => p56 180 k rfl))) ((hR57 173 50 rfl)) (by omega) (p68 t) (by omega) (by omega)), ((hg.tr p56 (by decide +kernel)).tr p69 (by decide +kernel))⟩
  exact W43 (20 - M16.1 173 50 + 1 : Int).toNat z23 (by omega) M16 hH16 hF16 z19 (by omega) k20 z21 (by omega) k22 z17 (by omega) k18 z23 (by omega) k24 (by omega) (by omega) (by omega) (by omega) (TRN.cg (p12.resolve_left (by omega)) (fun j => rfl) (by omega)) (fun t σ hσ => RowR.start2 (p14 t σ hσ) (by omega)) ((LFr.rf _ _).tr p15 (by decide +kernel)) (by omega)
 refine jy_ic c1 hm rfl (by decide) ?_
 exact jx_retz c2 hm rfl rfl ⟨by omega, by omega⟩ ⟨_, rfl, hH16, hF16, by omega, by omega, (by omega), (by omega), (by omega), (by omega), (Or.inl rfl), (by omega), (fun t σ hσ => RowR.no2 (p14 t σ hσ) (by omega) (by omega)), ((LFr.rf _ _).tr p15 (by decide +kernel))⟩
def md_X12_readBracket_173q : List (Nat × (Nat × Nat)) := [(173, (5, 5)), (173, (6, 6)), (173, (7, 7)), (173, (8, 8)), (173, (9, 9)), (173, (10, 10)), (173, (11, 11)), (173, (13, 13)), (173, (49, 49)), (173, (50, 50)), (173, (51, 51)), (173, (52, 52)), (197, (0, 239))]
theorem ct_X12_readBracket_173q (n : Nat) (hy : ST_X12_readSaid_173q n) (X : Int) (hX : 0 ≤ X ∧ X ≤ 100000000) (M0 : JM) (hH0 : HI X M0) (hp0 : M0.1 173 49 ≤ 2 * M0.1 173 50) (hp1 : TRN M0 (M0.1 173 49)) (hr : 20 - M0.1 173 50 < (n : Int)) : JOk shp PJ (4 * n + 7 + 3) 154 [.inr (.inr (.inl 173))] M0 (jRi (fun v M' => HI X M' ∧ Fr md_X12_readBracket_173q M0 M' ∧ 0 ≤ v ∧ v ≤ 1 ∧ (M'.1 173 51 = M0.1 173 51) ∧ (v = 0 ∨ M'.1 173 49 - M0.1 173 49 ≤ 2 * (M'.1 173 50 - M0.1 173 50) - 1) ∧ (v = 0 ∨ M0.1 173 50 < M'.1 173 50) ∧ (v = 0 ∨ (0 ≤ M'.1 173 52 ∧ M'.1 173 52 < M'.1 173 49)) ∧ (v = 0 ∨ TRN M' (M'.1 173 49)) ∧ (v = 0 ∨ M0.1 173 49 ≤ M'.1 173 49) ∧ (∀ (t : TXT) (σ : PSt), CR M0 t σ → BrR t (M0.1 173 51 + 1) (σ, M0.1 173 50) v M') ∧ (LFr ml_X12_go_173p M0 M'))) := by
 refine ⟨jr_X12_readBracket, pj_X12_readBracket, fun F c1 c2 c3 => ?_⟩
 have hm := pj_X12_readBracket
 change F 0 [some (.inr (.inr (.inl 173)))] [] M0
 have hF0 : Fr md_X12_readBracket_173q M0 M0 := Fr.rf _ _
 obtain ⟨z1, k2, lz1, uz1⟩ := hH0.ld (c := 173) (i := 49) (A := 0) (B := 60) (bs_28_23 _ _ (by omega) (by omega))
 obtain ⟨z3, k4, lz3, uz3⟩ := hH0.ld (c := 173) (i := 50) (A := 0) (B := 20) (bs_28_24 _ _ (by omega) (by omega))
 obtain ⟨z5, k6, lz5, uz5⟩ := hH0.ld (c := 173) (i := 51) (A := 0) (B := 8) (bs_28_25 _ _ (by omega) (by omega))
 refine jx_load c1 hm rfl rfl rfl rfl ?_
 refine jv_i c3 hm rfl pj_X12_readOr rfl rfl ⟨_, _, _, rfl, sh_173⟩ rfl ((ct_X12_readOr_173q n hy X (by omega) M0 hH0 (by omega) (TRN.cg hp1 (fun j => rfl) (by omega)) (by omega)).le (by omega)) (fun z7 M16 ⟨hH16, hR16, lz7, uz7, p8, p9, p10, p11, p12, p13, p14, p15⟩ => ?_)
 have hF16 := hF0.tr hR16 (by decide +kernel)
 obtain ⟨z17, k18, lz17, uz17⟩ := hH16.ld (c := 173) (i := 51) (A := 0) (B := 8) (bs_28_25 _ _ (by omega) (by omega))
 obtain ⟨z19, k20, lz19, uz19⟩ := hH16.ld (c := 173) (i := 49) (A := 0) (B := 60) (bs_28_23 _ _ (by omega) (by omega))
 obtain ⟨z21, k22, lz21, uz21⟩ := hH16.ld (c := 173) (i := 50) (A := 0) (B := 20) (bs_28_24 _ _ (by omega) (by omega))
 obtain ⟨z23, k24, lz23, uz23⟩ := hH16.ld (c := 173) (i := 52) (A := (-2147483648)) (B := 2147483647) (bs_28_26 _ _ (by omega))
 skip
 refine jz_ne c1 hm 9 rfl rfl (fun h25 => ?_) (fun h25 => ?_)
 ·
  refine jx_load c1 hm rfl rfl rfl rfl ?_
  refine jy_bp c1 hm rfl (by decide) ?_
  obtain ⟨z26, k27, lz26, uz26⟩ := hH16.ld (c := 173) (i := 9) (A := (-2147483648)) (B := 2147483647) (bs_28_5 _ _ (by omega) (by omega))
  obtain ⟨z28, k29, lz28, uz28⟩ := hH16.ld (c := 173) (i := 7) (A := 0) (B := 4) (bs_28_4 _ _ (by omega) (by omega))
  refine jv_i c3 hm rfl pj_X12_isSign rfl rfl ⟨_, _, _, rfl, sh_173⟩ rfl ((ct_X12_isSign_173p X (by omega) M16 hH16 41 ⟨by omega, by omega⟩).le (by omega)) (fun z30 _ ⟨rfl, lz30, uz30, p31, p32⟩ => ?_)
  refine jz_ne c1 hm 24 rfl rfl (fun h33 => ?_) (fun h33 => ?_)
  ·
   refine jx_load c1 hm rfl rfl rfl rfl ?_
   obtain ⟨z34, k35, lz34, uz34⟩ := hH16.ld (c := 173) (i := 5) (A := 0) (B := 940) (bs_28_3 _ _ (by omega) (by omega))
   refine jv_v c3 hm rfl pj_X12_go rfl rfl ⟨_, _, _, rfl, sh_173⟩ rfl ((ct_X12_go_173p X (by omega) M16 hH16 ).le (by omega)) (fun M38 ⟨hH38, hR38, p36, p37⟩ => ?_)
   have hF38 := hF16.tr hR38 (by decide +kernel)
   refine jy_ic c1 hm rfl (by decide) ?_
   have k39 : M38.1 173 49 = z19 := (hR38 173 49 (by decide +kernel)).trans k20
   have k40 : M38.1 173 50 = z21 := (hR38 173 50 (by decide +kernel)).trans k22
   have k41 : M38.1 173 51 = z17 := (hR38 173 51 (by decide +kernel)).trans k18
   have k42 : M38.1 173 52 = z23 := (hR38 173 52 (by decide +kernel)).trans k24
   exact jx_retz c2 hm rfl rfl ⟨by omega, by omega⟩ ⟨_, rfl, hH38, hF38, by omega, by omega, (by omega), (by omega), (by omega), (by omega), (Or.inr (TRN.cg (p12.resolve_left (by omega)) (fun j => (hR38 197 j rfl)) (by omega))), (by omega), (fun t σ hσ => BrR.ok (p14 t σ hσ) (by omega) (by omega) (by omega) rfl p36 (hR38 173 10 rfl) (fun j => hR38 175 j rfl) (fun k => p37 180 k rfl) ((hR38 173 50 rfl))), (((LFr.rf _ _).tr p15 (by decide +kernel)).tr p37 (by decide +kernel))⟩
  refine jx_load c1 hm rfl rfl rfl rfl ?_
  refine jy_ic c1 hm rfl (by decide) ?_
  obtain ⟨z43, k44, lz43, uz43⟩ := hH16.ld (c := 173) (i := 6) (A := 0) (B := 940) (bs_28_3 _ _ (by omega) (by omega))
  refine jv_i c3 hm rfl pj_X12_bad rfl rfl ⟨_, _, _, rfl, sh_173⟩ rfl ((ct_X12_bad_173q X (by omega) M16 hH16 1 ⟨by omega, by omega⟩).le (by omega)) (fun z45 M51 ⟨hH51, hR51, lz45, uz45, p46, p47, p48, p49, p50⟩ => ?_)
  have hF51 := hF16.tr hR51 (by decide +kernel)
  obtain ⟨z52, k53, lz52, uz52⟩ := hH51.ld (c := 173) (i := 11) (A := 0) (B := 940) (bs_28_6 _ _ (by omega) (by omega))
  obtain ⟨z54, k55, lz54, uz54⟩ := hH51.ld (c := 173) (i := 10) (A := (-2147483648)) (B := 2147483647) (bs_28_5 _ _ (by omega) (by omega))
  have k56 : M51.1 173 49 = z19 := (hR51 173 49 (by decide +kernel)).trans k20
  have k57 : M51.1 173 50 = z21 := (hR51 173 50 (by decide +kernel)).trans k22
  have k58 : M51.1 173 51 = z17 := (hR51 173 51 (by decide +kernel)).trans k18
  have k59 : M51.1 173 52 = z23 := (hR51 173 52 (by decide +kernel)).trans k24
  exact jx_retz c2 hm rfl rfl ⟨by omega, by omega⟩ ⟨_, rfl, hH51, hF51, by omega, by omega, (by omega), (by omega), (by omega), (by omega), (Or.inl (by omega)), (by omega), (fun t σ hσ => BrR.bad (p14 t σ hσ) (by omega) (by omega) (by omega) (by omega) (by omega)), (((LFr.rf _ _).tr p15 (by decide +kernel)).tr p50 (by decide +kernel))⟩
 refine jy_ic c1 hm rfl (by decide) ?_
 exact jx_retz c2 hm rfl rfl ⟨by omega, by omega⟩ ⟨_, rfl, hH16, hF16, by omega, by omega, (by omega), (by omega), (by omega), (by omega), (Or.inl rfl), (by omega), (fun t σ hσ => BrR.no (p14 t σ hσ) (by omega) (by omega)), ((LFr.rf _ _).tr p15 (by decide +kernel))⟩
def md_X12_readNot_173q : List (Nat × (Nat × Nat)) := [(173, (5, 5)), (173, (6, 6)), (173, (7, 7)), (173, (8, 8)), (173, (9, 9)), (173, (10, 10)), (173, (11, 11)), (173, (13, 13)), (173, (49, 49)), (173, (50, 50)), (173, (51, 51)), (173, (52, 52)), (197, (0, 239))]
theorem ct_X12_readNot_173q (n : Nat) (hy : ST_X12_readSaid_173q n) (X : Int) (hX : 0 ≤ X ∧ X ≤ 100000000) (M0 : JM) (hH0 : HI X M0) (hp0 : M0.1 173 49 ≤ 2 * M0.1 173 50) (hp1 : TRN M0 (M0.1 173 49)) (hr : 20 - M0.1 173 50 < (n : Int)) : JOk shp PJ (4 * n + 7 + 1) 166 [.inr (.inr (.inl 173))] M0 (jRi (fun v M' => HI X M' ∧ Fr md_X12_readNot_173q M0 M' ∧ 0 ≤ v ∧ v ≤ 1 ∧ (M'.1 173 51 = M0.1 173 51) ∧ (v = 0 ∨ M'.1 173 49 - M0.1 173 49 ≤ 2 * (M'.1 173 50 - M0.1 173 50)) ∧ (v = 0 ∨ M0.1 173 50 < M'.1 173 50) ∧ (v = 0 ∨ (0 ≤ M'.1 173 52 ∧ M'.1 173 52 < M'.1 173 49)) ∧ (v = 0 ∨ TRN M' (M'.1 173 49)) ∧ (v = 0 ∨ M0.1 173 49 ≤ M'.1 173 49) ∧ (∀ (t : TXT) (σ : PSt), CR M0 t σ → OneR QP t 0 (M0.1 173 51 + 1) (σ, M0.1 173 50) v M') ∧ (LFr ml_X12_go_173p M0 M'))) := by
 refine ⟨jr_X12_readNot, pj_X12_readNot, fun F c1 c2 c3 => ?_⟩
 have hm := pj_X12_readNot
 change F 0 [some (.inr (.inr (.inl 173)))] [] M0
 have hF0 : Fr md_X12_readNot_173q M0 M0 := Fr.rf _ _
 obtain ⟨z1, k2, lz1, uz1⟩ := hH0.ld (c := 173) (i := 49) (A := 0) (B := 60) (bs_28_23 _ _ (by omega) (by omega))
 obtain ⟨z3, k4, lz3, uz3⟩ := hH0.ld (c := 173) (i := 50) (A := 0) (B := 20) (bs_28_24 _ _ (by omega) (by omega))
 obtain ⟨z5, k6, lz5, uz5⟩ := hH0.ld (c := 173) (i := 51) (A := 0) (B := 8) (bs_28_25 _ _ (by omega) (by omega))
 refine jx_load c1 hm rfl rfl rfl rfl ?_
 refine jv_i c3 hm rfl pj_X12_readSaid rfl rfl ⟨_, _, _, rfl, sh_173⟩ rfl ((hy X (by omega) M0 hH0 (by omega) (TRN.cg hp1 (fun j => rfl) (by omega)) (by omega)).le (by omega)) (fun z7 M16 ⟨hH16, hR16, lz7, uz7, p8, p9, p10, p11, p12, p13, p14, p15⟩ => ?_)
 have hF16 := hF0.tr hR16 (by decide +kernel)
 obtain ⟨z17, k18, lz17, uz17⟩ := hH16.ld (c := 173) (i := 51) (A := 0) (B := 8) (bs_28_25 _ _ (by omega) (by omega))
 obtain ⟨z19, k20, lz19, uz19⟩ := hH16.ld (c := 173) (i := 49) (A := 0) (B := 60) (bs_28_23 _ _ (by omega) (by omega))
 obtain ⟨z21, k22, lz21, uz21⟩ := hH16.ld (c := 173) (i := 50) (A := 0) (B := 20) (bs_28_24 _ _ (by omega) (by omega))
 obtain ⟨z23, k24, lz23, uz23⟩ := hH16.ld (c := 173) (i := 52) (A := (-2147483648)) (B := 2147483647) (bs_28_26 _ _ (by omega))
 skip
 refine jz_ne c1 hm 9 rfl rfl (fun h25 => ?_) (fun h25 => ?_)
 ·
  refine jx_load c1 hm rfl rfl rfl rfl ?_
  refine jx_load c1 hm rfl rfl rfl rfl ?_
  refine jy_ic c1 hm rfl (by decide) ?_
  refine jx_load c1 hm rfl rfl rfl rfl ?_
  refine jx_geti c1 hm rfl sh_173 rfl k24 ?_
  refine jy_ic c1 hm rfl (by decide) ?_
  refine jy_ic c1 hm rfl (by decide) ?_
  refine jv_i c3 hm rfl pj_X12_saysOne rfl rfl ⟨_, _, _, rfl, sh_173⟩ rfl ((ct_X12_saysOne_173q X (by omega) M16 hH16 1 ⟨by omega, by omega⟩ z23 ⟨by omega, by omega⟩ 0 ⟨by omega, by omega⟩ 0 ⟨by omega, by omega⟩ (by omega) (TRN.cg (p12.resolve_left (by omega)) (fun j => rfl) (by omega)) ⟨by omega, fun _ => ⟨by omega, by omega, by omega, by omega⟩, by omega⟩).le (by omega)) (fun z26 M31 ⟨hH31, hR31, lz26, uz26, p27, p28, p29, p30⟩ => ?_)
  have hF31 := hF16.tr hR31 (by decide +kernel)
  obtain ⟨z32, k33, lz32, uz32⟩ := hH31.ld (c := 173) (i := 49) (A := 0) (B := 60) (bs_28_23 _ _ (by omega) (by omega))
  skip
  obtain ⟨M34, e34, hH34, hF34, k34, n34, q34⟩ := mup hH31 hF31 (c := 173) (i := 52) (v := z26) (A := (-2147483648)) (B := 2147483647) (bs_28_26 _ _ (by omega)) ⟨by omega, by omega⟩ (jin_of 11 rfl ⟨by omega, by omega⟩)
  refine jm_puti c1 hm rfl sh_173 rfl e34 ?_
  refine jy_ic c1 hm rfl (by decide) ?_
  have k35 : M34.1 173 49 = z32 := (n34 173 49 (by decide)).trans k33
  have k36 : M34.1 173 50 = z21 := (n34 173 50 (by decide)).trans ((hR31 173 50 (by decide +kernel)).trans k22)
  have k37 : M34.1 173 51 = z17 := (n34 173 51 (by decide)).trans ((hR31 173 51 (by decide +kernel)).trans k18)
  exact jx_retz c2 hm rfl rfl ⟨by omega, by omega⟩ ⟨_, rfl, hH34, hF34, by omega, by omega, (by omega), (by omega), (by omega), (by omega), (Or.inr (TRN.cg p29 (fun j => (n34 197 j (fun h => absurd h.1 (by decide)))) (by omega))), (by omega), (fun t σ hσ => OneR.ok (p14 t σ hσ) (by omega) rfl (fun σ hσ => (CR.cg hσ (fun j => ((n34 174 j (fun h => absurd h.1 (by decide))).trans (hR31 174 j rfl))) (fun j hj => ((n34 173 j (fun e => absurd e.2 (by omega))).trans (hR31 173 j (jin_lo (b := 10) (by decide +kernel) (by omega))))) (((q34 173 12).trans (p30 173 12 rfl))) (((n34 173 10 (by decide)).trans (hR31 173 10 rfl))) (fun j => ((n34 175 j (fun h => absurd h.1 (by decide))).trans (hR31 175 j rfl))) (fun k => ((q34 180 k).trans (p30 180 k rfl))))) (((n34 173 50 (by decide)).trans (hR31 173 50 rfl)))), ((((LFr.rf _ _).tr p15 (by decide +kernel)).tr p30 (by decide +kernel)).eq q34)⟩
 refine jy_ic c1 hm rfl (by decide) ?_
 exact jx_retz c2 hm rfl rfl ⟨by omega, by omega⟩ ⟨_, rfl, hH16, hF16, by omega, by omega, (by omega), (by omega), (by omega), (by omega), (Or.inl rfl), (by omega), (fun t σ hσ => OneR.vc (p14 t σ hσ) (by omega)), ((LFr.rf _ _).tr p15 (by decide +kernel))⟩
set_option maxHeartbeats 30000000 in
theorem ct_X12_readSaid_173q : ∀ n : Nat, ST_X12_readSaid_173q n := by
 intro n
 induction n with
 | zero =>
  unfold ST_X12_readSaid_173q
  intro X hX M0 hH0 hp0 hp1 hr; obtain ⟨z, k, l, u⟩ := hH0.ld (c := 173) (i := 50) (A := 0) (B := 20) (bs_28_24 _ _ (by omega) (by omega)); omega
 | succ n ih =>
  unfold ST_X12_readSaid_173q
  intro X hX M0 hH0 hp0 hp1 hr
  refine ⟨jr_X12_readSaid, pj_X12_readSaid, fun F c1 c2 c3 => ?_⟩
  have hm := pj_X12_readSaid
  change F 0 [some (.inr (.inr (.inl 173))), none, none, none] [] M0
  have hF0 : Fr md_X12_readSaid_173q M0 M0 := Fr.rf _ _
  obtain ⟨z1, k2, lz1, uz1⟩ := hH0.ld (c := 173) (i := 49) (A := 0) (B := 60) (bs_28_23 _ _ (by omega) (by omega))
  obtain ⟨z3, k4, lz3, uz3⟩ := hH0.ld (c := 173) (i := 50) (A := 0) (B := 20) (bs_28_24 _ _ (by omega) (by omega))
  obtain ⟨z5, k6, lz5, uz5⟩ := hH0.ld (c := 173) (i := 51) (A := 0) (B := 8) (bs_28_25 _ _ (by omega) (by omega))
  obtain ⟨z7, k8, lz7, uz7⟩ := hH0.ld (c := 173) (i := 6) (A := 0) (B := 940) (bs_28_3 _ _ (by omega) (by omega))
  obtain ⟨z9, k10, lz9, uz9⟩ := hH0.ld (c := 173) (i := 7) (A := 0) (B := 4) (bs_28_4 _ _ (by omega) (by omega))
  obtain ⟨z11, k12, lz11, uz11⟩ := hH0.ld (c := 173) (i := 9) (A := (-2147483648)) (B := 2147483647) (bs_28_5 _ _ (by omega) (by omega))
  refine jx_load c1 hm rfl rfl rfl rfl ?_
  refine jy_bp c1 hm rfl (by decide) ?_
  refine jv_i c3 hm rfl pj_X12_isSign rfl rfl ⟨_, _, _, rfl, sh_173⟩ rfl ((ct_X12_isSign_173p X (by omega) M0 hH0 40 ⟨by omega, by omega⟩).le (by omega)) (fun z13 _ ⟨rfl, lz13, uz13, p14, p15⟩ => ?_)
  refine jx_stor c1 hm (L' := [some (.inr (.inr (.inl 173))), some (.inl z13), none, none]) rfl rfl rfl rfl rfl ?_
  refine jy_bp c1 hm rfl (by decide) ?_
  refine jx_stor c1 hm (L' := [some (.inr (.inr (.inl 173))), some (.inl z13), some (.inl 15), none]) rfl rfl rfl rfl rfl ?_
  have W18 : ∀ (n19 : Nat) (b16 : Int) (hb16 : 15 ≤ b16 ∧ b16 ≤ 24) (hnw : NW M0 b16), (-b16 + 24) < (n19 : Int) → F 10 [some (.inr (.inr (.inl 173))), some (.inl z13), some (.inl b16), none] [] M0 := by
   intro n19
   induction n19 with
   | zero => intros; omega
   | succ n19 ihW18 =>
    intro b16 hb16 hnw hrW18
    refine jx_load c1 hm rfl rfl rfl rfl ?_
    refine jy_bp c1 hm rfl (by decide) ?_
    have J26 : ∀ (hwq : WQ M0 b16), F 30 [some (.inr (.inr (.inl 173))), some (.inl z13), some (.inl b16), none] [] M0 := by
     intro hwq
     refine jx_load c1 hm rfl rfl rfl rfl ?_
     refine jz_ne c1 hm 46 rfl rfl (fun h27 => ?_) (fun h27 => ?_)
     ·
      refine jx_load c1 hm rfl rfl rfl rfl ?_
      refine jx_geti c1 hm rfl sh_173 rfl k4 ?_
      refine jy_bp c1 hm rfl (by decide) ?_
      refine jc_eq c1 hm 64 rfl rfl (fun h28 => ?_) (fun h28 => ?_)
      ·
       refine jx_load c1 hm rfl rfl rfl rfl ?_
       refine jy_ic c1 hm rfl (by decide) ?_
       refine jv_i c3 hm rfl pj_X12_bad rfl rfl ⟨_, _, _, rfl, sh_173⟩ rfl ((ct_X12_bad_173q X (by omega) M0 hH0 4 ⟨by omega, by omega⟩).le (by omega)) (fun z29 M35 ⟨hH35, hR35, lz29, uz29, p30, p31, p32, p33, p34⟩ => ?_)
       have hF35 := hF0.tr hR35 (by decide +kernel)
       obtain ⟨z36, k37, lz36, uz36⟩ := hH35.ld (c := 173) (i := 11) (A := 0) (B := 940) (bs_28_6 _ _ (by omega) (by omega))
       obtain ⟨z38, k39, lz38, uz38⟩ := hH35.ld (c := 173) (i := 10) (A := (-2147483648)) (B := 2147483647) (bs_28_5 _ _ (by omega) (by omega))
       have k40 : M35.1 173 49 = z1 := (hR35 173 49 (by decide +kernel)).trans k2
       have k41 : M35.1 173 50 = z3 := (hR35 173 50 (by decide +kernel)).trans k4
       have k42 : M35.1 173 51 = z5 := (hR35 173 51 (by decide +kernel)).trans k6
       obtain ⟨z43, k44, lz43, uz43⟩ := hH35.ld (c := 173) (i := 52) (A := (-2147483648)) (B := 2147483647) (bs_28_26 _ _ (by omega))
       exact jx_retz c2 hm rfl rfl ⟨by omega, by omega⟩ ⟨_, rfl, hH35, hF35, by omega, by omega, (by omega), (by omega), (by omega), (by omega), (Or.inl (by omega)), (by omega), (fun t σ hσ => OneR.no4 hσ hwq (by omega) (by omega) (by omega) (by first | omega | (have y9 := (hwq.wd (by omega)).2.1; omega)) (by omega)), ((LFr.rf _ _).tr p34 (by decide +kernel))⟩
      refine jx_load c1 hm rfl rfl rfl rfl ?_
      refine jx_geti c1 hm rfl sh_173 rfl k6 ?_
      refine jy_bp c1 hm rfl (by decide) ?_
      refine jc_ne c1 hm 70 rfl rfl (fun h45 => ?_) (fun h45 => ?_)
      ·
       refine jx_load c1 hm rfl rfl rfl rfl ?_
       have hlt : M0.1 173 50 < 20 ∧ M0.1 173 51 + 1 ≤ 8 := ⟨by omega, by omega⟩; have hbr := p14 (by omega); clear p14 p15
       refine jx_dup c1 hm rfl rfl ?_
       refine jx_geti c1 hm rfl sh_173 rfl k4 ?_
       refine jy_ic c1 hm rfl (by decide) ?_
       refine jy_add c1 hm (z3 + 1) rfl (by omega) ?_
       obtain ⟨M46, e46, hH46, hF46, k46, n46, q46⟩ := mup hH0 hF0 (c := 173) (i := 50) (v := (z3 + 1)) (A := 0) (B := 20) (bs_28_24 _ _ (by omega) (by omega)) ⟨by omega, by omega⟩ (jin_of 9 rfl ⟨by omega, by omega⟩)
       refine jm_puti c1 hm rfl sh_173 rfl e46 ?_
       refine jx_load c1 hm rfl rfl rfl rfl ?_
       refine jx_dup c1 hm rfl rfl ?_
       have k47 : M46.1 173 51 = z5 := (n46 173 51 (by decide)).trans k6
       refine jx_geti c1 hm rfl sh_173 rfl k47 ?_
       refine jy_ic c1 hm rfl (by decide) ?_
       refine jy_add c1 hm (z5 + 1) rfl (by omega) ?_
       obtain ⟨M48, e48, hH48, hF48, k48, n48, q48⟩ := mup hH46 hF46 (c := 173) (i := 51) (v := (z5 + 1)) (A := 0) (B := 8) (bs_28_25 _ _ (by omega) (by omega)) ⟨by omega, by omega⟩ (jin_of 10 rfl ⟨by omega, by omega⟩)
       refine jm_puti c1 hm rfl sh_173 rfl e48 ?_
       refine jx_load c1 hm rfl rfl rfl rfl ?_
       obtain ⟨z49, k50, lz49, uz49⟩ := hH48.ld (c := 173) (i := 5) (A := 0) (B := 940) (bs_28_3 _ _ (by omega) (by omega))
       refine jv_v c3 hm rfl pj_X12_go rfl rfl ⟨_, _, _, rfl, sh_173⟩ rfl ((ct_X12_go_173p X (by omega) M48 hH48 ).le (by omega)) (fun M53 ⟨hH53, hR53, p51, p52⟩ => ?_)
       have hF53 := hF48.tr hR53 (by decide +kernel)
       have k54 : M53.1 173 50 = (z3 + 1) := (hR53 173 50 (by decide +kernel)).trans ((n48 173 50 (by decide)).trans k46)
       have k55 : M53.1 173 51 = (z5 + 1) := (hR53 173 51 (by decide +kernel)).trans k48
       have hgo : M53.1 173 50 = M0.1 173 50 + 1 ∧ M53.1 173 51 + 1 = M0.1 173 51 + 1 + 1 := ⟨by omega, by omega⟩
       refine jy_ic c1 hm rfl (by decide) ?_
       refine jx_stor c1 hm (L' := [some (.inr (.inr (.inl 173))), some (.inl z13), some (.inl b16), some (.inl 1)]) rfl rfl rfl rfl rfl ?_
       refine jx_load c1 hm rfl rfl rfl rfl ?_
       refine jz_eq c1 hm 108 rfl rfl (fun h56 => ?_) (fun h56 => ?_)
       ·
        exfalso; omega
       refine jx_load c1 hm rfl rfl rfl rfl ?_
       have k57 : M53.1 173 49 = z1 := (hR53 173 49 (by decide +kernel)).trans ((n48 173 49 (by decide)).trans ((n46 173 49 (by decide)).trans k2))
       refine jv_i c3 hm rfl pj_X12_readBracket rfl rfl ⟨_, _, _, rfl, sh_173⟩ rfl ((ct_X12_readBracket_173q n ih X (by omega) M53 hH53 (by omega) (TRN.cg hp1 (fun j => (((hR53 197 j rfl).trans (n48 197 j (fun h => absurd h.1 (by decide)))).trans (n46 197 j (fun h => absurd h.1 (by decide))))) (by omega)) (by omega)).le (by omega)) (fun z58 M67 ⟨hH67, hR67, lz58, uz58, p59, p60, p61, p62, p63, p64, p65, p66⟩ => ?_)
       have hF67 := hF53.tr hR67 (by decide +kernel)
       obtain ⟨z68, k69, lz68, uz68⟩ := hH67.ld (c := 173) (i := 51) (A := 0) (B := 8) (bs_28_25 _ _ (by omega) (by omega))
       obtain ⟨z70, k71, lz70, uz70⟩ := hH67.ld (c := 173) (i := 49) (A := 0) (B := 60) (bs_28_23 _ _ (by omega) (by omega))
       obtain ⟨z72, k73, lz72, uz72⟩ := hH67.ld (c := 173) (i := 50) (A := 0) (B := 20) (bs_28_24 _ _ (by omega) (by omega))
       obtain ⟨z74, k75, lz74, uz74⟩ := hH67.ld (c := 173) (i := 52) (A := (-2147483648)) (B := 2147483647) (bs_28_26 _ _ (by omega))
       skip
       refine jx_stor c1 hm (L' := [some (.inr (.inr (.inl 173))), some (.inl z13), some (.inl b16), some (.inl z58)]) rfl rfl rfl rfl rfl ?_
       refine jx_goto c1 hm 166 rfl rfl ?_
       refine jx_load c1 hm rfl rfl rfl rfl ?_
       refine jx_dup c1 hm rfl rfl ?_
       refine jx_geti c1 hm rfl sh_173 rfl k69 ?_
       refine jy_ic c1 hm rfl (by decide) ?_
       refine jy_sub c1 hm (z68 - 1) rfl (by omega) ?_
       obtain ⟨M76, e76, hH76, hF76, k76, n76, q76⟩ := mup hH67 hF67 (c := 173) (i := 51) (v := (z68 - 1)) (A := 0) (B := 8) (bs_28_25 _ _ (by omega) (by omega)) ⟨by omega, by omega⟩ (jin_of 10 rfl ⟨by omega, by omega⟩)
       refine jm_puti c1 hm rfl sh_173 rfl e76 ?_
       refine jx_load c1 hm rfl rfl rfl rfl ?_
       have k77 : M76.1 173 49 = z70 := (n76 173 49 (by decide)).trans k71
       have k78 : M76.1 173 50 = z72 := (n76 173 50 (by decide)).trans k73
       have k79 : M76.1 173 52 = z74 := (n76 173 52 (by decide)).trans k75
       exact jx_retz c2 hm rfl rfl ⟨by omega, by omega⟩ ⟨_, rfl, hH76, hF76, by omega, by omega, (by omega), (by omega), (by omega), (by omega), (Or.imp id (fun ht => TRN.cg ht (fun j => (n76 197 j (fun h => absurd h.1 (by decide)))) (by omega)) p63), (by omega), (fun t σ hσ => (OneR.br hσ hbr hlt (p65 t _ (CR.next (CR.cg hσ (fun j => ((n48 174 j (fun h => absurd h.1 (by decide))).trans (n46 174 j (fun h => absurd h.1 (by decide))))) (fun j hj => ((n48 173 j (fun e => absurd e.2 (by omega))).trans (n46 173 j (fun e => absurd e.2 (by omega))))) (((q48 173 12).trans (q46 173 12))) (((n48 173 10 (by decide)).trans (n46 173 10 (by decide)))) (fun j => ((n48 175 j (fun h => absurd h.1 (by decide))).trans (n46 175 j (fun h => absurd h.1 (by decide))))) (fun k => ((q48 180 k).trans (q46 180 k)))) (brQ.k2 (n := 0) (hσ.br hbr)) p51 (hR53 173 10 rfl) (fun j => hR53 175 j rfl) (fun k => p52 180 k rfl))) hgo.1 hgo.2).fr (fun σ hσ => (CR.cg hσ (fun j => (n76 174 j (fun h => absurd h.1 (by decide)))) (fun j hj => (n76 173 j (fun e => absurd e.2 (by omega)))) ((q76 173 12)) ((n76 173 10 (by decide))) (fun j => (n76 175 j (fun h => absurd h.1 (by decide)))) (fun k => (q76 180 k)))) ((n76 173 10 (by decide))) ((n76 173 11 (by decide))) ((n76 173 50 (by decide)))), ((((((LFr.rf _ _).eq q46).eq q48).tr p52 (by decide +kernel)).tr p66 (by decide +kernel)).eq q76)⟩
      refine jx_load c1 hm rfl rfl rfl rfl ?_
      refine jy_ic c1 hm rfl (by decide) ?_
      refine jv_i c3 hm rfl pj_X12_bad rfl rfl ⟨_, _, _, rfl, sh_173⟩ rfl ((ct_X12_bad_173q X (by omega) M0 hH0 4 ⟨by omega, by omega⟩).le (by omega)) (fun z80 M86 ⟨hH86, hR86, lz80, uz80, p81, p82, p83, p84, p85⟩ => ?_)
      have hF86 := hF0.tr hR86 (by decide +kernel)
      obtain ⟨z87, k88, lz87, uz87⟩ := hH86.ld (c := 173) (i := 11) (A := 0) (B := 940) (bs_28_6 _ _ (by omega) (by omega))
      obtain ⟨z89, k90, lz89, uz89⟩ := hH86.ld (c := 173) (i := 10) (A := (-2147483648)) (B := 2147483647) (bs_28_5 _ _ (by omega) (by omega))
      have k91 : M86.1 173 49 = z1 := (hR86 173 49 (by decide +kernel)).trans k2
      have k92 : M86.1 173 50 = z3 := (hR86 173 50 (by decide +kernel)).trans k4
      have k93 : M86.1 173 51 = z5 := (hR86 173 51 (by decide +kernel)).trans k6
      obtain ⟨z94, k95, lz94, uz94⟩ := hH86.ld (c := 173) (i := 52) (A := (-2147483648)) (B := 2147483647) (bs_28_26 _ _ (by omega))
      exact jx_retz c2 hm rfl rfl ⟨by omega, by omega⟩ ⟨_, rfl, hH86, hF86, by omega, by omega, (by omega), (by omega), (by omega), (by omega), (Or.inl (by omega)), (by omega), (fun t σ hσ => OneR.no4 hσ hwq (by omega) (by omega) (by omega) (by first | omega | (have y9 := (hwq.wd (by omega)).2.1; omega)) (by omega)), ((LFr.rf _ _).tr p85 (by decide +kernel))⟩
     refine jx_load c1 hm rfl rfl rfl rfl ?_
     refine jy_bp c1 hm rfl (by decide) ?_
     refine jc_le c1 hm 46 rfl rfl (fun h96 => ?_) (fun h96 => ?_)
     ·
      refine jx_load c1 hm rfl rfl rfl rfl ?_
      refine jx_geti c1 hm rfl sh_173 rfl k4 ?_
      refine jy_bp c1 hm rfl (by decide) ?_
      refine jc_eq c1 hm 64 rfl rfl (fun h97 => ?_) (fun h97 => ?_)
      ·
       refine jx_load c1 hm rfl rfl rfl rfl ?_
       refine jy_ic c1 hm rfl (by decide) ?_
       refine jv_i c3 hm rfl pj_X12_bad rfl rfl ⟨_, _, _, rfl, sh_173⟩ rfl ((ct_X12_bad_173q X (by omega) M0 hH0 4 ⟨by omega, by omega⟩).le (by omega)) (fun z98 M104 ⟨hH104, hR104, lz98, uz98, p99, p100, p101, p102, p103⟩ => ?_)
       have hF104 := hF0.tr hR104 (by decide +kernel)
       obtain ⟨z105, k106, lz105, uz105⟩ := hH104.ld (c := 173) (i := 11) (A := 0) (B := 940) (bs_28_6 _ _ (by omega) (by omega))
       obtain ⟨z107, k108, lz107, uz107⟩ := hH104.ld (c := 173) (i := 10) (A := (-2147483648)) (B := 2147483647) (bs_28_5 _ _ (by omega) (by omega))
       have k109 : M104.1 173 49 = z1 := (hR104 173 49 (by decide +kernel)).trans k2
       have k110 : M104.1 173 50 = z3 := (hR104 173 50 (by decide +kernel)).trans k4
       have k111 : M104.1 173 51 = z5 := (hR104 173 51 (by decide +kernel)).trans k6
       obtain ⟨z112, k113, lz112, uz112⟩ := hH104.ld (c := 173) (i := 52) (A := (-2147483648)) (B := 2147483647) (bs_28_26 _ _ (by omega))
       exact jx_retz c2 hm rfl rfl ⟨by omega, by omega⟩ ⟨_, rfl, hH104, hF104, by omega, by omega, (by omega), (by omega), (by omega), (by omega), (Or.inl (by omega)), (by omega), (fun t σ hσ => OneR.no4 hσ hwq (by omega) (by omega) (by omega) (by first | omega | (have y9 := (hwq.wd (by omega)).2.1; omega)) (by omega)), ((LFr.rf _ _).tr p103 (by decide +kernel))⟩
      refine jx_load c1 hm rfl rfl rfl rfl ?_
      refine jx_geti c1 hm rfl sh_173 rfl k6 ?_
      refine jy_bp c1 hm rfl (by decide) ?_
      refine jc_ne c1 hm 70 rfl rfl (fun h114 => ?_) (fun h114 => ?_)
      ·
       refine jx_load c1 hm rfl rfl rfl rfl ?_
       have hlt : M0.1 173 50 < 20 ∧ M0.1 173 51 + 1 ≤ 8 := ⟨by omega, by omega⟩; have hw23 : b16 ≤ 23 := (by omega); have hwr : 0 ≤ b16 ∧ b16 < 24 := (by have y9 := (hwq.wd hw23).1; omega); clear p14 p15
       refine jx_dup c1 hm rfl rfl ?_
       refine jx_geti c1 hm rfl sh_173 rfl k4 ?_
       refine jy_ic c1 hm rfl (by decide) ?_
       refine jy_add c1 hm (z3 + 1) rfl (by omega) ?_
       obtain ⟨M115, e115, hH115, hF115, k115, n115, q115⟩ := mup hH0 hF0 (c := 173) (i := 50) (v := (z3 + 1)) (A := 0) (B := 20) (bs_28_24 _ _ (by omega) (by omega)) ⟨by omega, by omega⟩ (jin_of 9 rfl ⟨by omega, by omega⟩)
       refine jm_puti c1 hm rfl sh_173 rfl e115 ?_
       refine jx_load c1 hm rfl rfl rfl rfl ?_
       refine jx_dup c1 hm rfl rfl ?_
       have k116 : M115.1 173 51 = z5 := (n115 173 51 (by decide)).trans k6
       refine jx_geti c1 hm rfl sh_173 rfl k116 ?_
       refine jy_ic c1 hm rfl (by decide) ?_
       refine jy_add c1 hm (z5 + 1) rfl (by omega) ?_
       obtain ⟨M117, e117, hH117, hF117, k117, n117, q117⟩ := mup hH115 hF115 (c := 173) (i := 51) (v := (z5 + 1)) (A := 0) (B := 8) (bs_28_25 _ _ (by omega) (by omega)) ⟨by omega, by omega⟩ (jin_of 10 rfl ⟨by omega, by omega⟩)
       refine jm_puti c1 hm rfl sh_173 rfl e117 ?_
       refine jx_load c1 hm rfl rfl rfl rfl ?_
       obtain ⟨z118, k119, lz118, uz118⟩ := hH117.ld (c := 173) (i := 5) (A := 0) (B := 940) (bs_28_3 _ _ (by omega) (by omega))
       refine jv_v c3 hm rfl pj_X12_go rfl rfl ⟨_, _, _, rfl, sh_173⟩ rfl ((ct_X12_go_173p X (by omega) M117 hH117 ).le (by omega)) (fun M122 ⟨hH122, hR122, p120, p121⟩ => ?_)
       have hF122 := hF117.tr hR122 (by decide +kernel)
       have k123 : M122.1 173 50 = (z3 + 1) := (hR122 173 50 (by decide +kernel)).trans ((n117 173 50 (by decide)).trans k115)
       have k124 : M122.1 173 51 = (z5 + 1) := (hR122 173 51 (by decide +kernel)).trans k117
       have hgo : M122.1 173 50 = M0.1 173 50 + 1 ∧ M122.1 173 51 + 1 = M0.1 173 51 + 1 + 1 := ⟨by omega, by omega⟩
       refine jy_ic c1 hm rfl (by decide) ?_
       refine jx_stor c1 hm (L' := [some (.inr (.inr (.inl 173))), some (.inl z13), some (.inl b16), some (.inl 1)]) rfl rfl rfl rfl rfl ?_
       refine jx_load c1 hm rfl rfl rfl rfl ?_
       refine jz_eq c1 hm 108 rfl rfl (fun h125 => ?_) (fun h125 => ?_)
       ·
        refine jx_load c1 hm rfl rfl rfl rfl ?_
        refine jy_bp c1 hm rfl (by decide) ?_
        refine jc_ne c1 hm 122 rfl rfl (fun h126 => ?_) (fun h126 => ?_)
        ·
         refine jx_load c1 hm rfl rfl rfl rfl ?_
         refine jy_bp c1 hm rfl (by decide) ?_
         refine jc_ge c1 hm 146 rfl rfl (fun h127 => ?_) (fun h127 => ?_)
         ·
          refine jx_load c1 hm rfl rfl rfl rfl ?_
          refine jy_bp c1 hm rfl (by decide) ?_
          refine jc_ge c1 hm 160 rfl rfl (fun h128 => ?_) (fun h128 => ?_)
          ·
           refine jx_load c1 hm rfl rfl rfl rfl ?_
           have hwk : 16 ≤ b16 ∧ b16 ≤ 23 := ⟨by omega, by omega⟩
           refine jx_load c1 hm rfl rfl rfl rfl ?_
           have k129 : M122.1 173 49 = z1 := (hR122 173 49 (by decide +kernel)).trans ((n117 173 49 (by decide)).trans ((n115 173 49 (by decide)).trans k2))
           refine jv_i c3 hm rfl pj_X12_readCompare rfl rfl ⟨_, _, _, rfl, sh_173⟩ rfl ((ct_X12_readCompare_173q X (by omega) M122 hH122 b16 ⟨by omega, by omega⟩ (by omega) (TRN.cg hp1 (fun j => (((hR122 197 j rfl).trans (n117 197 j (fun h => absurd h.1 (by decide)))).trans (n115 197 j (fun h => absurd h.1 (by decide))))) (by omega))).le (by omega)) (fun z130 M139 ⟨hH139, hR139, lz130, uz130, p131, p132, p133, p134, p135, p136, p137, p138⟩ => ?_)
           have hF139 := hF122.tr hR139 (by decide +kernel)
           have k140 : M139.1 173 51 = (z5 + 1) := (hR139 173 51 (by decide +kernel)).trans k124
           obtain ⟨z141, k142, lz141, uz141⟩ := hH139.ld (c := 173) (i := 49) (A := 0) (B := 60) (bs_28_23 _ _ (by omega) (by omega))
           have k143 : M139.1 173 50 = (z3 + 1) := (hR139 173 50 (by decide +kernel)).trans k123
           obtain ⟨z144, k145, lz144, uz144⟩ := hH139.ld (c := 173) (i := 52) (A := (-2147483648)) (B := 2147483647) (bs_28_26 _ _ (by omega))
           skip
           refine jx_stor c1 hm (L' := [some (.inr (.inr (.inl 173))), some (.inl z13), some (.inl b16), some (.inl z130)]) rfl rfl rfl rfl rfl ?_
           refine jx_load c1 hm rfl rfl rfl rfl ?_
           refine jx_dup c1 hm rfl rfl ?_
           refine jx_geti c1 hm rfl sh_173 rfl k140 ?_
           refine jy_ic c1 hm rfl (by decide) ?_
           refine jy_sub c1 hm z5 rfl (by omega) ?_
           obtain ⟨M146, e146, hH146, hF146, k146, n146, q146⟩ := mup hH139 hF139 (c := 173) (i := 51) (v := z5) (A := 0) (B := 8) (bs_28_25 _ _ (by omega) (by omega)) ⟨by omega, by omega⟩ (jin_of 10 rfl ⟨by omega, by omega⟩)
           refine jm_puti c1 hm rfl sh_173 rfl e146 ?_
           refine jx_load c1 hm rfl rfl rfl rfl ?_
           have k147 : M146.1 173 49 = z141 := (n146 173 49 (by decide)).trans k142
           have k148 : M146.1 173 50 = (z3 + 1) := (n146 173 50 (by decide)).trans k143
           have k149 : M146.1 173 52 = z144 := (n146 173 52 (by decide)).trans k145
           exact jx_retz c2 hm rfl rfl ⟨by omega, by omega⟩ ⟨_, rfl, hH146, hF146, by omega, by omega, (by omega), (by omega), (by omega), (by omega), (Or.imp id (fun ht => TRN.cg ht (fun j => (n146 197 j (fun h => absurd h.1 (by decide)))) (by omega)) p135), (by omega), (fun t σ hσ => (OneR.pl hσ hwq hwk hlt (p137 t _ (M0.1 173 50 + 1) (CR.next (CR.cg hσ (fun j => ((n117 174 j (fun h => absurd h.1 (by decide))).trans (n115 174 j (fun h => absurd h.1 (by decide))))) (fun j hj => ((n117 173 j (fun e => absurd e.2 (by omega))).trans (n115 173 j (fun e => absurd e.2 (by omega))))) (((q117 173 12).trans (q115 173 12))) (((n117 173 10 (by decide)).trans (n115 173 10 (by decide)))) (fun j => ((n117 175 j (fun h => absurd h.1 (by decide))).trans (n115 175 j (fun h => absurd h.1 (by decide))))) (fun k => ((q117 180 k).trans (q115 180 k)))) (hσ.ky (n := 0) (hwq.wd hw23).2 hwr).k2 p120 (hR122 173 10 rfl) (fun j => hR122 175 j rfl) (fun k => p121 180 k rfl))) rfl (p133.trans hgo.1)).fr (fun σ hσ => (CR.cg hσ (fun j => (n146 174 j (fun h => absurd h.1 (by decide)))) (fun j hj => (n146 173 j (fun e => absurd e.2 (by omega)))) ((q146 173 12)) ((n146 173 10 (by decide))) (fun j => (n146 175 j (fun h => absurd h.1 (by decide)))) (fun k => (q146 180 k)))) ((n146 173 10 (by decide))) ((n146 173 11 (by decide))) ((n146 173 50 (by decide)))), ((((((LFr.rf _ _).eq q115).eq q117).tr p121 (by decide +kernel)).tr p138 (by decide +kernel)).eq q146)⟩
          refine jx_load c1 hm rfl rfl rfl rfl ?_
          have hwk : 16 ≤ b16 ∧ b16 ≤ 23 := ⟨by omega, by omega⟩
          refine jx_load c1 hm rfl rfl rfl rfl ?_
          have k150 : M122.1 173 49 = z1 := (hR122 173 49 (by decide +kernel)).trans ((n117 173 49 (by decide)).trans ((n115 173 49 (by decide)).trans k2))
          refine jv_i c3 hm rfl pj_X12_readOf rfl rfl ⟨_, _, _, rfl, sh_173⟩ rfl ((ct_X12_readOf_173q X (by omega) M122 hH122 b16 ⟨by omega, by omega⟩ (by omega) (TRN.cg hp1 (fun j => (((hR122 197 j rfl).trans (n117 197 j (fun h => absurd h.1 (by decide)))).trans (n115 197 j (fun h => absurd h.1 (by decide))))) (by omega))).le (by omega)) (fun z151 M160 ⟨hH160, hR160, lz151, uz151, p152, p153, p154, p155, p156, p157, p158, p159⟩ => ?_)
          have hF160 := hF122.tr hR160 (by decide +kernel)
          have k161 : M160.1 173 51 = (z5 + 1) := (hR160 173 51 (by decide +kernel)).trans k124
          obtain ⟨z162, k163, lz162, uz162⟩ := hH160.ld (c := 173) (i := 49) (A := 0) (B := 60) (bs_28_23 _ _ (by omega) (by omega))
          have k164 : M160.1 173 50 = (z3 + 1) := (hR160 173 50 (by decide +kernel)).trans k123
          obtain ⟨z165, k166, lz165, uz165⟩ := hH160.ld (c := 173) (i := 52) (A := (-2147483648)) (B := 2147483647) (bs_28_26 _ _ (by omega))
          skip
          refine jx_goto c1 hm 165 rfl rfl ?_
          refine jx_stor c1 hm (L' := [some (.inr (.inr (.inl 173))), some (.inl z13), some (.inl b16), some (.inl z151)]) rfl rfl rfl rfl rfl ?_
          refine jx_load c1 hm rfl rfl rfl rfl ?_
          refine jx_dup c1 hm rfl rfl ?_
          refine jx_geti c1 hm rfl sh_173 rfl k161 ?_
          refine jy_ic c1 hm rfl (by decide) ?_
          refine jy_sub c1 hm z5 rfl (by omega) ?_
          obtain ⟨M167, e167, hH167, hF167, k167, n167, q167⟩ := mup hH160 hF160 (c := 173) (i := 51) (v := z5) (A := 0) (B := 8) (bs_28_25 _ _ (by omega) (by omega)) ⟨by omega, by omega⟩ (jin_of 10 rfl ⟨by omega, by omega⟩)
          refine jm_puti c1 hm rfl sh_173 rfl e167 ?_
          refine jx_load c1 hm rfl rfl rfl rfl ?_
          have k168 : M167.1 173 49 = z162 := (n167 173 49 (by decide)).trans k163
          have k169 : M167.1 173 50 = (z3 + 1) := (n167 173 50 (by decide)).trans k164
          have k170 : M167.1 173 52 = z165 := (n167 173 52 (by decide)).trans k166
          exact jx_retz c2 hm rfl rfl ⟨by omega, by omega⟩ ⟨_, rfl, hH167, hF167, by omega, by omega, (by omega), (by omega), (by omega), (by omega), (Or.imp id (fun ht => TRN.cg ht (fun j => (n167 197 j (fun h => absurd h.1 (by decide)))) (by omega)) p156), (by omega), (fun t σ hσ => (OneR.pl hσ hwq hwk hlt (p158 t _ (M0.1 173 50 + 1) (CR.next (CR.cg hσ (fun j => ((n117 174 j (fun h => absurd h.1 (by decide))).trans (n115 174 j (fun h => absurd h.1 (by decide))))) (fun j hj => ((n117 173 j (fun e => absurd e.2 (by omega))).trans (n115 173 j (fun e => absurd e.2 (by omega))))) (((q117 173 12).trans (q115 173 12))) (((n117 173 10 (by decide)).trans (n115 173 10 (by decide)))) (fun j => ((n117 175 j (fun h => absurd h.1 (by decide))).trans (n115 175 j (fun h => absurd h.1 (by decide))))) (fun k => ((q117 180 k).trans (q115 180 k)))) (hσ.ky (n := 0) (hwq.wd hw23).2 hwr).k2 p120 (hR122 173 10 rfl) (fun j => hR122 175 j rfl) (fun k => p121 180 k rfl))) rfl (p154.trans hgo.1)).fr (fun σ hσ => (CR.cg hσ (fun j => (n167 174 j (fun h => absurd h.1 (by decide)))) (fun j hj => (n167 173 j (fun e => absurd e.2 (by omega)))) ((q167 173 12)) ((n167 173 10 (by decide))) (fun j => (n167 175 j (fun h => absurd h.1 (by decide)))) (fun k => (q167 180 k)))) ((n167 173 10 (by decide))) ((n167 173 11 (by decide))) ((n167 173 50 (by decide)))), ((((((LFr.rf _ _).eq q115).eq q117).tr p121 (by decide +kernel)).tr p159 (by decide +kernel)).eq q167)⟩
         refine jx_load c1 hm rfl rfl rfl rfl ?_
         have hwk : 16 ≤ b16 ∧ b16 ≤ 23 := ⟨by omega, by omega⟩
         have hwp : b16 = 16 := by omega
         refine jx_load c1 hm rfl rfl rfl rfl ?_
         refine jy_bp c1 hm rfl (by decide) ?_
         refine jx_load c1 hm rfl rfl rfl rfl ?_
         refine jy_add c1 hm (b16 + 50) rfl (by omega) ?_
         refine jy_ic c1 hm rfl (by decide) ?_
         refine jy_ic c1 hm rfl (by decide) ?_
         refine jy_ic c1 hm rfl (by decide) ?_
         have k171 : M122.1 173 49 = z1 := (hR122 173 49 (by decide +kernel)).trans ((n117 173 49 (by decide)).trans ((n115 173 49 (by decide)).trans k2))
         refine jv_i c3 hm rfl pj_X12_saysOne rfl rfl ⟨_, _, _, rfl, sh_173⟩ rfl ((ct_X12_saysOne_173q X (by omega) M122 hH122 (b16 + 50) ⟨by omega, by omega⟩ 0 ⟨by omega, by omega⟩ 0 ⟨by omega, by omega⟩ 0 ⟨by omega, by omega⟩ (by omega) (TRN.cg hp1 (fun j => (((hR122 197 j rfl).trans (n117 197 j (fun h => absurd h.1 (by decide)))).trans (n115 197 j (fun h => absurd h.1 (by decide))))) (by omega)) ⟨by omega, by omega, by omega⟩).le (by omega)) (fun z172 M177 ⟨hH177, hR177, lz172, uz172, p173, p174, p175, p176⟩ => ?_)
         have hF177 := hF122.tr hR177 (by decide +kernel)
         obtain ⟨z178, k179, lz178, uz178⟩ := hH177.ld (c := 173) (i := 49) (A := 0) (B := 60) (bs_28_23 _ _ (by omega) (by omega))
         skip
         obtain ⟨M180, e180, hH180, hF180, k180, n180, q180⟩ := mup hH177 hF177 (c := 173) (i := 52) (v := z172) (A := (-2147483648)) (B := 2147483647) (bs_28_26 _ _ (by omega)) ⟨by omega, by omega⟩ (jin_of 11 rfl ⟨by omega, by omega⟩)
         refine jm_puti c1 hm rfl sh_173 rfl e180 ?_
         refine jx_goto c1 hm 166 rfl rfl ?_
         refine jx_load c1 hm rfl rfl rfl rfl ?_
         refine jx_dup c1 hm rfl rfl ?_
         have k181 : M180.1 173 51 = (z5 + 1) := (n180 173 51 (by decide)).trans ((hR177 173 51 (by decide +kernel)).trans k124)
         refine jx_geti c1 hm rfl sh_173 rfl k181 ?_
         refine jy_ic c1 hm rfl (by decide) ?_
         refine jy_sub c1 hm z5 rfl (by omega) ?_
         obtain ⟨M182, e182, hH182, hF182, k182, n182, q182⟩ := mup hH180 hF180 (c := 173) (i := 51) (v := z5) (A := 0) (B := 8) (bs_28_25 _ _ (by omega) (by omega)) ⟨by omega, by omega⟩ (jin_of 10 rfl ⟨by omega, by omega⟩)
         refine jm_puti c1 hm rfl sh_173 rfl e182 ?_
         refine jx_load c1 hm rfl rfl rfl rfl ?_
         have k183 : M182.1 173 49 = z178 := (n182 173 49 (by decide)).trans ((n180 173 49 (by decide)).trans k179)
         have k184 : M182.1 173 50 = (z3 + 1) := (n182 173 50 (by decide)).trans ((n180 173 50 (by decide)).trans ((hR177 173 50 (by decide +kernel)).trans k123))
         have k185 : M182.1 173 52 = z172 := (n182 173 52 (by decide)).trans k180
         exact jx_retz c2 hm rfl rfl ⟨by omega, by omega⟩ ⟨_, rfl, hH182, hF182, by omega, by omega, (by omega), (by omega), (by omega), (by omega), (Or.inr (TRN.cg p175 (fun j => ((n182 197 j (fun h => absurd h.1 (by decide))).trans (n180 197 j (fun h => absurd h.1 (by decide))))) (by omega))), (by omega), (fun t σ hσ => OneR.pl hσ hwq hwk hlt (LTr.eq (pl_16 hwp) (LTr.o (r := okQ (goS t σ, M0.1 173 50 + 1)) (CR.cg (CR.next (CR.cg hσ (fun j => ((n117 174 j (fun h => absurd h.1 (by decide))).trans (n115 174 j (fun h => absurd h.1 (by decide))))) (fun j hj => ((n117 173 j (fun e => absurd e.2 (by omega))).trans (n115 173 j (fun e => absurd e.2 (by omega))))) (((q117 173 12).trans (q115 173 12))) (((n117 173 10 (by decide)).trans (n115 173 10 (by decide)))) (fun j => ((n117 175 j (fun h => absurd h.1 (by decide))).trans (n115 175 j (fun h => absurd h.1 (by decide))))) (fun k => ((q117 180 k).trans (q115 180 k)))) (hσ.ky (n := 0) (hwq.wd hw23).2 hwr).k2 p120 (hR122 173 10 rfl) (fun j => hR122 175 j rfl) (fun k => p121 180 k rfl)) (fun j => (((n182 174 j (fun h => absurd h.1 (by decide))).trans (n180 174 j (fun h => absurd h.1 (by decide)))).trans (hR177 174 j rfl))) (fun j hj => (((n182 173 j (fun e => absurd e.2 (by omega))).trans (n180 173 j (fun e => absurd e.2 (by omega)))).trans (hR177 173 j (jin_lo (b := 10) (by decide +kernel) (by omega))))) ((((q182 173 12).trans (q180 173 12)).trans (p176 173 12 rfl))) ((((n182 173 10 (by decide)).trans (n180 173 10 (by decide))).trans (hR177 173 10 rfl))) (fun j => (((n182 175 j (fun h => absurd h.1 (by decide))).trans (n180 175 j (fun h => absurd h.1 (by decide)))).trans (hR177 175 j rfl))) (fun k => (((q182 180 k).trans (q180 180 k)).trans (p176 180 k rfl)))) rfl rfl)) rfl ((((n182 173 50 (by decide)).trans (n180 173 50 (by decide))).trans (hR177 173 50 rfl)).trans hgo.1)), (((((((LFr.rf _ _).eq q115).eq q117).tr p121 (by decide +kernel)).tr p176 (by decide +kernel)).eq q180).eq q182)⟩
        refine jx_load c1 hm rfl rfl rfl rfl ?_
        have hwk : b16 = 15 := by omega
        have k186 : M122.1 173 49 = z1 := (hR122 173 49 (by decide +kernel)).trans ((n117 173 49 (by decide)).trans ((n115 173 49 (by decide)).trans k2))
        refine jv_i c3 hm rfl pj_X12_readNot rfl rfl ⟨_, _, _, rfl, sh_173⟩ rfl ((ct_X12_readNot_173q n ih X (by omega) M122 hH122 (by omega) (TRN.cg hp1 (fun j => (((hR122 197 j rfl).trans (n117 197 j (fun h => absurd h.1 (by decide)))).trans (n115 197 j (fun h => absurd h.1 (by decide))))) (by omega)) (by omega)).le (by omega)) (fun z187 M196 ⟨hH196, hR196, lz187, uz187, p188, p189, p190, p191, p192, p193, p194, p195⟩ => ?_)
        have hF196 := hF122.tr hR196 (by decide +kernel)
        obtain ⟨z197, k198, lz197, uz197⟩ := hH196.ld (c := 173) (i := 51) (A := 0) (B := 8) (bs_28_25 _ _ (by omega) (by omega))
        obtain ⟨z199, k200, lz199, uz199⟩ := hH196.ld (c := 173) (i := 49) (A := 0) (B := 60) (bs_28_23 _ _ (by omega) (by omega))
        obtain ⟨z201, k202, lz201, uz201⟩ := hH196.ld (c := 173) (i := 50) (A := 0) (B := 20) (bs_28_24 _ _ (by omega) (by omega))
        obtain ⟨z203, k204, lz203, uz203⟩ := hH196.ld (c := 173) (i := 52) (A := (-2147483648)) (B := 2147483647) (bs_28_26 _ _ (by omega))
        skip
        refine jx_stor c1 hm (L' := [some (.inr (.inr (.inl 173))), some (.inl z13), some (.inl b16), some (.inl z187)]) rfl rfl rfl rfl rfl ?_
        refine jx_goto c1 hm 166 rfl rfl ?_
        refine jx_load c1 hm rfl rfl rfl rfl ?_
        refine jx_dup c1 hm rfl rfl ?_
        refine jx_geti c1 hm rfl sh_173 rfl k198 ?_
        refine jy_ic c1 hm rfl (by decide) ?_
        refine jy_sub c1 hm (z197 - 1) rfl (by omega) ?_
        obtain ⟨M205, e205, hH205, hF205, k205, n205, q205⟩ := mup hH196 hF196 (c := 173) (i := 51) (v := (z197 - 1)) (A := 0) (B := 8) (bs_28_25 _ _ (by omega) (by omega)) ⟨by omega, by omega⟩ (jin_of 10 rfl ⟨by omega, by omega⟩)
        refine jm_puti c1 hm rfl sh_173 rfl e205 ?_
        refine jx_load c1 hm rfl rfl rfl rfl ?_
        have k206 : M205.1 173 49 = z199 := (n205 173 49 (by decide)).trans k200
        have k207 : M205.1 173 50 = z201 := (n205 173 50 (by decide)).trans k202
        have k208 : M205.1 173 52 = z203 := (n205 173 52 (by decide)).trans k204
        exact jx_retz c2 hm rfl rfl ⟨by omega, by omega⟩ ⟨_, rfl, hH205, hF205, by omega, by omega, (by omega), (by omega), (by omega), (by omega), (Or.imp id (fun ht => TRN.cg ht (fun j => (n205 197 j (fun h => absurd h.1 (by decide)))) (by omega)) p192), (by omega), (fun t σ hσ => (OneR.nt hσ hwq hwk hlt (p194 t _ (CR.next (CR.cg hσ (fun j => ((n117 174 j (fun h => absurd h.1 (by decide))).trans (n115 174 j (fun h => absurd h.1 (by decide))))) (fun j hj => ((n117 173 j (fun e => absurd e.2 (by omega))).trans (n115 173 j (fun e => absurd e.2 (by omega))))) (((q117 173 12).trans (q115 173 12))) (((n117 173 10 (by decide)).trans (n115 173 10 (by decide)))) (fun j => ((n117 175 j (fun h => absurd h.1 (by decide))).trans (n115 175 j (fun h => absurd h.1 (by decide))))) (fun k => ((q117 180 k).trans (q115 180 k)))) (hσ.ky (n := 0) (hwq.wd hw23).2 hwr).k2 p120 (hR122 173 10 rfl) (fun j => hR122 175 j rfl) (fun k => p121 180 k rfl))) hgo.1 hgo.2).fr (fun σ hσ => (CR.cg hσ (fun j => (n205 174 j (fun h => absurd h.1 (by decide)))) (fun j hj => (n205 173 j (fun e => absurd e.2 (by omega)))) ((q205 173 12)) ((n205 173 10 (by decide))) (fun j => (n205 175 j (fun h => absurd h.1 (by decide)))) (fun k => (q205 180 k)))) ((n205 173 10 (by decide))) ((n205 173 11 (by decide))) ((n205 173 50 (by decide)))), ((((((LFr.rf _ _).eq q115).eq q117).tr p121 (by decide +kernel)).tr p195 (by decide +kernel)).eq q205)⟩
       exfalso; omega
      refine jx_load c1 hm rfl rfl rfl rfl ?_
      refine jy_ic c1 hm rfl (by decide) ?_
      refine jv_i c3 hm rfl pj_X12_bad rfl rfl ⟨_, _, _, rfl, sh_173⟩ rfl ((ct_X12_bad_173q X (by omega) M0 hH0 4 ⟨by omega, by omega⟩).le (by omega)) (fun z209 M215 ⟨hH215, hR215, lz209, uz209, p210, p211, p212, p213, p214⟩ => ?_)
      have hF215 := hF0.tr hR215 (by decide +kernel)
      obtain ⟨z216, k217, lz216, uz216⟩ := hH215.ld (c := 173) (i := 11) (A := 0) (B := 940) (bs_28_6 _ _ (by omega) (by omega))
      obtain ⟨z218, k219, lz218, uz218⟩ := hH215.ld (c := 173) (i := 10) (A := (-2147483648)) (B := 2147483647) (bs_28_5 _ _ (by omega) (by omega))
      have k220 : M215.1 173 49 = z1 := (hR215 173 49 (by decide +kernel)).trans k2
      have k221 : M215.1 173 50 = z3 := (hR215 173 50 (by decide +kernel)).trans k4
      have k222 : M215.1 173 51 = z5 := (hR215 173 51 (by decide +kernel)).trans k6
      obtain ⟨z223, k224, lz223, uz223⟩ := hH215.ld (c := 173) (i := 52) (A := (-2147483648)) (B := 2147483647) (bs_28_26 _ _ (by omega))
      exact jx_retz c2 hm rfl rfl ⟨by omega, by omega⟩ ⟨_, rfl, hH215, hF215, by omega, by omega, (by omega), (by omega), (by omega), (by omega), (Or.inl (by omega)), (by omega), (fun t σ hσ => OneR.no4 hσ hwq (by omega) (by omega) (by omega) (by first | omega | (have y9 := (hwq.wd (by omega)).2.1; omega)) (by omega)), ((LFr.rf _ _).tr p214 (by decide +kernel))⟩
     refine jx_load c1 hm rfl rfl rfl rfl ?_
     refine jy_ic c1 hm rfl (by decide) ?_
     refine jv_i c3 hm rfl pj_X12_bad rfl rfl ⟨_, _, _, rfl, sh_173⟩ rfl ((ct_X12_bad_173q X (by omega) M0 hH0 1 ⟨by omega, by omega⟩).le (by omega)) (fun z225 M231 ⟨hH231, hR231, lz225, uz225, p226, p227, p228, p229, p230⟩ => ?_)
     have hF231 := hF0.tr hR231 (by decide +kernel)
     obtain ⟨z232, k233, lz232, uz232⟩ := hH231.ld (c := 173) (i := 11) (A := 0) (B := 940) (bs_28_6 _ _ (by omega) (by omega))
     obtain ⟨z234, k235, lz234, uz234⟩ := hH231.ld (c := 173) (i := 10) (A := (-2147483648)) (B := 2147483647) (bs_28_5 _ _ (by omega) (by omega))
     have k236 : M231.1 173 49 = z1 := (hR231 173 49 (by decide +kernel)).trans k2
     have k237 : M231.1 173 50 = z3 := (hR231 173 50 (by decide +kernel)).trans k4
     have k238 : M231.1 173 51 = z5 := (hR231 173 51 (by decide +kernel)).trans k6
     obtain ⟨z239, k240, lz239, uz239⟩ := hH231.ld (c := 173) (i := 52) (A := (-2147483648)) (B := 2147483647) (bs_28_26 _ _ (by omega))
     exact jx_retz c2 hm rfl rfl ⟨by omega, by omega⟩ ⟨_, rfl, hH231, hF231, by omega, by omega, (by omega), (by omega), (by omega), (by omega), (Or.inl (by omega)), (by omega), (fun t σ hσ => OneR.no1 hσ hwq (by omega) (by omega) (by omega) (by omega) (by omega)), ((LFr.rf _ _).tr p230 (by decide +kernel))⟩
    refine jc_gt c1 hm 30 rfl rfl (fun h20 => ?_) (fun h20 => ?_)
    ·
     exact J26 (WQ.no hnw (by omega))
    refine jx_load c1 hm rfl rfl rfl rfl ?_
    refine jx_load c1 hm rfl rfl rfl rfl ?_
    refine jv_i c3 hm rfl pj_X12_isWord rfl rfl ⟨_, _, _, rfl, sh_173⟩ rfl ((ct_X12_isWord_173p X (by omega) M0 hH0 b16 ⟨by omega, by omega⟩).le (by omega)) (fun z21 _ ⟨rfl, lz21, uz21, p22, p23⟩ => ?_)
    refine jz_ne c1 hm 30 rfl rfl (fun h24 => ?_) (fun h24 => ?_)
    ·
     exact J26 (WQ.yes (p22 (by omega)) ⟨by omega, by omega⟩)
    refine jx_iinc c1 hm (v := (b16 + 1)) (L' := [some (.inr (.inr (.inl 173))), some (.inl z13), some (.inl (b16 + 1)), none]) rfl rfl (by omega) (by omega) rfl ?_
    refine jx_goto c1 hm 10 rfl rfl ?_
    exact ihW18 (b16 + 1) (by omega) (NW.st hnw (p23.resolve_left (by omega)) (by omega)) (by omega)
  exact W18 (9 + 1 : Int).toNat 15 (by omega) (NW.start (by omega)) (by omega)
def md_X12_sentence_173q : List (Nat × (Nat × Nat)) := [(173, (0, 0)), (173, (2, 2)), (173, (3, 3)), (173, (4, 4)), (173, (5, 5)), (173, (6, 6)), (173, (7, 7)), (173, (8, 8)), (173, (9, 9)), (173, (10, 10)), (173, (11, 11)), (173, (13, 13)), (173, (49, 49)), (173, (50, 50)), (173, (51, 51)), (173, (52, 52)), (175, (234, 234)), (175, (235, 235)), (175, (236, 475)), (197, (0, 239))]
theorem ct_X12_sentence_173q (X : Int) (hX : 0 ≤ X ∧ X ≤ 100000000) (M0 : JM) (hH0 : HI X M0) (hp0 : SOK M0) : JOk shp PJ 94 180 [.inr (.inr (.inl 173))] M0 (jRi (fun v M' => HI X M' ∧ Fr md_X12_sentence_173q M0 M' ∧ (-941) ≤ v ∧ v ≤ 20 ∧ (SOK M') ∧ (∀ σ : PSt, HN M0 175 0 180 0 σ → PIn σ → SenC (uR M0) (M0.1 173 2) σ v (M'.1 173 10)) ∧ (M'.1 173 2 = 0) ∧ (LFr ml_X12_go_173p M0 M'))) := by
 refine ⟨jr_X12_sentence, pj_X12_sentence, fun F c1 c2 c3 => ?_⟩
 have hm := pj_X12_sentence
 change F 0 [some (.inr (.inr (.inl 173))), none] [] M0
 have hF0 : Fr md_X12_sentence_173q M0 M0 := Fr.rf _ _
 obtain ⟨z1, k2, lz1, uz1⟩ := hH0.ld (c := 173) (i := 2) (A := 0) (B := 940) (bs_28_1 _ _ (by omega) (by omega))
 refine jx_load c1 hm rfl rfl rfl rfl ?_
 refine jy_sp c1 hm rfl (by decide) ?_
 refine jv_v c3 hm rfl pj_X12_begin rfl rfl ⟨_, _, _, rfl, sh_173⟩ rfl ((ct_X12_begin_173q X (by omega) M0 hH0 200 ⟨by omega, by omega⟩).le (by decide)) (fun M7 ⟨hH7, hR7, p3, p4, p5, p6⟩ => ?_)
 have hF7 := hF0.tr hR7 (by decide +kernel)
 obtain ⟨z8, k9, lz8, uz8⟩ := hH7.ld (c := 173) (i := 2) (A := 0) (B := 940) (bs_28_1 _ _ (by omega) (by omega))
 obtain ⟨z10, k11, lz10, uz10⟩ := hH7.ld (c := 173) (i := 10) (A := (-2147483648)) (B := 2147483647) (bs_28_5 _ _ (by omega) (by omega))
 refine jx_load c1 hm rfl rfl rfl rfl ?_
 refine jy_ic c1 hm rfl (by decide) ?_
 obtain ⟨M12, e12, hH12, hF12, k12, n12, q12⟩ := mup hH7 hF7 (c := 173) (i := 49) (v := 0) (A := 0) (B := 60) (bs_28_23 _ _ (by omega) (by omega)) ⟨by omega, by omega⟩ (jin_of 12 rfl ⟨by omega, by omega⟩)
 refine jm_puti c1 hm rfl sh_173 rfl e12 ?_
 refine jx_load c1 hm rfl rfl rfl rfl ?_
 refine jy_ic c1 hm rfl (by decide) ?_
 obtain ⟨M13, e13, hH13, hF13, k13, n13, q13⟩ := mup hH12 hF12 (c := 173) (i := 50) (v := 0) (A := 0) (B := 20) (bs_28_24 _ _ (by omega) (by omega)) ⟨by omega, by omega⟩ (jin_of 13 rfl ⟨by omega, by omega⟩)
 refine jm_puti c1 hm rfl sh_173 rfl e13 ?_
 refine jx_load c1 hm rfl rfl rfl rfl ?_
 refine jy_ic c1 hm rfl (by decide) ?_
 obtain ⟨M14, e14, hH14, hF14, k14, n14, q14⟩ := mup hH13 hF13 (c := 173) (i := 51) (v := 0) (A := 0) (B := 8) (bs_28_25 _ _ (by omega) (by omega)) ⟨by omega, by omega⟩ (jin_of 14 rfl ⟨by omega, by omega⟩)
 refine jm_puti c1 hm rfl sh_173 rfl e14 ?_
 refine jx_load c1 hm rfl rfl rfl rfl ?_
 have k15 : M14.1 173 49 = 0 := (n14 173 49 (by decide)).trans ((n13 173 49 (by decide)).trans k12)
 have k16 : M14.1 173 50 = 0 := (n14 173 50 (by decide)).trans k13
 refine jv_i c3 hm rfl pj_X12_readOr rfl rfl ⟨_, _, _, rfl, sh_173⟩ rfl ((ct_X12_readOr_173q 21 (ct_X12_readSaid_173q 21) X (by omega) M14 hH14 (by omega) (TRN_0 _ (by omega)) (by omega)).le (by decide)) (fun z17 M26 ⟨hH26, hR26, lz17, uz17, p18, p19, p20, p21, p22, p23, p24, p25⟩ => ?_)
 have hF26 := hF14.tr hR26 (by decide +kernel)
 obtain ⟨z27, k28, lz27, uz27⟩ := hH26.ld (c := 173) (i := 51) (A := 0) (B := 8) (bs_28_25 _ _ (by omega) (by omega))
 obtain ⟨z29, k30, lz29, uz29⟩ := hH26.ld (c := 173) (i := 49) (A := 0) (B := 60) (bs_28_23 _ _ (by omega) (by omega))
 obtain ⟨z31, k32, lz31, uz31⟩ := hH26.ld (c := 173) (i := 50) (A := 0) (B := 20) (bs_28_24 _ _ (by omega) (by omega))
 obtain ⟨z33, k34, lz33, uz33⟩ := hH26.ld (c := 173) (i := 52) (A := (-2147483648)) (B := 2147483647) (bs_28_26 _ _ (by omega))
 skip
 skip
 obtain ⟨z35, k36, lz35, uz35⟩ := hH26.ld (c := 173) (i := 10) (A := (-2147483648)) (B := 2147483647) (bs_28_5 _ _ (by omega) (by omega))
 refine jz_ne c1 hm 36 rfl rfl (fun h37 => ?_) (fun h37 => ?_)
 ·
  refine jx_load c1 hm rfl rfl rfl rfl ?_
  obtain ⟨z38, k39, lz38, uz38⟩ := hH26.ld (c := 173) (i := 7) (A := 0) (B := 4) (bs_28_4 _ _ (by omega) (by omega))
  refine jx_geti c1 hm rfl sh_173 rfl k39 ?_
  refine jz_eq c1 hm 56 rfl rfl (fun h40 => ?_) (fun h40 => ?_)
  ·
   refine jx_load c1 hm rfl rfl rfl rfl ?_
   refine jx_getr c1 hm rfl sh_173 rfl ?_
   refine jy_sp c1 hm rfl (by decide) ?_
   refine jy_ic c1 hm rfl (by decide) ?_
   obtain ⟨M41, e41, hH41, hF41, k41, n41, q41⟩ := mup hH26 hF26 (c := 175) (i := 234) (v := 1) (A := (-2147483648)) (B := 2147483647) (bs_11_11 _ _ (by omega) (by omega)) ⟨by omega, by omega⟩ (jin_of 16 rfl ⟨by omega, by omega⟩)
   refine jm_iast c1 hm rfl sh_175 ⟨by omega, by omega⟩ e41 ?_
   refine jx_load c1 hm rfl rfl rfl rfl ?_
   refine jx_getr c1 hm rfl sh_173 rfl ?_
   refine jy_sp c1 hm rfl (by decide) ?_
   refine jx_load c1 hm rfl rfl rfl rfl ?_
   have k42 : M41.1 173 52 = z33 := (n41 173 52 (fun h => absurd h.1 (by decide))).trans k34
   refine jx_geti c1 hm rfl sh_173 rfl k42 ?_
   obtain ⟨M43, e43, hH43, hF43, k43, n43, q43⟩ := mup hH41 hF41 (c := 175) (i := 235) (v := z33) (A := (-2147483648)) (B := 2147483647) (bs_11_11 _ _ (by omega) (by omega)) ⟨by omega, by omega⟩ (jin_of 17 rfl ⟨by omega, by omega⟩)
   refine jm_iast c1 hm rfl sh_175 ⟨by omega, by omega⟩ e43 ?_
   refine jy_ic c1 hm rfl (by decide) ?_
   refine jx_stor c1 hm (L' := [some (.inr (.inr (.inl 173))), some (.inl 0)]) rfl rfl rfl rfl rfl ?_
   have W66 : ∀ (n67 : Nat) (b44 : Int) (hb44 : 0 ≤ b44 ∧ b44 ≤ 240) (M45 : JM) (hH45 : HI (X) M45) (hF45 : Fr md_X12_sentence_173q M0 M45) (k47 : M45.1 173 2 = z8) (k49 : M45.1 173 7 = z38) (k51 : M45.1 173 10 = z35) (k53 : M45.1 173 49 = z29) (k55 : M45.1 173 50 = z31) (k57 : M45.1 173 51 = z27) (k59 : M45.1 173 52 = z33) (k60 : M45.1 175 235 = z33) (ht : TRN M45 (M45.1 173 49)) (h62 : 0 ≤ M45.1 175 235 ∧ M45.1 175 235 < M45.1 173 49) (h63 : M45.1 173 49 ≤ 60) (hcp : ∀ j : Nat, (j : Int) < b44 → M45.1 175 (j + 236) = M45.1 197 j) (hg : LFr ml_X12_go_173p M0 M45), (-b44 + 240) < (n67 : Int) → F 79 [some (.inr (.inr (.inl 173))), some (.inl b44)] [] M45 := by
    intro n67
    induction n67 with
    | zero => intros; omega
    | succ n67 ihW66 =>
     intro b44 hb44 M45 hH45 hF45 k47 k49 k51 k53 k55 k57 k59 k60 ht h62 h63 hcp hg hrW66
     refine jx_load c1 hm rfl rfl rfl rfl ?_
     skip
     refine jy_sp c1 hm rfl (by decide) ?_
     refine jc_ge c1 hm 108 rfl rfl (fun h68 => ?_) (fun h68 => ?_)
     ·
      refine jx_load c1 hm rfl rfl rfl rfl ?_
      refine jx_geti c1 hm rfl sh_173 rfl k55 ?_
      exact jx_reti c2 hm rfl rfl ⟨_, rfl, hH45, hF45, by omega, by omega, (SOK.rd (n := M45.1 173 49) ht (by omega) (by omega) (fun j hj => hcp j (by omega))), (fun σ hσ hp9 => SenC.of0 (SenR.ok (p24 _ _ (CR.cg (CR.zero p3 p5 ⟨by omega, by omega⟩ hσ hp9 (fun j => hR7 175 j rfl) (fun k => p6 180 k rfl)) (fun j => (((n14 174 j (fun h => absurd h.1 (by decide))).trans (n13 174 j (fun h => absurd h.1 (by decide)))).trans (n12 174 j (fun h => absurd h.1 (by decide))))) (fun j hj => (((n14 173 j (fun e => absurd e.2 (by omega))).trans (n13 173 j (fun e => absurd e.2 (by omega)))).trans (n12 173 j (fun e => absurd e.2 (by omega))))) ((((q14 173 12).trans (q13 173 12)).trans (q12 173 12))) ((((n14 173 10 (by decide)).trans (n13 173 10 (by decide))).trans (n12 173 10 (by decide)))) (fun j => (((n14 175 j (fun h => absurd h.1 (by decide))).trans (n13 175 j (fun h => absurd h.1 (by decide)))).trans (n12 175 j (fun h => absurd h.1 (by decide))))) (fun k => (((q14 180 k).trans (q13 180 k)).trans (q12 180 k))))) (by omega) (by omega) (by omega) (by omega)) (by omega) (fun y => by omega)), (by omega), hg⟩
     refine jx_load c1 hm rfl rfl rfl rfl ?_
     refine jx_getr c1 hm rfl sh_173 rfl ?_
     refine jy_sp c1 hm rfl (by decide) ?_
     refine jx_load c1 hm rfl rfl rfl rfl ?_
     refine jy_add c1 hm (b44 + 236) rfl (by omega) ?_
     refine jx_load c1 hm rfl rfl rfl rfl ?_
     refine jx_getr c1 hm rfl sh_173 rfl ?_
     refine jx_load c1 hm rfl rfl rfl rfl ?_
     obtain ⟨z69, k70, lz69, uz69⟩ := hH45.ld (c := 197) (i := (b44).toNat) (A := (-2147483648)) (B := 2147483647) rfl
     refine jx_iald c1 hm rfl sh_197 ⟨by omega, by omega⟩ k70 ?_
     obtain ⟨M71, e71, hH71, hF71, k71, n71, q71⟩ := mup hH45 hF45 (c := 175) (i := ((b44 + 236)).toNat) (v := z69) (A := (-2147483648)) (B := 2147483647) (bs_11_11 _ _ (by omega) (by omega)) ⟨by omega, by omega⟩ (jin_of 18 rfl ⟨by omega, by omega⟩)
     refine jm_iast c1 hm rfl sh_175 ⟨by omega, by omega⟩ e71 ?_
     refine jx_iinc c1 hm (v := (b44 + 1)) (L' := [some (.inr (.inr (.inl 173))), some (.inl (b44 + 1))]) rfl rfl (by omega) (by omega) rfl ?_
     refine jx_goto c1 hm 79 rfl rfl ?_
     have k72 : M71.1 173 2 = z8 := (n71 173 2 (fun h => absurd h.1 (by decide))).trans k47
     have k73 : M71.1 173 7 = z38 := (n71 173 7 (fun h => absurd h.1 (by decide))).trans k49
     have k74 : M71.1 173 10 = z35 := (n71 173 10 (fun h => absurd h.1 (by decide))).trans k51
     have k75 : M71.1 173 49 = z29 := (n71 173 49 (fun h => absurd h.1 (by decide))).trans k53
     have k76 : M71.1 173 50 = z31 := (n71 173 50 (fun h => absurd h.1 (by decide))).trans k55
     have k77 : M71.1 173 51 = z27 := (n71 173 51 (fun h => absurd h.1 (by decide))).trans k57
     have k78 : M71.1 173 52 = z33 := (n71 173 52 (fun h => absurd h.1 (by decide))).trans k59
     have k79 : M71.1 175 235 = z33 := (n71 175 235 (by omega)).trans k60
     exact ihW66 (b44 + 1) (by omega) M71 hH71 hF71 k72 k73 k74 k75 k76 k77 k78 k79 (TRN.cg ht (fun j => (n71 197 j (fun h => absurd h.1 (by decide)))) (by omega)) (by omega) (by omega) (fun j hj => if c : (j : Int) < b44 then ((n71 175 (j + 236) (by omega)).trans (hcp j c)).trans (n71 197 j (fun h => absurd h.1 (by decide))).symm else (by have e : j = (b44).toNat := (by omega); subst e; rw [show (b44).toNat + 236 = ((b44 + 236)).toNat by omega]; exact k71.trans (k70.symm.trans (n71 197 _ (fun h => absurd h.1 (by decide))).symm))) (hg.eq q71) (by omega)
   have k46 : M43.1 173 2 = z8 := (n43 173 2 (fun h => absurd h.1 (by decide))).trans ((n41 173 2 (fun h => absurd h.1 (by decide))).trans ((hR26 173 2 (by decide +kernel)).trans ((n14 173 2 (by decide)).trans ((n13 173 2 (by decide)).trans ((n12 173 2 (by decide)).trans k9)))))
   have k48 : M43.1 173 7 = z38 := (n43 173 7 (fun h => absurd h.1 (by decide))).trans ((n41 173 7 (fun h => absurd h.1 (by decide))).trans k39)
   have k50 : M43.1 173 10 = z35 := (n43 173 10 (fun h => absurd h.1 (by decide))).trans ((n41 173 10 (fun h => absurd h.1 (by decide))).trans k36)
   have k52 : M43.1 173 49 = z29 := (n43 173 49 (fun h => absurd h.1 (by decide))).trans ((n41 173 49 (fun h => absurd h.1 (by decide))).trans k30)
   have k54 : M43.1 173 50 = z31 := (n43 173 50 (fun h => absurd h.1 (by decide))).trans ((n41 173 50 (fun h => absurd h.1 (by decide))).trans k32)
   have k56 : M43.1 173 51 = z27 := (n43 173 51 (fun h => absurd h.1 (by decide))).trans ((n41 173 51 (fun h => absurd h.1 (by decide))).trans k28)
   have k58 : M43.1 173 52 = z33 := (n43 173 52 (fun h => absurd h.1 (by decide))).trans k42
   exact W66 (240 + 1 : Int).toNat 0 (by omega) M43 hH43 hF43 k46 k48 k50 k52 k54 k56 k58 k43 (TRN.cg (p22.resolve_left (by omega)) (fun j => ((n43 197 j (fun h => absurd h.1 (by decide))).trans (n41 197 j (fun h => absurd h.1 (by decide))))) (by omega)) (by omega) (by omega) (fun j hj => by omega) ((((((((LFr.rf _ _).tr p6 (by decide +kernel)).eq q12).eq q13).eq q14).tr p25 (by decide +kernel)).eq q41).eq q43) (by omega)
  refine jx_load c1 hm rfl rfl rfl rfl ?_
  refine jy_ic c1 hm rfl (by decide) ?_
  obtain ⟨z80, k81, lz80, uz80⟩ := hH26.ld (c := 173) (i := 6) (A := 0) (B := 940) (bs_28_3 _ _ (by omega) (by omega))
  refine jv_i c3 hm rfl pj_X12_bad rfl rfl ⟨_, _, _, rfl, sh_173⟩ rfl ((ct_X12_bad_173q X (by omega) M26 hH26 1 ⟨by omega, by omega⟩).le (by decide)) (fun z82 M88 ⟨hH88, hR88, lz82, uz82, p83, p84, p85, p86, p87⟩ => ?_)
  have hF88 := hF26.tr hR88 (by decide +kernel)
  obtain ⟨z89, k90, lz89, uz89⟩ := hH88.ld (c := 173) (i := 11) (A := 0) (B := 940) (bs_28_6 _ _ (by omega) (by omega))
  obtain ⟨z91, k92, lz91, uz91⟩ := hH88.ld (c := 173) (i := 10) (A := (-2147483648)) (B := 2147483647) (bs_28_5 _ _ (by omega) (by omega))
  refine jx_pop c1 hm rfl rfl ?_
  refine jy_ic c1 hm rfl (by decide) ?_
  refine jx_load c1 hm rfl rfl rfl rfl ?_
  refine jx_geti c1 hm rfl sh_173 rfl k90 ?_
  refine jy_sub c1 hm (-z89 - 1) rfl (by omega) ?_
  have k93 : M88.1 173 2 = z8 := (hR88 173 2 (by decide +kernel)).trans ((hR26 173 2 (by decide +kernel)).trans ((n14 173 2 (by decide)).trans ((n13 173 2 (by decide)).trans ((n12 173 2 (by decide)).trans k9))))
  exact jx_reti c2 hm rfl rfl ⟨_, rfl, hH88, hF88, by omega, by omega, (SOK.cg hp0 (fun j _ _ => ((((((hR88 175 j rfl).trans (hR26 175 j rfl)).trans (n14 175 j (fun h => absurd h.1 (by decide)))).trans (n13 175 j (fun h => absurd h.1 (by decide)))).trans (n12 175 j (fun h => absurd h.1 (by decide)))).trans (hR7 175 j rfl)))), (fun σ hσ hp9 => SenC.of (SenR.bad (p24 _ _ (CR.cg (CR.zero p3 p5 ⟨by omega, by omega⟩ hσ hp9 (fun j => hR7 175 j rfl) (fun k => p6 180 k rfl)) (fun j => (((n14 174 j (fun h => absurd h.1 (by decide))).trans (n13 174 j (fun h => absurd h.1 (by decide)))).trans (n12 174 j (fun h => absurd h.1 (by decide))))) (fun j hj => (((n14 173 j (fun e => absurd e.2 (by omega))).trans (n13 173 j (fun e => absurd e.2 (by omega)))).trans (n12 173 j (fun e => absurd e.2 (by omega))))) ((((q14 173 12).trans (q13 173 12)).trans (q12 173 12))) ((((n14 173 10 (by decide)).trans (n13 173 10 (by decide))).trans (n12 173 10 (by decide)))) (fun j => (((n14 175 j (fun h => absurd h.1 (by decide))).trans (n13 175 j (fun h => absurd h.1 (by decide)))).trans (n12 175 j (fun h => absurd h.1 (by decide))))) (fun k => (((q14 180 k).trans (q13 180 k)).trans (q12 180 k))))) (by omega) (by omega) (by omega) (by omega) (by omega) (by omega)) (by omega) rfl), (by omega), (((((((LFr.rf _ _).tr p6 (by decide +kernel)).eq q12).eq q13).eq q14).tr p25 (by decide +kernel)).tr p87 (by decide +kernel))⟩
 refine jy_ic c1 hm rfl (by decide) ?_
 refine jx_load c1 hm rfl rfl rfl rfl ?_
 obtain ⟨z94, k95, lz94, uz94⟩ := hH26.ld (c := 173) (i := 11) (A := 0) (B := 940) (bs_28_6 _ _ (by omega) (by omega))
 refine jx_geti c1 hm rfl sh_173 rfl k95 ?_
 refine jy_sub c1 hm (-z94 - 1) rfl (by omega) ?_
 have k96 : M26.1 173 2 = z8 := (hR26 173 2 (by decide +kernel)).trans ((n14 173 2 (by decide)).trans ((n13 173 2 (by decide)).trans ((n12 173 2 (by decide)).trans k9)))
 exact jx_reti c2 hm rfl rfl ⟨_, rfl, hH26, hF26, by omega, by omega, (SOK.cg hp0 (fun j _ _ => (((((hR26 175 j rfl).trans (n14 175 j (fun h => absurd h.1 (by decide)))).trans (n13 175 j (fun h => absurd h.1 (by decide)))).trans (n12 175 j (fun h => absurd h.1 (by decide)))).trans (hR7 175 j rfl)))), (fun σ hσ hp9 => SenC.of (SenR.no (p24 _ _ (CR.cg (CR.zero p3 p5 ⟨by omega, by omega⟩ hσ hp9 (fun j => hR7 175 j rfl) (fun k => p6 180 k rfl)) (fun j => (((n14 174 j (fun h => absurd h.1 (by decide))).trans (n13 174 j (fun h => absurd h.1 (by decide)))).trans (n12 174 j (fun h => absurd h.1 (by decide))))) (fun j hj => (((n14 173 j (fun e => absurd e.2 (by omega))).trans (n13 173 j (fun e => absurd e.2 (by omega)))).trans (n12 173 j (fun e => absurd e.2 (by omega))))) ((((q14 173 12).trans (q13 173 12)).trans (q12 173 12))) ((((n14 173 10 (by decide)).trans (n13 173 10 (by decide))).trans (n12 173 10 (by decide)))) (fun j => (((n14 175 j (fun h => absurd h.1 (by decide))).trans (n13 175 j (fun h => absurd h.1 (by decide)))).trans (n12 175 j (fun h => absurd h.1 (by decide))))) (fun k => (((q14 180 k).trans (q13 180 k)).trans (q12 180 k))))) (by omega) (by omega) (by omega)) (by omega) rfl), (by omega), ((((((LFr.rf _ _).tr p6 (by decide +kernel)).eq q12).eq q13).eq q14).tr p25 (by decide +kernel))⟩
