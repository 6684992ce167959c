/-! Contracts that tell kinds of faults (by wip/q/wlk.py). -/
def md_X10_takesSign_1k : List (Nat × (Nat × Nat)) := [(1, (4, 4)), (1, (5, 5)), (1, (6, 6)), (1, (7, 7)), (1, (9, 9)), (1, (12, 12)), (1, (13, 13))]
theorem ct_X10_takesSign_1k (X : Int) (hX : 0 ≤ X ∧ X ≤ 100000000) (M0 : JM) (hH0 : HI X M0) (a0 : Int) (ha0 : (-2147483648) ≤ a0 ∧ a0 ≤ 2147483647) : JOk shp PJ 3 24 [.inr (.inr (.inl 1)), .inl a0] M0 (jRi (fun v M' => HI X M' ∧ Fr md_X10_takesSign_1k M0 M' ∧ 0 ≤ v ∧ v ≤ 1 ∧ (∀ (t : TXT) (σ : PSt), CS M0 t σ → LRc t (sgnS t a0 σ) v M') ∧ (LFr ml_X10_takesSign_1p M0 M') ∧ (∀ (t : TXT) (σ : PSt), CS M0 t σ → KCc 1 v M'))) := by
 refine ⟨jr_X10_takesSign, pj_X10_takesSign, fun F c1 c2 c3 => ?_⟩
 have hm := pj_X10_takesSign
 change F 0 [some (.inr (.inr (.inl 1))), some (.inl a0)] [] M0
 have hF0 : Fr md_X10_takesSign_1k M0 M0 := Fr.rf _ _
 refine jx_load c1 hm rfl rfl rfl rfl ?_
 refine jx_load c1 hm rfl rfl rfl rfl ?_
 obtain ⟨z1, k2, lz1, uz1⟩ := hH0.ld (c := 1) (i := 6) (A := 0) (B := 4) (bs_19_4 _ _ (by omega) (by omega))
 obtain ⟨z3, k4, lz3, uz3⟩ := hH0.ld (c := 1) (i := 9) (A := (-2147483648)) (B := 2147483647) (bs_19_6 _ _ (by omega) (by omega))
 refine jv_i c3 hm rfl pj_X10_isSign rfl rfl ⟨_, _, _, rfl, sh_1⟩ rfl ((ct_X10_isSign_1p X (by omega) M0 hH0 a0 ⟨by omega, by omega⟩).le (by decide)) (fun z5 _ ⟨rfl, lz5, uz5, p6, p7⟩ => ?_)
 refine jz_ne c1 hm 18 rfl rfl (fun h8 => ?_) (fun h8 => ?_)
 ·
  refine jx_load c1 hm rfl rfl rfl rfl ?_
  obtain ⟨z9, k10, lz9, uz9⟩ := hH0.ld (c := 1) (i := 2) (A := 0) (B := 940) (bs_19_1 _ _ (by omega) (by omega))
  obtain ⟨z11, k12, lz11, uz11⟩ := hH0.ld (c := 1) (i := 4) (A := 0) (B := 940) (bs_19_3 _ _ (by omega) (by omega))
  refine jv_v c3 hm rfl pj_X10_next rfl rfl ⟨_, _, _, rfl, sh_1⟩ rfl ((ct_X10_next_1p X (by omega) M0 hH0 ).le (by decide)) (fun M15 ⟨hH15, hR15, p13, p14⟩ => ?_)
  have hF15 := hF0.tr hR15 (by decide +kernel)
  refine jy_ic c1 hm rfl (by decide) ?_
  exact jx_retz c2 hm rfl rfl ⟨by omega, by omega⟩ ⟨_, rfl, hH15, hF15, by omega, by omega, (fun t σ hσ => sgn_go hσ (by omega) (by omega) rfl p13 (hR15 1 12 rfl) hR15 p14 (by decide +kernel)), ((LFr.rf _ _).tr p14 (by decide +kernel)), (fun t σ hσ => KCc.y (by omega))⟩
 refine jx_load c1 hm rfl rfl rfl rfl ?_
 refine jy_ic c1 hm rfl (by decide) ?_
 refine jx_load c1 hm rfl rfl rfl rfl ?_
 obtain ⟨z16, k17, lz16, uz16⟩ := hH0.ld (c := 1) (i := 5) (A := 0) (B := 940) (bs_19_3 _ _ (by omega) (by omega))
 refine jx_geti c1 hm rfl sh_1 rfl k17 ?_
 refine jv_i c3 hm rfl pj_X10_fails rfl rfl ⟨_, _, _, rfl, sh_1⟩ rfl ((ct_X10_fails_1p X (by omega) M0 hH0 1 ⟨by omega, by omega⟩ z16 ⟨by omega, by omega⟩).le (by decide)) (fun z18 M24 ⟨hH24, hR24, lz18, uz18, p19, p20, p21, p22, p23⟩ => ?_)
 have hF24 := hF0.tr hR24 (by decide +kernel)
 obtain ⟨z25, k26, lz25, uz25⟩ := hH24.ld (c := 1) (i := 12) (A := 0) (B := 4) (bs_19_8 _ _ (by omega) (by omega))
 obtain ⟨z27, k28, lz27, uz27⟩ := hH24.ld (c := 1) (i := 13) (A := 0) (B := 940) (bs_19_9 _ _ (by omega) (by omega))
 exact jx_retz c2 hm rfl rfl ⟨by omega, by omega⟩ ⟨_, rfl, hH24, hF24, by omega, by omega, (fun t σ hσ => sgn_no hσ (by omega) (by omega) (by omega) (by omega)), ((LFr.rf _ _).tr p23 (by decide +kernel)), (fun t σ hσ => KCc.of (by omega))⟩
def md_X2_readLines_27_1k : List (Nat × (Nat × Nat)) := [(1, (4, 4)), (1, (5, 5)), (1, (6, 6)), (1, (7, 7)), (1, (9, 9)), (1, (11, 11)), (1, (12, 12)), (1, (13, 13)), (27, (6, 6)), (27, (7, 7)), (28, (0, 2)), (30, (0, 5)), (31, (0, 5)), (32, (0, 35)), (33, (0, 5)), (34, (7, 7)), (35, (0, 5)), (36, (0, 5)), (37, (0, 5)), (38, (0, 5)), (39, (0, 35)), (40, (0, 35)), (41, (0, 35)), (42, (2, 2)), (42, (3, 3))]
theorem ct_X2_readLines_27_1k (X : Int) (hX : 0 ≤ X ∧ X ≤ 100000000) (M0 : JM) (hH0 : HI X M0)  : JOk shp PJ 6 225 [.inr (.inr (.inl 27)), .inr (.inr (.inl 1))] M0 (jRi (fun v M' => HI X M' ∧ Fr md_X2_readLines_27_1k M0 M' ∧ 0 ≤ v ∧ v ≤ 900 ∧ (0 ≤ M'.1 27 6 ∧ 0 ≤ M'.1 27 7) ∧ (∀ t : TXT, t.2.2 = 900 → t.2.1 ≤ 940 → 0 ≤ t.2.1 → CTk M0 t 0 → M0.1 1 12 = 0 → (M'.1 1 12 = 0 ∧ v = allS t 1000 0 st0) ∨ (M'.1 1 12 ≠ 0 ∧ -1 - M'.1 1 13 = allS t 1000 0 st0)) ∧ (∀ t : TXT, t.2.2 = 900 → t.2.1 ≤ 940 → 0 ≤ t.2.1 → CTk M0 t 0 → M0.1 1 12 = 0 → M'.1 1 12 = 0 → HC M' 27 (allQ t 1000 st0) ∧ PIn (allQ t 1000 st0)) ∧ (LKs [29] M0 M') ∧ (∀ t : TXT, t.2.2 = 900 → t.2.1 ≤ 940 → 0 ≤ t.2.1 → CTk M0 t 0 → M0.1 1 12 = 0 → M'.1 1 12 = allK t 1000 st0))) := by
 refine ⟨jr_X2_readLines, pj_X2_readLines, fun F c1 c2 c3 => ?_⟩
 have hm := pj_X2_readLines
 change F 0 [some (.inr (.inr (.inl 27))), some (.inr (.inr (.inl 1))), none, none] [] M0
 have hF0 : Fr md_X2_readLines_27_1k M0 M0 := Fr.rf _ _
 obtain ⟨z1, k2, lz1, uz1⟩ := hH0.ld (c := 1) (i := 12) (A := 0) (B := 4) (bs_19_8 _ _ (by omega) (by omega))
 obtain ⟨z3, k4, lz3, uz3⟩ := hH0.ld (c := 1) (i := 6) (A := 0) (B := 4) (bs_19_4 _ _ (by omega) (by omega))
 refine jx_load c1 hm rfl rfl rfl rfl ?_
 refine jv_v c3 hm rfl pj_X2_clear rfl rfl ⟨_, _, _, rfl, sh_27⟩ rfl (((ct_X2_clear_27p X (by omega) M0 hH0 ).lkv (by decide +kernel) rfl).le (by decide)) (fun M7 ⟨⟨hH7, hR7, p5, p6⟩, hL7⟩ => ?_)
 have hF7 := hF0.tr hR7 (by decide +kernel)
 refine jy_ic c1 hm rfl (by decide) ?_
 refine jx_stor c1 hm (L' := [some (.inr (.inr (.inl 27))), some (.inr (.inr (.inl 1))), some (.inl 0), none]) rfl rfl rfl rfl rfl ?_
 refine jy_ic c1 hm rfl (by decide) ?_
 refine jx_stor c1 hm (L' := [some (.inr (.inr (.inl 27))), some (.inr (.inr (.inl 1))), some (.inl 0), some (.inl 0)]) rfl rfl rfl rfl rfl ?_
 have W16 : ∀ (n17 : Nat) (b8 : Int) (hb8 : 0 ≤ b8 ∧ b8 ≤ 2147483647) (b9 : Int) (hb9 : 0 ≤ b9 ∧ b9 ≤ 900) (M10 : JM) (hH10 : HI (X) M10) (hF10 : Fr md_X2_readLines_27_1k M0 M10) (h11 : b8 ≤ b9) (hrl : ∀ t : TXT, t.2.2 = 900 → t.2.1 ≤ 940 → 0 ≤ t.2.1 → CTk M0 t 0 → M0.1 1 12 = 0 → RLn t M10 b8 b9) (hrf : ∀ t : TXT, t.2.2 = 900 → t.2.1 ≤ 940 → 0 ≤ t.2.1 → CTk M0 t 0 → M0.1 1 12 = 0 → RLF t M10 b9) (hlx : LKs [29] M0 M10) (hrk : ∀ t : TXT, t.2.2 = 900 → t.2.1 ≤ 940 → 0 ≤ t.2.1 → CTk M0 t 0 → M0.1 1 12 = 0 → RLk t M10 b9), (-b9 + 900) < (n17 : Int) → F 8 [some (.inr (.inr (.inl 27))), some (.inr (.inr (.inl 1))), some (.inl b8), some (.inl b9)] [] M10 := by
  intro n17
  induction n17 with
  | zero => intros; omega
  | succ n17 ihW16 =>
   intro b8 hb8 b9 hb9 M10 hH10 hF10 h11 hrl hrf hlx hrk hrW16
   refine jx_load c1 hm rfl rfl rfl rfl ?_
   refine jy_sp c1 hm rfl (by decide) ?_
   refine jc_ge c1 hm 55 rfl rfl (fun h18 => ?_) (fun h18 => ?_)
   ·
    refine jx_load c1 hm rfl rfl rfl rfl ?_
    refine jv_v c3 hm rfl pj_X2_fillWhatWasNotTold rfl rfl ⟨_, _, _, rfl, sh_27⟩ rfl (((ct_X2_fillWhatWasNotTold_27 X (by omega) M10 hH10 ).lkv (by decide +kernel) rfl).le (by decide)) (fun M20 ⟨⟨hH20, hR20, p19⟩, hL20⟩ => ?_)
    have hF20 := hF10.tr hR20 (by decide +kernel)
    obtain ⟨z21, k22, lz21, uz21⟩ := hH20.ld (c := 27) (i := 6) (A := (-1)) (B := 9) (bs_23_1 _ _ (by omega) (by omega))
    obtain ⟨z23, k24, lz23, uz23⟩ := hH20.ld (c := 27) (i := 7) (A := (-1)) (B := 9) (bs_23_1 _ _ (by omega) (by omega))
    refine jx_load c1 hm rfl rfl rfl rfl ?_
    obtain ⟨z25, k26, lz25, uz25⟩ := hH20.ld (c := 1) (i := 12) (A := 0) (B := 4) (bs_19_8 _ _ (by omega) (by omega))
    obtain ⟨z27, k28, lz27, uz27⟩ := hH20.ld (c := 1) (i := 13) (A := 0) (B := 940) (bs_19_9 _ _ (by omega) (by omega))
    exact jx_reti c2 hm rfl rfl ⟨_, rfl, hH20, hF20, by omega, by omega, (by omega), (fun t a1 a2 a3 a4 a5 => RLn.fin (hrl t a1 a2 a3 a4 a5) (by omega) (by omega) (hR20 1 12 rfl) (hR20 1 13 rfl)), (fun t a1 a2 a3 a4 a5 => RLF.fin (hrf t a1 a2 a3 a4 a5) (by omega) (by omega) (hR20 1 12 rfl) (fun s => hR20 28 s rfl) hL20), (hlx.lk hL20), (fun t a1 a2 a3 a4 a5 => RLk.fin (hrk t a1 a2 a3 a4 a5) (by omega) (by omega) (hR20 1 12 rfl))⟩
   refine jx_load c1 hm rfl rfl rfl rfl ?_
   obtain ⟨z29, k30, lz29, uz29⟩ := hH10.ld (c := 1) (i := 12) (A := 0) (B := 4) (bs_19_8 _ _ (by omega) (by omega))
   refine jx_geti c1 hm rfl sh_1 rfl k30 ?_
   refine jz_ne c1 hm 55 rfl rfl (fun h31 => ?_) (fun h31 => ?_)
   ·
    refine jx_load c1 hm rfl rfl rfl rfl ?_
    refine jv_v c3 hm rfl pj_X2_fillWhatWasNotTold rfl rfl ⟨_, _, _, rfl, sh_27⟩ rfl (((ct_X2_fillWhatWasNotTold_27 X (by omega) M10 hH10 ).lkv (by decide +kernel) rfl).le (by decide)) (fun M33 ⟨⟨hH33, hR33, p32⟩, hL33⟩ => ?_)
    have hF33 := hF10.tr hR33 (by decide +kernel)
    obtain ⟨z34, k35, lz34, uz34⟩ := hH33.ld (c := 27) (i := 6) (A := (-1)) (B := 9) (bs_23_1 _ _ (by omega) (by omega))
    obtain ⟨z36, k37, lz36, uz36⟩ := hH33.ld (c := 27) (i := 7) (A := (-1)) (B := 9) (bs_23_1 _ _ (by omega) (by omega))
    refine jx_load c1 hm rfl rfl rfl rfl ?_
    have k38 : M33.1 1 12 = z29 := (hR33 1 12 (by decide +kernel)).trans k30
    obtain ⟨z39, k40, lz39, uz39⟩ := hH33.ld (c := 1) (i := 13) (A := 0) (B := 940) (bs_19_9 _ _ (by omega) (by omega))
    exact jx_reti c2 hm rfl rfl ⟨_, rfl, hH33, hF33, by omega, by omega, (by omega), (fun t a1 a2 a3 a4 a5 => RLn.fin (hrl t a1 a2 a3 a4 a5) (by omega) (by omega) (hR33 1 12 rfl) (hR33 1 13 rfl)), (fun t a1 a2 a3 a4 a5 => RLF.fin (hrf t a1 a2 a3 a4 a5) (by omega) (by omega) (hR33 1 12 rfl) (fun s => hR33 28 s rfl) hL33), (hlx.lk hL33), (fun t a1 a2 a3 a4 a5 => RLk.fin (hrk t a1 a2 a3 a4 a5) (by omega) (by omega) (hR33 1 12 rfl))⟩
   refine jx_load c1 hm rfl rfl rfl rfl ?_
   obtain ⟨z41, k42, lz41, uz41⟩ := hH10.ld (c := 1) (i := 6) (A := 0) (B := 4) (bs_19_4 _ _ (by omega) (by omega))
   refine jx_geti c1 hm rfl sh_1 rfl k42 ?_
   refine jz_eq c1 hm 55 rfl rfl (fun h43 => ?_) (fun h43 => ?_)
   ·
    refine jx_load c1 hm rfl rfl rfl rfl ?_
    refine jv_v c3 hm rfl pj_X2_fillWhatWasNotTold rfl rfl ⟨_, _, _, rfl, sh_27⟩ rfl (((ct_X2_fillWhatWasNotTold_27 X (by omega) M10 hH10 ).lkv (by decide +kernel) rfl).le (by decide)) (fun M45 ⟨⟨hH45, hR45, p44⟩, hL45⟩ => ?_)
    have hF45 := hF10.tr hR45 (by decide +kernel)
    obtain ⟨z46, k47, lz46, uz46⟩ := hH45.ld (c := 27) (i := 6) (A := (-1)) (B := 9) (bs_23_1 _ _ (by omega) (by omega))
    obtain ⟨z48, k49, lz48, uz48⟩ := hH45.ld (c := 27) (i := 7) (A := (-1)) (B := 9) (bs_23_1 _ _ (by omega) (by omega))
    refine jx_load c1 hm rfl rfl rfl rfl ?_
    have k50 : M45.1 1 12 = z29 := (hR45 1 12 (by decide +kernel)).trans k30
    obtain ⟨z51, k52, lz51, uz51⟩ := hH45.ld (c := 1) (i := 13) (A := 0) (B := 940) (bs_19_9 _ _ (by omega) (by omega))
    exact jx_reti c2 hm rfl rfl ⟨_, rfl, hH45, hF45, by omega, by omega, (by omega), (fun t a1 a2 a3 a4 a5 => RLn.fin (hrl t a1 a2 a3 a4 a5) (by omega) (by omega) (hR45 1 12 rfl) (hR45 1 13 rfl)), (fun t a1 a2 a3 a4 a5 => RLF.fin (hrf t a1 a2 a3 a4 a5) (by omega) (by omega) (hR45 1 12 rfl) (fun s => hR45 28 s rfl) hL45), (hlx.lk hL45), (fun t a1 a2 a3 a4 a5 => RLk.fin (hrk t a1 a2 a3 a4 a5) (by omega) (by omega) (hR45 1 12 rfl))⟩
   refine jx_load c1 hm rfl rfl rfl rfl ?_
   refine jx_load c1 hm rfl rfl rfl rfl ?_
   refine jv_i c3 hm rfl pj_X2_readLine rfl rfl ⟨_, _, _, rfl, sh_27⟩ rfl ((ct_X2_readLine_27_1k X (by omega) M10 hH10 ).le (by decide)) (fun z53 M57 ⟨hH57, hR57, lz53, uz53, p54, p55, p56⟩ => ?_)
   have hF57 := hF10.tr hR57 (by decide +kernel)
   refine jz_eq c1 hm 49 rfl rfl (fun h58 => ?_) (fun h58 => ?_)
   ·
    refine jx_iinc c1 hm (v := (b9 + 1)) (L' := [some (.inr (.inr (.inl 27))), some (.inr (.inr (.inl 1))), some (.inl b8), some (.inl (b9 + 1))]) rfl rfl (by omega) (by omega) rfl ?_
    refine jx_goto c1 hm 8 rfl rfl ?_
    exact ihW16 b8 (by omega) (b9 + 1) (by omega) M57 hH57 hF57 (by omega) (fun t a1 a2 a3 a4 a5 => RLn.no (hrl t a1 a2 a3 a4 a5) (by omega) (by omega) (by omega) (fun σ hσ => LRc.seqz (p54 t σ hσ) (by omega))) (fun t a1 a2 a3 a4 a5 => RLF.nol (hrf t a1 a2 a3 a4 a5) (by omega) (fun σ hσ => LRc.seqz (p54 t σ hσ) (by omega))) (LFr.lks hlx p55 (by decide +kernel)) (fun t a1 a2 a3 a4 a5 => RLk.no (hrk t a1 a2 a3 a4 a5) (by omega) (by omega) (by omega) (fun σ hσ => LRc.seqz (p54 t σ hσ) (by omega)) (fun σ hσ => KCc.seqz (p54 t σ hσ) (p56 t σ hσ) (by omega))) (by omega)
   refine jx_load c1 hm rfl rfl rfl rfl ?_
   refine jy_bp c1 hm rfl (by decide) ?_
   refine jv_i c3 hm rfl pj_X10_takesSign rfl rfl ⟨_, _, _, rfl, sh_1⟩ rfl (((ct_X10_takesSign_1k X (by omega) M57 hH57 59 ⟨by omega, by omega⟩).lki (by decide +kernel) rfl).le (by decide)) (fun z59 M63 ⟨⟨hH63, hR63, lz59, uz59, p60, p61, p62⟩, hL63⟩ => ?_)
   have hF63 := hF57.tr hR63 (by decide +kernel)
   refine jz_eq c1 hm 49 rfl rfl (fun h64 => ?_) (fun h64 => ?_)
   ·
    refine jx_iinc c1 hm (v := (b9 + 1)) (L' := [some (.inr (.inr (.inl 27))), some (.inr (.inr (.inl 1))), some (.inl b8), some (.inl (b9 + 1))]) rfl rfl (by omega) (by omega) rfl ?_
    refine jx_goto c1 hm 8 rfl rfl ?_
    exact ihW16 b8 (by omega) (b9 + 1) (by omega) M63 hH63 hF63 (by omega) (fun t a1 a2 a3 a4 a5 => RLn.no (hrl t a1 a2 a3 a4 a5) (by omega) (by omega) (by omega) (fun σ hσ => LRc.seqg (p54 t σ hσ) (by omega) (fun l1 h1 => LRc.z (p60 t _ h1) (by omega)))) (fun t a1 a2 a3 a4 a5 => RLF.nol (hrf t a1 a2 a3 a4 a5) (by omega) (fun σ hσ => LRc.seqg (p54 t σ hσ) (by omega) (fun l1 h1 => LRc.z (p60 t _ h1) (by omega)))) ((LFr.lks hlx p55 (by decide +kernel)).lk hL63) (fun t a1 a2 a3 a4 a5 => RLk.no (hrk t a1 a2 a3 a4 a5) (by omega) (by omega) (by omega) (fun σ hσ => LRc.seqg (p54 t σ hσ) (by omega) (fun l1 h1 => LRc.z (p60 t _ h1) (by omega))) (fun σ hσ => KCc.seqg (p54 t σ hσ) (by omega) (fun l1 h1 => ((p62 t _ h1).vc (by omega))))) (by omega)
   refine jx_iinc c1 hm (v := (b8 + 1)) (L' := [some (.inr (.inr (.inl 27))), some (.inr (.inr (.inl 1))), some (.inl (b8 + 1)), some (.inl b9)]) rfl rfl (by omega) (by omega) rfl ?_
   refine jx_iinc c1 hm (v := (b9 + 1)) (L' := [some (.inr (.inr (.inl 27))), some (.inr (.inr (.inl 1))), some (.inl (b8 + 1)), some (.inl (b9 + 1))]) rfl rfl (by omega) (by omega) rfl ?_
   refine jx_goto c1 hm 8 rfl rfl ?_
   exact ihW16 (b8 + 1) (by omega) (b9 + 1) (by omega) M63 hH63 hF63 (by omega) (fun t a1 a2 a3 a4 a5 => RLn.go (hrl t a1 a2 a3 a4 a5) (by omega) (by omega) (by omega) (fun σ hσ => LRc.seqg (p54 t σ hσ) (by omega) (fun l1 h1 => LRc.u (p60 t _ h1) (by omega)))) (fun t a1 a2 a3 a4 a5 => RLF.go (hrf t a1 a2 a3 a4 a5) (by omega) (by omega) (by omega) (fun σ hσ => LRc.seqg (p54 t σ hσ) (by omega) (fun l1 h1 => LRc.u (p60 t _ h1) (by omega)))) ((LFr.lks hlx p55 (by decide +kernel)).lk hL63) (fun t a1 a2 a3 a4 a5 => RLk.go (hrk t a1 a2 a3 a4 a5) (by omega) (by omega) (by omega) (fun σ hσ => LRc.seqg (p54 t σ hσ) (by omega) (fun l1 h1 => LRc.u (p60 t _ h1) (by omega)))) (by omega)
 exact W16 (900 + 1 : Int).toNat 0 (by omega) 0 (by omega) M7 hH7 hF7 (by omega) (fun t a1 a2 a3 a4 a5 => RLn.start (CTk.cg a4 (fun j => hR7 2 j rfl) (fun i => hR7 1 i rfl) (fun i => p6 1 i rfl)) ((hR7 1 12 rfl).trans a5) p5 (PI.zero ⟨by omega, by omega⟩ (by omega))) (fun t a1 a2 a3 a4 a5 => RLF.start (CTk.cg a4 (fun j => hR7 2 j rfl) (fun i => hR7 1 i rfl) (fun i => p6 1 i rfl)) ((hR7 1 12 rfl).trans a5) p5 (PI.zero ⟨by omega, by omega⟩ (by omega))) ((LKs.rf [29] M0).lk hL7) (fun t a1 a2 a3 a4 a5 => RLk.start (CTk.cg a4 (fun j => hR7 2 j rfl) (fun i => hR7 1 i rfl) (fun i => p6 1 i rfl)) ((hR7 1 12 rfl).trans a5) p5 (PI.zero ⟨by omega, by omega⟩ (by omega))) (by omega)
def md_X11_duchy_0k : List (Nat × (Nat × Nat)) := [(0, (2, 2)), (0, (3, 3)), (1, (2, 2)), (1, (3, 3)), (1, (4, 4)), (1, (5, 5)), (1, (6, 6)), (1, (7, 7)), (1, (9, 9)), (1, (11, 11)), (1, (12, 12)), (1, (13, 13)), (5, (6, 6)), (5, (7, 7)), (6, (0, 2)), (7, (0, 17)), (8, (0, 5)), (10, (0, 35)), (11, (0, 5)), (12, (7, 7)), (13, (0, 5)), (14, (0, 5)), (15, (0, 5)), (16, (0, 5)), (17, (0, 35)), (18, (0, 35)), (19, (0, 35)), (20, (2, 2)), (20, (3, 3)), (21, (0, 39)), (27, (6, 6)), (27, (7, 7)), (28, (0, 2)), (30, (0, 5)), (31, (0, 5)), (32, (0, 35)), (33, (0, 5)), (34, (7, 7)), (35, (0, 5)), (36, (0, 5)), (37, (0, 5)), (38, (0, 5)), (39, (0, 35)), (40, (0, 35)), (41, (0, 35)), (42, (2, 2)), (42, (3, 3)), (55, (2, 2))]
theorem ct_X11_duchy_0k (X : Int) (hX : 0 ≤ X ∧ X ≤ 100000000) (M0 : JM) (hH0 : HI X M0)  : JOk shp PJ 7 34 [.inr (.inr (.inl 0))] M0 (jRi (fun v M' => HI X M' ∧ Fr md_X11_duchy_0k M0 M' ∧ (-941) ≤ v ∧ v ≤ 900 ∧ (v = duS (uC M0) (M0.1 0 2)) ∧ (M'.1 0 2 = 0) ∧ (0 ≤ v → HC M' 5 (fnS (uC M0) (M0.1 0 2)) ∧ PIn (fnS (uC M0) (M0.1 0 2))) ∧ (v < 0 → ∀ σ : PSt, HC M0 5 σ → HC M' 5 σ) ∧ (LKs [7, 29] M0 M') ∧ (M'.1 0 3 = dkS (uC M0) (M0.1 0 2)))) := by
 refine ⟨jr_X11_duchy, pj_X11_duchy, fun F c1 c2 c3 => ?_⟩
 have hm := pj_X11_duchy
 change F 0 [some (.inr (.inr (.inl 0))), none] [] M0
 have hF0 : Fr md_X11_duchy_0k M0 M0 := Fr.rf _ _
 obtain ⟨z1, k2, lz1, uz1⟩ := hH0.ld (c := 0) (i := 2) (A := 0) (B := 940) (bs_18_1 _ _ (by omega) (by omega))
 refine jx_load c1 hm rfl rfl rfl rfl ?_
 refine jy_sp c1 hm rfl (by decide) ?_
 refine jv_v c3 hm rfl pj_X11_startTokens rfl rfl ⟨_, _, _, rfl, sh_0⟩ rfl (((ct_X11_startTokens_0p X (by omega) M0 hH0 900 ⟨by omega, by omega⟩).lkv (by decide +kernel) rfl).le (by decide)) (fun M5 ⟨⟨hH5, hR5, p3, p4⟩, hL5⟩ => ?_)
 have hF5 := hF0.tr hR5 (by decide +kernel)
 obtain ⟨z6, k7, lz6, uz6⟩ := hH5.ld (c := 1) (i := 12) (A := 0) (B := 4) (bs_19_8 _ _ (by omega) (by omega))
 obtain ⟨z8, k9, lz8, uz8⟩ := hH5.ld (c := 0) (i := 2) (A := 0) (B := 940) (bs_18_1 _ _ (by omega) (by omega))
 refine jx_load c1 hm rfl rfl rfl rfl ?_
 refine jx_getr c1 hm rfl sh_0 rfl ?_
 refine jx_load c1 hm rfl rfl rfl rfl ?_
 refine jx_getr c1 hm rfl sh_0 rfl ?_
 refine jv_i c3 hm rfl pj_X2_readLines rfl rfl ⟨_, _, _, rfl, sh_27⟩ rfl ((ct_X2_readLines_27_1k X (by omega) M5 hH5 ).le (by decide)) (fun z10 M16 ⟨hH16, hR16, lz10, uz10, p11, p12, p13, p14, p15⟩ => ?_)
 have hF16 := hF5.tr hR16 (by decide +kernel)
 obtain ⟨z17, k18, lz17, uz17⟩ := hH16.ld (c := 27) (i := 6) (A := (-1)) (B := 9) (bs_23_1 _ _ (by omega) (by omega))
 obtain ⟨z19, k20, lz19, uz19⟩ := hH16.ld (c := 27) (i := 7) (A := (-1)) (B := 9) (bs_23_1 _ _ (by omega) (by omega))
 obtain ⟨z21, k22, lz21, uz21⟩ := hH16.ld (c := 1) (i := 12) (A := 0) (B := 4) (bs_19_8 _ _ (by omega) (by omega))
 obtain ⟨z23, k24, lz23, uz23⟩ := hH16.ld (c := 1) (i := 13) (A := 0) (B := 940) (bs_19_9 _ _ (by omega) (by omega))
 refine jx_stor c1 hm (L' := [some (.inr (.inr (.inl 0))), some (.inl z10)]) rfl rfl rfl rfl rfl ?_
 refine jx_load c1 hm rfl rfl rfl rfl ?_
 refine jx_load c1 hm rfl rfl rfl rfl ?_
 refine jx_getr c1 hm rfl sh_0 rfl ?_
 refine jx_geti c1 hm rfl sh_1 rfl k22 ?_
 obtain ⟨M25, e25, hH25, hF25, k25, n25, q25⟩ := mup hH16 hF16 (c := 0) (i := 3) (v := z21) (A := (-2147483648)) (B := 2147483647) (bs_18_2 _ _ (by omega) (by omega)) ⟨by omega, by omega⟩ (jin_of 1 rfl ⟨by omega, by omega⟩)
 refine jm_puti c1 hm rfl sh_0 rfl e25 ?_
 refine jx_load c1 hm rfl rfl rfl rfl ?_
 refine jx_getr c1 hm rfl sh_0 rfl ?_
 have k26 : M25.1 1 12 = z21 := (n25 1 12 (fun h => absurd h.1 (by decide))).trans k22
 refine jx_geti c1 hm rfl sh_1 rfl k26 ?_
 refine jz_eq c1 hm 50 rfl rfl (fun h27 => ?_) (fun h27 => ?_)
 ·
  refine jx_load c1 hm rfl rfl rfl rfl ?_
  refine jx_getr c1 hm rfl sh_0 rfl ?_
  refine jx_load c1 hm rfl rfl rfl rfl ?_
  refine jx_getr c1 hm rfl sh_0 rfl ?_
  have k28 : M25.1 27 6 = z17 := (n25 27 6 (fun h => absurd h.1 (by decide))).trans k18
  have k29 : M25.1 27 7 = z19 := (n25 27 7 (fun h => absurd h.1 (by decide))).trans k20
  refine jv_v c3 hm rfl pj_X2_takeAll rfl rfl ⟨_, _, _, rfl, sh_5⟩ rfl ((ct_X2_takeAll_5_27n X (by omega) M25 hH25 (by omega)).le (by decide)) (fun M32 ⟨hH32, hR32, p30, p31⟩ => ?_)
  have hF32 := hF25.tr hR32 (by decide +kernel)
  refine jx_load c1 hm rfl rfl rfl rfl ?_
  refine jx_getr c1 hm rfl sh_0 rfl ?_
  refine jv_v c3 hm rfl pj_X4_forget rfl rfl ⟨_, _, _, rfl, sh_55⟩ rfl (((ct_X4_forget_55 X (by omega) M32 hH32 ).lkv (by decide +kernel) rfl).le (by decide)) (fun M33 ⟨⟨hH33, hR33⟩, hL33⟩ => ?_)
  have hF33 := hF32.tr hR33 (by decide +kernel)
  refine jx_load c1 hm rfl rfl rfl rfl ?_
  have k34 : M33.1 0 2 = z8 := (hR33 0 2 (by decide +kernel)).trans ((hR32 0 2 (by decide +kernel)).trans ((n25 0 2 (by decide)).trans ((hR16 0 2 (by decide +kernel)).trans k9)))
  have k35 : M33.1 0 3 = z21 := (hR33 0 3 (by decide +kernel)).trans ((hR32 0 3 (by decide +kernel)).trans k25)
  exact jx_reti c2 hm rfl rfl ⟨_, rfl, hH33, hF33, by omega, by omega, (by have y9 := p12 (uC M0, (M0.1 0 2, 900)) rfl (by show M0.1 0 2 ≤ 940; omega) (by show 0 ≤ M0.1 0 2; omega) p3.1 p3.2; show _ = allS (uC M0, (M0.1 0 2, 900)) 1000 0 st0; omega), (by omega), (fun _ => by have y9 := p13 (uC M0, (M0.1 0 2, 900)) rfl (by show M0.1 0 2 ≤ 940; omega) (by show 0 ≤ M0.1 0 2; omega) p3.1 p3.2 (by omega); exact ⟨HC.cp (p30 _ (HC.cp y9.1 (fun j _ => (n25 28 j (fun h => absurd h.1 (by decide)))) (fun k _ => (q25 29 k)))) (fun j _ => (hR33 6 j rfl)) (fun k _ => (hL33 7 k (by decide +kernel))), y9.2⟩), (fun y => absurd y (by omega)), ((((((LKs.rf [7, 29] M0).lk hL5).tr p14 rfl).eq q25).tr p31 rfl).lk hL33), (by have y9 := p15 (uC M0, (M0.1 0 2, 900)) rfl (by show M0.1 0 2 ≤ 940; omega) (by show 0 ≤ M0.1 0 2; omega) p3.1 p3.2; show _ = allK (uC M0, (M0.1 0 2, 900)) 1000 st0; omega)⟩
 refine jy_ic c1 hm rfl (by decide) ?_
 refine jx_load c1 hm rfl rfl rfl rfl ?_
 refine jx_getr c1 hm rfl sh_0 rfl ?_
 have k36 : M25.1 1 13 = z23 := (n25 1 13 (fun h => absurd h.1 (by decide))).trans k24
 refine jx_geti c1 hm rfl sh_1 rfl k36 ?_
 refine jy_sub c1 hm (-z23 - 1) rfl (by omega) ?_
 have k37 : M25.1 0 2 = z8 := (n25 0 2 (by decide)).trans ((hR16 0 2 (by decide +kernel)).trans k9)
 exact jx_reti c2 hm rfl rfl ⟨_, rfl, hH25, hF25, by omega, by omega, (by have y9 := p12 (uC M0, (M0.1 0 2, 900)) rfl (by show M0.1 0 2 ≤ 940; omega) (by show 0 ≤ M0.1 0 2; omega) p3.1 p3.2; show _ = allS (uC M0, (M0.1 0 2, 900)) 1000 0 st0; omega), (by omega), (fun y => absurd y (by omega)), (fun _ σ hσ => HC.cp hσ (fun j _ => (((n25 6 j (fun h => absurd h.1 (by decide))).trans (hR16 6 j rfl)).trans (hR5 6 j rfl))) (fun k _ => (((q25 7 k).trans (p14 7 k (by decide +kernel) rfl)).trans (hL5 7 k (by decide +kernel))))), ((((LKs.rf [7, 29] M0).lk hL5).tr p14 rfl).eq q25), (by have y9 := p15 (uC M0, (M0.1 0 2, 900)) rfl (by show M0.1 0 2 ≤ 940; omega) (by show 0 ≤ M0.1 0 2; omega) p3.1 p3.2; show _ = allK (uC M0, (M0.1 0 2, 900)) 1000 st0; omega)⟩
