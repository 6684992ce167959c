/-! Contracts that tell the names of a Duchy (by wip/q/wlk.py). -/
def md_X2_readLines_27_1n : List (Nat × (Nat × Nat)) := [(1, (4, 4)), (1, (5, 5)), (1, (6, 6)), (1, (7, 7)), (1, (9, 9)), (1, (11, 11)), (1, (12, 12)), (1, (13, 13)), (27, (6, 6)), (27, (7, 7)), (28, (0, 2)), (30, (0, 5)), (31, (0, 5)), (32, (0, 35)), (33, (0, 5)), (34, (7, 7)), (35, (0, 5)), (36, (0, 5)), (37, (0, 5)), (38, (0, 5)), (39, (0, 35)), (40, (0, 35)), (41, (0, 35)), (42, (2, 2)), (42, (3, 3))]
theorem ct_X2_readLines_27_1n (X : Int) (hX : 0 ≤ X ∧ X ≤ 100000000) (M0 : JM) (hH0 : HI X M0)  : JOk shp PJ 6 225 [.inr (.inr (.inl 27)), .inr (.inr (.inl 1))] M0 (jRi (fun v M' => HI X M' ∧ Fr md_X2_readLines_27_1n M0 M' ∧ 0 ≤ v ∧ v ≤ 900 ∧ (0 ≤ M'.1 27 6 ∧ 0 ≤ M'.1 27 7) ∧ (∀ t : TXT, t.2.2 = 900 → t.2.1 ≤ 940 → 0 ≤ t.2.1 → CTk M0 t 0 → M0.1 1 12 = 0 → (M'.1 1 12 = 0 ∧ v = allS t 1000 0 st0) ∨ (M'.1 1 12 ≠ 0 ∧ -1 - M'.1 1 13 = allS t 1000 0 st0)) ∧ (∀ t : TXT, t.2.2 = 900 → t.2.1 ≤ 940 → 0 ≤ t.2.1 → CTk M0 t 0 → M0.1 1 12 = 0 → M'.1 1 12 = 0 → HC M' 27 (allQ t 1000 st0) ∧ PIn (allQ t 1000 st0)) ∧ (LKs [29] M0 M'))) := by
 refine ⟨jr_X2_readLines, pj_X2_readLines, fun F c1 c2 c3 => ?_⟩
 have hm := pj_X2_readLines
 change F 0 [some (.inr (.inr (.inl 27))), some (.inr (.inr (.inl 1))), none, none] [] M0
 have hF0 : Fr md_X2_readLines_27_1n M0 M0 := Fr.rf _ _
 obtain ⟨z1, k2, lz1, uz1⟩ := hH0.ld (c := 1) (i := 12) (A := 0) (B := 4) (bs_19_8 _ _ (by omega) (by omega))
 obtain ⟨z3, k4, lz3, uz3⟩ := hH0.ld (c := 1) (i := 6) (A := 0) (B := 4) (bs_19_4 _ _ (by omega) (by omega))
 refine jx_load c1 hm rfl rfl rfl rfl ?_
 refine jv_v c3 hm rfl pj_X2_clear rfl rfl ⟨_, _, _, rfl, sh_27⟩ rfl (((ct_X2_clear_27p X (by omega) M0 hH0 ).lkv (by decide +kernel) rfl).le (by decide)) (fun M7 ⟨⟨hH7, hR7, p5, p6⟩, hL7⟩ => ?_)
 have hF7 := hF0.tr hR7 (by decide +kernel)
 refine jy_ic c1 hm rfl (by decide) ?_
 refine jx_stor c1 hm (L' := [some (.inr (.inr (.inl 27))), some (.inr (.inr (.inl 1))), some (.inl 0), none]) rfl rfl rfl rfl rfl ?_
 refine jy_ic c1 hm rfl (by decide) ?_
 refine jx_stor c1 hm (L' := [some (.inr (.inr (.inl 27))), some (.inr (.inr (.inl 1))), some (.inl 0), some (.inl 0)]) rfl rfl rfl rfl rfl ?_
 have W15 : ∀ (n16 : Nat) (b8 : Int) (hb8 : 0 ≤ b8 ∧ b8 ≤ 2147483647) (b9 : Int) (hb9 : 0 ≤ b9 ∧ b9 ≤ 900) (M10 : JM) (hH10 : HI (X) M10) (hF10 : Fr md_X2_readLines_27_1n M0 M10) (h11 : b8 ≤ b9) (hrl : ∀ t : TXT, t.2.2 = 900 → t.2.1 ≤ 940 → 0 ≤ t.2.1 → CTk M0 t 0 → M0.1 1 12 = 0 → RLn t M10 b8 b9) (hrf : ∀ t : TXT, t.2.2 = 900 → t.2.1 ≤ 940 → 0 ≤ t.2.1 → CTk M0 t 0 → M0.1 1 12 = 0 → RLF t M10 b9) (hlx : LKs [29] M0 M10), (-b9 + 900) < (n16 : Int) → F 8 [some (.inr (.inr (.inl 27))), some (.inr (.inr (.inl 1))), some (.inl b8), some (.inl b9)] [] M10 := by
  intro n16
  induction n16 with
  | zero => intros; omega
  | succ n16 ihW15 =>
   intro b8 hb8 b9 hb9 M10 hH10 hF10 h11 hrl hrf hlx hrW15
   refine jx_load c1 hm rfl rfl rfl rfl ?_
   refine jy_sp c1 hm rfl (by decide) ?_
   refine jc_ge c1 hm 55 rfl rfl (fun h17 => ?_) (fun h17 => ?_)
   ·
    refine jx_load c1 hm rfl rfl rfl rfl ?_
    refine jv_v c3 hm rfl pj_X2_fillWhatWasNotTold rfl rfl ⟨_, _, _, rfl, sh_27⟩ rfl (((ct_X2_fillWhatWasNotTold_27 X (by omega) M10 hH10 ).lkv (by decide +kernel) rfl).le (by decide)) (fun M19 ⟨⟨hH19, hR19, p18⟩, hL19⟩ => ?_)
    have hF19 := hF10.tr hR19 (by decide +kernel)
    obtain ⟨z20, k21, lz20, uz20⟩ := hH19.ld (c := 27) (i := 6) (A := (-1)) (B := 9) (bs_23_1 _ _ (by omega) (by omega))
    obtain ⟨z22, k23, lz22, uz22⟩ := hH19.ld (c := 27) (i := 7) (A := (-1)) (B := 9) (bs_23_1 _ _ (by omega) (by omega))
    refine jx_load c1 hm rfl rfl rfl rfl ?_
    obtain ⟨z24, k25, lz24, uz24⟩ := hH19.ld (c := 1) (i := 12) (A := 0) (B := 4) (bs_19_8 _ _ (by omega) (by omega))
    obtain ⟨z26, k27, lz26, uz26⟩ := hH19.ld (c := 1) (i := 13) (A := 0) (B := 940) (bs_19_9 _ _ (by omega) (by omega))
    exact jx_reti c2 hm rfl rfl ⟨_, rfl, hH19, hF19, by omega, by omega, (by omega), (fun t a1 a2 a3 a4 a5 => RLn.fin (hrl t a1 a2 a3 a4 a5) (by omega) (by omega) (hR19 1 12 rfl) (hR19 1 13 rfl)), (fun t a1 a2 a3 a4 a5 => RLF.fin (hrf t a1 a2 a3 a4 a5) (by omega) (by omega) (hR19 1 12 rfl) (fun s => hR19 28 s rfl) hL19), (hlx.lk hL19)⟩
   refine jx_load c1 hm rfl rfl rfl rfl ?_
   obtain ⟨z28, k29, lz28, uz28⟩ := hH10.ld (c := 1) (i := 12) (A := 0) (B := 4) (bs_19_8 _ _ (by omega) (by omega))
   refine jx_geti c1 hm rfl sh_1 rfl k29 ?_
   refine jz_ne c1 hm 55 rfl rfl (fun h30 => ?_) (fun h30 => ?_)
   ·
    refine jx_load c1 hm rfl rfl rfl rfl ?_
    refine jv_v c3 hm rfl pj_X2_fillWhatWasNotTold rfl rfl ⟨_, _, _, rfl, sh_27⟩ rfl (((ct_X2_fillWhatWasNotTold_27 X (by omega) M10 hH10 ).lkv (by decide +kernel) rfl).le (by decide)) (fun M32 ⟨⟨hH32, hR32, p31⟩, hL32⟩ => ?_)
    have hF32 := hF10.tr hR32 (by decide +kernel)
    obtain ⟨z33, k34, lz33, uz33⟩ := hH32.ld (c := 27) (i := 6) (A := (-1)) (B := 9) (bs_23_1 _ _ (by omega) (by omega))
    obtain ⟨z35, k36, lz35, uz35⟩ := hH32.ld (c := 27) (i := 7) (A := (-1)) (B := 9) (bs_23_1 _ _ (by omega) (by omega))
    refine jx_load c1 hm rfl rfl rfl rfl ?_
    have k37 : M32.1 1 12 = z28 := (hR32 1 12 (by decide +kernel)).trans k29
    obtain ⟨z38, k39, lz38, uz38⟩ := hH32.ld (c := 1) (i := 13) (A := 0) (B := 940) (bs_19_9 _ _ (by omega) (by omega))
    exact jx_reti c2 hm rfl rfl ⟨_, rfl, hH32, hF32, by omega, by omega, (by omega), (fun t a1 a2 a3 a4 a5 => RLn.fin (hrl t a1 a2 a3 a4 a5) (by omega) (by omega) (hR32 1 12 rfl) (hR32 1 13 rfl)), (fun t a1 a2 a3 a4 a5 => RLF.fin (hrf t a1 a2 a3 a4 a5) (by omega) (by omega) (hR32 1 12 rfl) (fun s => hR32 28 s rfl) hL32), (hlx.lk hL32)⟩
   refine jx_load c1 hm rfl rfl rfl rfl ?_
   obtain ⟨z40, k41, lz40, uz40⟩ := hH10.ld (c := 1) (i := 6) (A := 0) (B := 4) (bs_19_4 _ _ (by omega) (by omega))
   refine jx_geti c1 hm rfl sh_1 rfl k41 ?_
   refine jz_eq c1 hm 55 rfl rfl (fun h42 => ?_) (fun h42 => ?_)
   ·
    refine jx_load c1 hm rfl rfl rfl rfl ?_
    refine jv_v c3 hm rfl pj_X2_fillWhatWasNotTold rfl rfl ⟨_, _, _, rfl, sh_27⟩ rfl (((ct_X2_fillWhatWasNotTold_27 X (by omega) M10 hH10 ).lkv (by decide +kernel) rfl).le (by decide)) (fun M44 ⟨⟨hH44, hR44, p43⟩, hL44⟩ => ?_)
    have hF44 := hF10.tr hR44 (by decide +kernel)
    obtain ⟨z45, k46, lz45, uz45⟩ := hH44.ld (c := 27) (i := 6) (A := (-1)) (B := 9) (bs_23_1 _ _ (by omega) (by omega))
    obtain ⟨z47, k48, lz47, uz47⟩ := hH44.ld (c := 27) (i := 7) (A := (-1)) (B := 9) (bs_23_1 _ _ (by omega) (by omega))
    refine jx_load c1 hm rfl rfl rfl rfl ?_
    have k49 : M44.1 1 12 = z28 := (hR44 1 12 (by decide +kernel)).trans k29
    obtain ⟨z50, k51, lz50, uz50⟩ := hH44.ld (c := 1) (i := 13) (A := 0) (B := 940) (bs_19_9 _ _ (by omega) (by omega))
    exact jx_reti c2 hm rfl rfl ⟨_, rfl, hH44, hF44, by omega, by omega, (by omega), (fun t a1 a2 a3 a4 a5 => RLn.fin (hrl t a1 a2 a3 a4 a5) (by omega) (by omega) (hR44 1 12 rfl) (hR44 1 13 rfl)), (fun t a1 a2 a3 a4 a5 => RLF.fin (hrf t a1 a2 a3 a4 a5) (by omega) (by omega) (hR44 1 12 rfl) (fun s => hR44 28 s rfl) hL44), (hlx.lk hL44)⟩
   refine jx_load c1 hm rfl rfl rfl rfl ?_
   refine jx_load c1 hm rfl rfl rfl rfl ?_
   refine jv_i c3 hm rfl pj_X2_readLine rfl rfl ⟨_, _, _, rfl, sh_27⟩ rfl ((ct_X2_readLine_27_1p X (by omega) M10 hH10 ).le (by decide)) (fun z52 M55 ⟨hH55, hR55, lz52, uz52, p53, p54⟩ => ?_)
   have hF55 := hF10.tr hR55 (by decide +kernel)
   refine jz_eq c1 hm 49 rfl rfl (fun h56 => ?_) (fun h56 => ?_)
   ·
    refine jx_iinc c1 hm (v := (b9 + 1)) (L' := [some (.inr (.inr (.inl 27))), some (.inr (.inr (.inl 1))), some (.inl b8), some (.inl (b9 + 1))]) rfl rfl (by omega) (by omega) rfl ?_
    refine jx_goto c1 hm 8 rfl rfl ?_
    exact ihW15 b8 (by omega) (b9 + 1) (by omega) M55 hH55 hF55 (by omega) (fun t a1 a2 a3 a4 a5 => RLn.no (hrl t a1 a2 a3 a4 a5) (by omega) (by omega) (by omega) (fun σ hσ => LRc.seqz (p53 t σ hσ) (by omega))) (fun t a1 a2 a3 a4 a5 => RLF.nol (hrf t a1 a2 a3 a4 a5) (by omega) (fun σ hσ => LRc.seqz (p53 t σ hσ) (by omega))) (LFr.lks hlx p54 (by decide +kernel)) (by omega)
   refine jx_load c1 hm rfl rfl rfl rfl ?_
   refine jy_bp c1 hm rfl (by decide) ?_
   refine jv_i c3 hm rfl pj_X10_takesSign rfl rfl ⟨_, _, _, rfl, sh_1⟩ rfl (((ct_X10_takesSign_1p X (by omega) M55 hH55 59 ⟨by omega, by omega⟩).lki (by decide +kernel) rfl).le (by decide)) (fun z57 M60 ⟨⟨hH60, hR60, lz57, uz57, p58, p59⟩, hL60⟩ => ?_)
   have hF60 := hF55.tr hR60 (by decide +kernel)
   refine jz_eq c1 hm 49 rfl rfl (fun h61 => ?_) (fun h61 => ?_)
   ·
    refine jx_iinc c1 hm (v := (b9 + 1)) (L' := [some (.inr (.inr (.inl 27))), some (.inr (.inr (.inl 1))), some (.inl b8), some (.inl (b9 + 1))]) rfl rfl (by omega) (by omega) rfl ?_
    refine jx_goto c1 hm 8 rfl rfl ?_
    exact ihW15 b8 (by omega) (b9 + 1) (by omega) M60 hH60 hF60 (by omega) (fun t a1 a2 a3 a4 a5 => RLn.no (hrl t a1 a2 a3 a4 a5) (by omega) (by omega) (by omega) (fun σ hσ => LRc.seqg (p53 t σ hσ) (by omega) (fun l1 h1 => LRc.z (p58 t _ h1) (by omega)))) (fun t a1 a2 a3 a4 a5 => RLF.nol (hrf t a1 a2 a3 a4 a5) (by omega) (fun σ hσ => LRc.seqg (p53 t σ hσ) (by omega) (fun l1 h1 => LRc.z (p58 t _ h1) (by omega)))) ((LFr.lks hlx p54 (by decide +kernel)).lk hL60) (by omega)
   refine jx_iinc c1 hm (v := (b8 + 1)) (L' := [some (.inr (.inr (.inl 27))), some (.inr (.inr (.inl 1))), some (.inl (b8 + 1)), some (.inl b9)]) rfl rfl (by omega) (by omega) rfl ?_
   refine jx_iinc c1 hm (v := (b9 + 1)) (L' := [some (.inr (.inr (.inl 27))), some (.inr (.inr (.inl 1))), some (.inl (b8 + 1)), some (.inl (b9 + 1))]) rfl rfl (by omega) (by omega) rfl ?_
   refine jx_goto c1 hm 8 rfl rfl ?_
   exact ihW15 (b8 + 1) (by omega) (b9 + 1) (by omega) M60 hH60 hF60 (by omega) (fun t a1 a2 a3 a4 a5 => RLn.go (hrl t a1 a2 a3 a4 a5) (by omega) (by omega) (by omega) (fun σ hσ => LRc.seqg (p53 t σ hσ) (by omega) (fun l1 h1 => LRc.u (p58 t _ h1) (by omega)))) (fun t a1 a2 a3 a4 a5 => RLF.go (hrf t a1 a2 a3 a4 a5) (by omega) (by omega) (by omega) (fun σ hσ => LRc.seqg (p53 t σ hσ) (by omega) (fun l1 h1 => LRc.u (p58 t _ h1) (by omega)))) ((LFr.lks hlx p54 (by decide +kernel)).lk hL60) (by omega)
 exact W15 (900 + 1 : Int).toNat 0 (by omega) 0 (by omega) M7 hH7 hF7 (by omega) (fun t a1 a2 a3 a4 a5 => RLn.start (CTk.cg a4 (fun j => hR7 2 j rfl) (fun i => hR7 1 i rfl) (fun i => p6 1 i rfl)) ((hR7 1 12 rfl).trans a5) p5 (PI.zero ⟨by omega, by omega⟩ (by omega))) (fun t a1 a2 a3 a4 a5 => RLF.start (CTk.cg a4 (fun j => hR7 2 j rfl) (fun i => hR7 1 i rfl) (fun i => p6 1 i rfl)) ((hR7 1 12 rfl).trans a5) p5 (PI.zero ⟨by omega, by omega⟩ (by omega))) ((LKs.rf [29] M0).lk hL7) (by omega)
def md_X11_copyRow_28_6n : List (Nat × (Nat × Nat)) := [(6, (0, 2))]
theorem ct_X11_copyRow_28_6n (X : Int) (hX : 0 ≤ X ∧ X ≤ 100000000) (M0 : JM) (hH0 : HI X M0)  : JOk shp PJ 1 29 [.inr (.inr (.inl 28)), .inr (.inr (.inl 6))] M0 (jRv (fun M' => HI X M' ∧ Fr md_X11_copyRow_28_6n M0 M' ∧ (∀ j : Nat, (j : Int) < 3 → M'.1 6 j = M0.1 28 j))) := by
 refine ⟨jr_X11_copyRow, pj_X11_copyRow, fun F c1 c2 c3 => ?_⟩
 have hm := pj_X11_copyRow
 change F 0 [some (.inr (.inr (.inl 28))), some (.inr (.inr (.inl 6)))] [] M0
 have hF0 : Fr md_X11_copyRow_28_6n M0 M0 := Fr.rf _ _
 refine jx_load c1 hm rfl rfl rfl rfl ?_
 refine jy_ic c1 hm rfl (by decide) ?_
 refine jx_load c1 hm rfl rfl rfl rfl ?_
 refine jy_ic c1 hm rfl (by decide) ?_
 refine jx_load c1 hm rfl rfl rfl rfl ?_
 refine jx_alen c1 hm (v := 3) rfl sh_28 rfl rfl ?_
 refine jx_load c1 hm rfl rfl rfl rfl ?_
 refine jx_alen c1 hm (v := 3) rfl sh_6 rfl rfl ?_
 refine jx_min c1 hm rfl rfl (fun z1 lz1 uz1 ez1 => ?_)
 obtain ⟨M2, e2, hH2, hF2, n2, _⟩ := mcp hH0 hF0 (c1 := 28) (c2 := 6) (n := z1) (fun _ _ => rfl) (fun j hj => jin_of 0 rfl ⟨by omega, by omega⟩)
 refine jm_acpi c1 hm rfl rfl sh_28 sh_6 ⟨by omega, by omega, by omega⟩ e2 ?_
 exact jx_retv c2 hm rfl rfl ⟨rfl, hH2, hF2, (fun j hj => cp_at e2 (by omega))⟩
def md_X2_takeAll_5_27n : List (Nat × (Nat × Nat)) := [(5, (6, 6)), (5, (7, 7)), (6, (0, 2)), (7, (0, 17)), (8, (0, 5)), (10, (0, 35)), (11, (0, 5)), (12, (7, 7)), (13, (0, 5)), (14, (0, 5)), (15, (0, 5)), (16, (0, 5)), (17, (0, 35)), (18, (0, 35)), (19, (0, 35)), (20, (2, 2)), (20, (3, 3)), (21, (0, 39))]
theorem ct_X2_takeAll_5_27n (X : Int) (hX : 0 ≤ X ∧ X ≤ 100000000) (M0 : JM) (hH0 : HI X M0) (hp0 : 0 ≤ M0.1 27 6 ∧ 0 ≤ M0.1 27 7) : JOk shp PJ 3 231 [.inr (.inr (.inl 5)), .inr (.inr (.inl 27))] M0 (jRv (fun M' => HI X M' ∧ Fr md_X2_takeAll_5_27n M0 M' ∧ (∀ σ : PSt, HC M0 27 σ → HC M' 5 σ) ∧ (LKs [7] M0 M'))) := by
 refine ⟨jr_X2_takeAll, pj_X2_takeAll, fun F c1 c2 c3 => ?_⟩
 have hm := pj_X2_takeAll
 change F 0 [some (.inr (.inr (.inl 5))), some (.inr (.inr (.inl 27)))] [] M0
 have hF0 : Fr md_X2_takeAll_5_27n M0 M0 := Fr.rf _ _
 obtain ⟨z1, k2, lz1, uz1⟩ := hH0.ld (c := 27) (i := 6) (A := (-1)) (B := 9) (bs_23_1 _ _ (by omega) (by omega))
 obtain ⟨z3, k4, lz3, uz3⟩ := hH0.ld (c := 27) (i := 7) (A := (-1)) (B := 9) (bs_23_1 _ _ (by omega) (by omega))
 refine jx_load c1 hm rfl rfl rfl rfl ?_
 refine jx_getr c1 hm rfl sh_27 rfl ?_
 refine jx_load c1 hm rfl rfl rfl rfl ?_
 refine jx_getr c1 hm rfl sh_5 rfl ?_
 refine jt_v c3 hm rfl rfl pj_X11_copyRow rfl rfl rfl (((ct_X11_copyRow_28_6n X (by omega) M0 hH0 ).lkv (by decide +kernel) rfl).le (by decide)) (fun M6 ⟨⟨hH6, hR6, p5⟩, hL6⟩ => ?_)
 have hF6 := hF0.tr hR6 (by decide +kernel)
 refine jx_load c1 hm rfl rfl rfl rfl ?_
 refine jx_getr c1 hm rfl sh_27 rfl ?_
 refine jy_ic c1 hm rfl (by decide) ?_
 refine jx_load c1 hm rfl rfl rfl rfl ?_
 refine jx_getr c1 hm rfl sh_5 rfl ?_
 refine jy_ic c1 hm rfl (by decide) ?_
 refine jy_bp c1 hm rfl (by decide) ?_
 obtain ⟨M7, e7, hH7, hF7, n7⟩ := mcl hH6 hF6 (c1 := 29) (c2 := 7) (n := 18) rfl
 refine jm_acpl c1 hm rfl rfl sh_29 sh_7 ⟨by omega, by omega, by omega⟩ e7 ?_
 refine jx_load c1 hm rfl rfl rfl rfl ?_
 refine jx_getr c1 hm rfl sh_27 rfl ?_
 refine jx_load c1 hm rfl rfl rfl rfl ?_
 refine jx_getr c1 hm rfl sh_5 rfl ?_
 refine jt_v c3 hm rfl rfl pj_X11_copyRow rfl rfl rfl (((ct_X11_copyRow_30_8 X (by omega) M7 hH7 ).lkv (by decide +kernel) rfl).le (by decide)) (fun M8 ⟨⟨hH8, hR8⟩, hL8⟩ => ?_)
 have hF8 := hF7.tr hR8 (by decide +kernel)
 refine jx_load c1 hm rfl rfl rfl rfl ?_
 refine jx_getr c1 hm rfl sh_27 rfl ?_
 refine jx_load c1 hm rfl rfl rfl rfl ?_
 refine jx_getr c1 hm rfl sh_5 rfl ?_
 refine jt_v c3 hm rfl rfl pj_X11_copyRow rfl rfl rfl (((ct_X11_copyRow_32_10 X (by omega) M8 hH8 ).lkv (by decide +kernel) rfl).le (by decide)) (fun M9 ⟨⟨hH9, hR9⟩, hL9⟩ => ?_)
 have hF9 := hF8.tr hR9 (by decide +kernel)
 refine jx_load c1 hm rfl rfl rfl rfl ?_
 refine jx_getr c1 hm rfl sh_27 rfl ?_
 refine jx_load c1 hm rfl rfl rfl rfl ?_
 refine jx_getr c1 hm rfl sh_5 rfl ?_
 refine jt_v c3 hm rfl rfl pj_X11_copyRow rfl rfl rfl (((ct_X11_copyRow_33_11 X (by omega) M9 hH9 ).lkv (by decide +kernel) rfl).le (by decide)) (fun M10 ⟨⟨hH10, hR10⟩, hL10⟩ => ?_)
 have hF10 := hF9.tr hR10 (by decide +kernel)
 refine jx_load c1 hm rfl rfl rfl rfl ?_
 refine jx_load c1 hm rfl rfl rfl rfl ?_
 have k11 : M10.1 27 6 = z1 := (hR10 27 6 (by decide +kernel)).trans ((hR9 27 6 (by decide +kernel)).trans ((hR8 27 6 (by decide +kernel)).trans ((n7 27 6).trans ((hR6 27 6 (by decide +kernel)).trans k2))))
 refine jx_geti c1 hm rfl sh_27 rfl k11 ?_
 obtain ⟨M12, e12, hH12, hF12, k12, n12, q12⟩ := mup hH10 hF10 (c := 5) (i := 6) (v := z1) (A := 0) (B := 9) (bs_20_1 _ _ (by omega) (by omega)) ⟨by omega, by omega⟩ (jin_of 0 rfl ⟨by omega, by omega⟩)
 refine jm_puti c1 hm rfl sh_5 rfl e12 ?_
 refine jx_load c1 hm rfl rfl rfl rfl ?_
 refine jx_load c1 hm rfl rfl rfl rfl ?_
 have k13 : M12.1 27 7 = z3 := (n12 27 7 (fun h => absurd h.1 (by decide))).trans ((hR10 27 7 (by decide +kernel)).trans ((hR9 27 7 (by decide +kernel)).trans ((hR8 27 7 (by decide +kernel)).trans ((n7 27 7).trans ((hR6 27 7 (by decide +kernel)).trans k4)))))
 refine jx_geti c1 hm rfl sh_27 rfl k13 ?_
 obtain ⟨M14, e14, hH14, hF14, k14, n14, q14⟩ := mup hH12 hF12 (c := 5) (i := 7) (v := z3) (A := 0) (B := 9) (bs_20_1 _ _ (by omega) (by omega)) ⟨by omega, by omega⟩ (jin_of 1 rfl ⟨by omega, by omega⟩)
 refine jm_puti c1 hm rfl sh_5 rfl e14 ?_
 refine jx_load c1 hm rfl rfl rfl rfl ?_
 refine jx_getr c1 hm rfl sh_5 rfl ?_
 refine jx_load c1 hm rfl rfl rfl rfl ?_
 refine jx_getr c1 hm rfl sh_27 rfl ?_
 refine jv_v c3 hm rfl pj_X8_takeAll rfl rfl ⟨_, _, _, rfl, sh_12⟩ rfl (((ct_X8_takeAll_12_34 X (by omega) M14 hH14 ).lkv (by decide +kernel) rfl).le (by decide)) (fun M15 ⟨⟨hH15, hR15⟩, hL15⟩ => ?_)
 have hF15 := hF14.tr hR15 (by decide +kernel)
 refine jx_load c1 hm rfl rfl rfl rfl ?_
 refine jx_getr c1 hm rfl sh_5 rfl ?_
 refine jx_load c1 hm rfl rfl rfl rfl ?_
 refine jx_getr c1 hm rfl sh_27 rfl ?_
 refine jv_v c3 hm rfl pj_X7_takeAll rfl rfl ⟨_, _, _, rfl, sh_20⟩ rfl (((ct_X7_takeAll_20_42 X (by omega) M15 hH15 ).lkv (by decide +kernel) rfl).le (by decide)) (fun M16 ⟨⟨hH16, hR16⟩, hL16⟩ => ?_)
 have hF16 := hF15.tr hR16 (by decide +kernel)
 exact jx_retv c2 hm rfl rfl ⟨rfl, hH16, hF16, (fun σ hσ => HC.cp hσ (fun j hj => (((((((((hR16 6 j rfl).trans (hR15 6 j rfl)).trans (n14 6 j (fun h => absurd h.1 (by decide)))).trans (n12 6 j (fun h => absurd h.1 (by decide)))).trans (hR10 6 j rfl)).trans (hR9 6 j rfl)).trans (hR8 6 j rfl)).trans (n7 6 j)).trans (p5 j hj))) (fun k hk => (((((((((hL16 7 k (by decide +kernel)).trans (hL15 7 k (by decide +kernel))).trans (q14 7 k)).trans (q12 7 k)).trans (hL10 7 k (by decide +kernel))).trans (hL9 7 k (by decide +kernel))).trans (hL8 7 k (by decide +kernel))).trans (cpl_at e7 hk)).trans (hL6 29 k (by decide +kernel))))), ((((((((((LKs.rf [7] M0).lk hL6).cpl e7 rfl).lk hL8).lk hL9).lk hL10).eq q12).eq q14).lk hL15).lk hL16)⟩
def md_X11_duchy_0n : List (Nat × (Nat × Nat)) := [(0, (2, 2)), (0, (3, 3)), (1, (2, 2)), (1, (3, 3)), (1, (4, 4)), (1, (5, 5)), (1, (6, 6)), (1, (7, 7)), (1, (9, 9)), (1, (11, 11)), (1, (12, 12)), (1, (13, 13)), (5, (6, 6)), (5, (7, 7)), (6, (0, 2)), (7, (0, 17)), (8, (0, 5)), (10, (0, 35)), (11, (0, 5)), (12, (7, 7)), (13, (0, 5)), (14, (0, 5)), (15, (0, 5)), (16, (0, 5)), (17, (0, 35)), (18, (0, 35)), (19, (0, 35)), (20, (2, 2)), (20, (3, 3)), (21, (0, 39)), (27, (6, 6)), (27, (7, 7)), (28, (0, 2)), (30, (0, 5)), (31, (0, 5)), (32, (0, 35)), (33, (0, 5)), (34, (7, 7)), (35, (0, 5)), (36, (0, 5)), (37, (0, 5)), (38, (0, 5)), (39, (0, 35)), (40, (0, 35)), (41, (0, 35)), (42, (2, 2)), (42, (3, 3)), (55, (2, 2))]
theorem ct_X11_duchy_0n (X : Int) (hX : 0 ≤ X ∧ X ≤ 100000000) (M0 : JM) (hH0 : HI X M0)  : JOk shp PJ 7 34 [.inr (.inr (.inl 0))] M0 (jRi (fun v M' => HI X M' ∧ Fr md_X11_duchy_0n M0 M' ∧ (-941) ≤ v ∧ v ≤ 900 ∧ (v = duS (uC M0) (M0.1 0 2)) ∧ (M'.1 0 2 = 0) ∧ (0 ≤ v → HC M' 5 (fnS (uC M0) (M0.1 0 2)) ∧ PIn (fnS (uC M0) (M0.1 0 2))) ∧ (v < 0 → ∀ σ : PSt, HC M0 5 σ → HC M' 5 σ) ∧ (LKs [7, 29] M0 M'))) := by
 refine ⟨jr_X11_duchy, pj_X11_duchy, fun F c1 c2 c3 => ?_⟩
 have hm := pj_X11_duchy
 change F 0 [some (.inr (.inr (.inl 0))), none] [] M0
 have hF0 : Fr md_X11_duchy_0n M0 M0 := Fr.rf _ _
 obtain ⟨z1, k2, lz1, uz1⟩ := hH0.ld (c := 0) (i := 2) (A := 0) (B := 940) (bs_18_1 _ _ (by omega) (by omega))
 refine jx_load c1 hm rfl rfl rfl rfl ?_
 refine jy_sp c1 hm rfl (by decide) ?_
 refine jv_v c3 hm rfl pj_X11_startTokens rfl rfl ⟨_, _, _, rfl, sh_0⟩ rfl (((ct_X11_startTokens_0p X (by omega) M0 hH0 900 ⟨by omega, by omega⟩).lkv (by decide +kernel) rfl).le (by decide)) (fun M5 ⟨⟨hH5, hR5, p3, p4⟩, hL5⟩ => ?_)
 have hF5 := hF0.tr hR5 (by decide +kernel)
 obtain ⟨z6, k7, lz6, uz6⟩ := hH5.ld (c := 1) (i := 12) (A := 0) (B := 4) (bs_19_8 _ _ (by omega) (by omega))
 obtain ⟨z8, k9, lz8, uz8⟩ := hH5.ld (c := 0) (i := 2) (A := 0) (B := 940) (bs_18_1 _ _ (by omega) (by omega))
 refine jx_load c1 hm rfl rfl rfl rfl ?_
 refine jx_getr c1 hm rfl sh_0 rfl ?_
 refine jx_load c1 hm rfl rfl rfl rfl ?_
 refine jx_getr c1 hm rfl sh_0 rfl ?_
 refine jv_i c3 hm rfl pj_X2_readLines rfl rfl ⟨_, _, _, rfl, sh_27⟩ rfl ((ct_X2_readLines_27_1n X (by omega) M5 hH5 ).le (by decide)) (fun z10 M15 ⟨hH15, hR15, lz10, uz10, p11, p12, p13, p14⟩ => ?_)
 have hF15 := hF5.tr hR15 (by decide +kernel)
 obtain ⟨z16, k17, lz16, uz16⟩ := hH15.ld (c := 27) (i := 6) (A := (-1)) (B := 9) (bs_23_1 _ _ (by omega) (by omega))
 obtain ⟨z18, k19, lz18, uz18⟩ := hH15.ld (c := 27) (i := 7) (A := (-1)) (B := 9) (bs_23_1 _ _ (by omega) (by omega))
 obtain ⟨z20, k21, lz20, uz20⟩ := hH15.ld (c := 1) (i := 12) (A := 0) (B := 4) (bs_19_8 _ _ (by omega) (by omega))
 obtain ⟨z22, k23, lz22, uz22⟩ := hH15.ld (c := 1) (i := 13) (A := 0) (B := 940) (bs_19_9 _ _ (by omega) (by omega))
 refine jx_stor c1 hm (L' := [some (.inr (.inr (.inl 0))), some (.inl z10)]) rfl rfl rfl rfl rfl ?_
 refine jx_load c1 hm rfl rfl rfl rfl ?_
 refine jx_load c1 hm rfl rfl rfl rfl ?_
 refine jx_getr c1 hm rfl sh_0 rfl ?_
 refine jx_geti c1 hm rfl sh_1 rfl k21 ?_
 obtain ⟨M24, e24, hH24, hF24, k24, n24, q24⟩ := mup hH15 hF15 (c := 0) (i := 3) (v := z20) (A := (-2147483648)) (B := 2147483647) (bs_18_2 _ _ (by omega) (by omega)) ⟨by omega, by omega⟩ (jin_of 1 rfl ⟨by omega, by omega⟩)
 refine jm_puti c1 hm rfl sh_0 rfl e24 ?_
 refine jx_load c1 hm rfl rfl rfl rfl ?_
 refine jx_getr c1 hm rfl sh_0 rfl ?_
 have k25 : M24.1 1 12 = z20 := (n24 1 12 (fun h => absurd h.1 (by decide))).trans k21
 refine jx_geti c1 hm rfl sh_1 rfl k25 ?_
 refine jz_eq c1 hm 50 rfl rfl (fun h26 => ?_) (fun h26 => ?_)
 ·
  refine jx_load c1 hm rfl rfl rfl rfl ?_
  refine jx_getr c1 hm rfl sh_0 rfl ?_
  refine jx_load c1 hm rfl rfl rfl rfl ?_
  refine jx_getr c1 hm rfl sh_0 rfl ?_
  have k27 : M24.1 27 6 = z16 := (n24 27 6 (fun h => absurd h.1 (by decide))).trans k17
  have k28 : M24.1 27 7 = z18 := (n24 27 7 (fun h => absurd h.1 (by decide))).trans k19
  refine jv_v c3 hm rfl pj_X2_takeAll rfl rfl ⟨_, _, _, rfl, sh_5⟩ rfl ((ct_X2_takeAll_5_27n X (by omega) M24 hH24 (by omega)).le (by decide)) (fun M31 ⟨hH31, hR31, p29, p30⟩ => ?_)
  have hF31 := hF24.tr hR31 (by decide +kernel)
  refine jx_load c1 hm rfl rfl rfl rfl ?_
  refine jx_getr c1 hm rfl sh_0 rfl ?_
  refine jv_v c3 hm rfl pj_X4_forget rfl rfl ⟨_, _, _, rfl, sh_55⟩ rfl (((ct_X4_forget_55 X (by omega) M31 hH31 ).lkv (by decide +kernel) rfl).le (by decide)) (fun M32 ⟨⟨hH32, hR32⟩, hL32⟩ => ?_)
  have hF32 := hF31.tr hR32 (by decide +kernel)
  refine jx_load c1 hm rfl rfl rfl rfl ?_
  have k33 : M32.1 0 2 = z8 := (hR32 0 2 (by decide +kernel)).trans ((hR31 0 2 (by decide +kernel)).trans ((n24 0 2 (by decide)).trans ((hR15 0 2 (by decide +kernel)).trans k9)))
  exact jx_reti c2 hm rfl rfl ⟨_, rfl, hH32, hF32, by omega, by omega, (by have y9 := p12 (uC M0, (M0.1 0 2, 900)) rfl (by show M0.1 0 2 ≤ 940; omega) (by show 0 ≤ M0.1 0 2; omega) p3.1 p3.2; show _ = allS (uC M0, (M0.1 0 2, 900)) 1000 0 st0; omega), (by omega), (fun _ => by have y9 := p13 (uC M0, (M0.1 0 2, 900)) rfl (by show M0.1 0 2 ≤ 940; omega) (by show 0 ≤ M0.1 0 2; omega) p3.1 p3.2 (by omega); exact ⟨HC.cp (p29 _ (HC.cp y9.1 (fun j _ => (n24 28 j (fun h => absurd h.1 (by decide)))) (fun k _ => (q24 29 k)))) (fun j _ => (hR32 6 j rfl)) (fun k _ => (hL32 7 k (by decide +kernel))), y9.2⟩), (fun y => absurd y (by omega)), ((((((LKs.rf [7, 29] M0).lk hL5).tr p14 rfl).eq q24).tr p30 rfl).lk hL32)⟩
 refine jy_ic c1 hm rfl (by decide) ?_
 refine jx_load c1 hm rfl rfl rfl rfl ?_
 refine jx_getr c1 hm rfl sh_0 rfl ?_
 have k34 : M24.1 1 13 = z22 := (n24 1 13 (fun h => absurd h.1 (by decide))).trans k23
 refine jx_geti c1 hm rfl sh_1 rfl k34 ?_
 refine jy_sub c1 hm (-z22 - 1) rfl (by omega) ?_
 have k35 : M24.1 0 2 = z8 := (n24 0 2 (by decide)).trans ((hR15 0 2 (by decide +kernel)).trans k9)
 exact jx_reti c2 hm rfl rfl ⟨_, rfl, hH24, hF24, by omega, by omega, (by have y9 := p12 (uC M0, (M0.1 0 2, 900)) rfl (by show M0.1 0 2 ≤ 940; omega) (by show 0 ≤ M0.1 0 2; omega) p3.1 p3.2; show _ = allS (uC M0, (M0.1 0 2, 900)) 1000 0 st0; omega), (by omega), (fun y => absurd y (by omega)), (fun _ σ hσ => HC.cp hσ (fun j _ => (((n24 6 j (fun h => absurd h.1 (by decide))).trans (hR15 6 j rfl)).trans (hR5 6 j rfl))) (fun k _ => (((q24 7 k).trans (p14 7 k (by decide +kernel) rfl)).trans (hL5 7 k (by decide +kernel))))), ((((LKs.rf [7, 29] M0).lk hL5).tr p14 rfl).eq q24)⟩
