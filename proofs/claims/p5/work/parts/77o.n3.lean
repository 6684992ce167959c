/-! Contracts that tell the names of a Duchy (by wip/q/wlk.py). -/
def md_X12_duchy_173n : List (Nat × (Nat × Nat)) := [(173, (0, 0)), (173, (2, 2)), (173, (3, 3)), (173, (4, 4)), (173, (5, 5)), (173, (6, 6)), (173, (7, 7)), (173, (8, 8)), (173, (9, 9)), (173, (10, 10)), (173, (11, 11)), (173, (13, 13)), (173, (23, 23)), (173, (24, 24)), (173, (25, 25)), (175, (0, 100)), (175, (101, 475)), (176, (0, 100))]
theorem ct_X12_duchy_173n (X : Int) (hX : 0 ≤ X ∧ X ≤ 100000000) (M0 : JM) (hH0 : HI X M0) (hp0 : SOK M0) : JOk shp PJ 7 99 [.inr (.inr (.inl 173))] M0 (jRi (fun v M' => HI X M' ∧ Fr md_X12_duchy_173n M0 M' ∧ (-941) ≤ v ∧ v ≤ 470 ∧ (SOK M') ∧ (v < 0 ∨ M'.1 175 234 = 0) ∧ (v = duS (uR M0) (M0.1 173 2)) ∧ (M'.1 173 2 = 0) ∧ (0 ≤ v → HN M' 175 0 180 0 (fnS (uR M0) (M0.1 173 2))) ∧ (v < 0 → ∀ σ : PSt, HN M0 175 0 180 0 σ → HN M' 175 0 180 0 σ) ∧ (LKs [180, 181] M0 M'))) := by
 refine ⟨jr_X12_duchy, pj_X12_duchy, fun F c1 c2 c3 => ?_⟩
 have hm := pj_X12_duchy
 change F 0 [some (.inr (.inr (.inl 173))), none, none] [] M0
 have hF0 : Fr md_X12_duchy_173n M0 M0 := Fr.rf _ _
 obtain ⟨z1, k2, lz1, uz1⟩ := hH0.ld (c := 173) (i := 2) (A := 0) (B := 940) (bs_28_1 _ _ (by omega) (by omega))
 refine jx_load c1 hm rfl rfl rfl rfl ?_
 refine jy_sp c1 hm rfl (by decide) ?_
 refine jv_v c3 hm rfl pj_X12_begin rfl rfl ⟨_, _, _, rfl, sh_173⟩ rfl (((ct_X12_begin_173p X (by omega) M0 hH0 900 ⟨by omega, by omega⟩).lkv (by decide +kernel) rfl).le (by decide)) (fun M6 ⟨⟨hH6, hR6, p3, p4, p5⟩, hL6⟩ => ?_)
 have hF6 := hF0.tr hR6 (by decide +kernel)
 obtain ⟨z7, k8, lz7, uz7⟩ := hH6.ld (c := 173) (i := 2) (A := 0) (B := 940) (bs_28_1 _ _ (by omega) (by omega))
 refine jy_ic c1 hm rfl (by decide) ?_
 refine jx_stor c1 hm (L' := [some (.inr (.inr (.inl 173))), some (.inl 0), none]) rfl rfl rfl rfl rfl ?_
 have W16 : ∀ (n17 : Nat) (b9 : Int) (hb9 : 0 ≤ b9 ∧ b9 ≤ 101) (M10 : JM) (hH10 : HI (X) M10) (hF10 : Fr md_X12_duchy_173n M0 M10) (k11 : M10.1 173 2 = z7) (hE : ∀ j : Nat, M10.1 175 j = M0.1 175 j) (hfz : FLP 176 0 b9 M10) (hrt : RTk M10 (uR M0, (M0.1 173 2, 900)) 0) (hlx : LKs [181] M0 M10), (-b9 + 101) < (n17 : Int) → F 9 [some (.inr (.inr (.inl 173))), some (.inl b9), none] [] M10 := by
  intro n17
  induction n17 with
  | zero => intros; omega
  | succ n17 ihW16 =>
   intro b9 hb9 M10 hH10 hF10 k11 hE hfz hrt hlx hrW16
   refine jx_load c1 hm rfl rfl rfl rfl ?_
   skip
   refine jy_bp c1 hm rfl (by decide) ?_
   refine jc_ge c1 hm 28 rfl rfl (fun h18 => ?_) (fun h18 => ?_)
   ·
    refine jy_ic c1 hm rfl (by decide) ?_
    refine jx_stor c1 hm (L' := [some (.inr (.inr (.inl 173))), some (.inl 0), none]) rfl rfl rfl rfl rfl ?_
    have W26 : ∀ (n27 : Nat) (b19 : Int) (hb19 : 0 ≤ b19 ∧ b19 ≤ 36) (M20 : JM) (hH20 : HI (X) M20) (hF20 : Fr md_X12_duchy_173n M0 M20) (k21 : M20.1 173 2 = z7) (hE : ∀ j : Nat, M20.1 175 j = M0.1 175 j) (hrz : RZ M20 b19) (hrt : RTk M20 (uR M0, (M0.1 173 2, 900)) 0) (hlx : LKs [181] M0 M20), (-b19 + 36) < (n27 : Int) → F 30 [some (.inr (.inr (.inl 173))), some (.inl b19), none] [] M20 := by
     intro n27
     induction n27 with
     | zero => intros; omega
     | succ n27 ihW26 =>
      intro b19 hb19 M20 hH20 hF20 k21 hE hrz hrt hlx hrW26
      refine jx_load c1 hm rfl rfl rfl rfl ?_
      skip
      refine jy_bp c1 hm rfl (by decide) ?_
      refine jc_ge c1 hm 52 rfl rfl (fun h28 => ?_) (fun h28 => ?_)
      ·
       refine jx_load c1 hm rfl rfl rfl rfl ?_
       refine jx_getr c1 hm rfl sh_173 rfl ?_
       refine jy_ic c1 hm rfl (by decide) ?_
       refine jy_ic c1 hm rfl (by decide) ?_
       obtain ⟨M29, e29, hH29, hF29, k29, n29, q29⟩ := mup hH20 hF20 (c := 176) (i := 3) (v := 1) (A := 0) (B := 9) (bs_12_1 _ _ (by omega) (by omega)) ⟨by omega, by omega⟩ (jin_of 17 rfl ⟨by omega, by omega⟩)
       refine jm_iast c1 hm rfl sh_176 ⟨by omega, by omega⟩ e29 ?_
       refine jx_load c1 hm rfl rfl rfl rfl ?_
       refine jx_getr c1 hm rfl sh_173 rfl ?_
       refine jy_ic c1 hm rfl (by decide) ?_
       refine jy_ic c1 hm rfl (by decide) ?_
       obtain ⟨M30, e30, hH30, hF30, k30, n30, q30⟩ := mup hH29 hF29 (c := 176) (i := 4) (v := 1) (A := 0) (B := 9) (bs_12_1 _ _ (by omega) (by omega)) ⟨by omega, by omega⟩ (jin_of 17 rfl ⟨by omega, by omega⟩)
       refine jm_iast c1 hm rfl sh_176 ⟨by omega, by omega⟩ e30 ?_
       refine jx_load c1 hm rfl rfl rfl rfl ?_
       refine jy_ic c1 hm rfl (by decide) ?_
       obtain ⟨M31, e31, hH31, hF31, k31, n31, q31⟩ := mup hH30 hF30 (c := 173) (i := 24) (v := 0) (A := 0) (B := 1) (bs_28_9 _ _ (by omega) (by omega)) ⟨by omega, by omega⟩ (jin_of 13 rfl ⟨by omega, by omega⟩)
       refine jm_putz c1 hm rfl sh_173 rfl ⟨by omega, by omega⟩ e31 ?_
       refine jx_load c1 hm rfl rfl rfl rfl ?_
       refine jy_ic c1 hm rfl (by decide) ?_
       obtain ⟨M32, e32, hH32, hF32, k32, n32, q32⟩ := mup hH31 hF31 (c := 173) (i := 25) (v := 0) (A := 0) (B := 1) (bs_28_9 _ _ (by omega) (by omega)) ⟨by omega, by omega⟩ (jin_of 14 rfl ⟨by omega, by omega⟩)
       refine jm_putz c1 hm rfl sh_173 rfl ⟨by omega, by omega⟩ e32 ?_
       refine jy_ic c1 hm rfl (by decide) ?_
       refine jx_stor c1 hm (L' := [some (.inr (.inr (.inl 173))), some (.inl 0), none]) rfl rfl rfl rfl rfl ?_
       have W42 : ∀ (n43 : Nat) (b33 : Int) (hb33 : 0 ≤ b33 ∧ b33 ≤ 471) (M34 : JM) (hH34 : HI (X) M34) (hF34 : Fr md_X12_duchy_173n M0 M34) (k36 : M34.1 173 2 = z7) (h37 : 0 ≤ b33 ∧ b33 ≤ 470) (hE : ∀ j : Nat, M34.1 175 j = M0.1 175 j) (hrl : RLr (uR M0, (M0.1 173 2, 900)) M34 b33) (hrf : RLrF (uR M0, (M0.1 173 2, 900)) M34 b33) (hlx : LKs [181] M0 M34), 471 - b33 < (n43 : Int) → F 78 [some (.inr (.inr (.inl 173))), some (.inl b33), none] [] M34 := by
        intro n43
        induction n43 with
        | zero => intros; omega
        | succ n43 ihW42 =>
         intro b33 hb33 M34 hH34 hF34 k36 h37 hE hrl hrf hlx hrW42
         refine jx_load c1 hm rfl rfl rfl rfl ?_
         skip
         obtain ⟨z44, k45, lz44, uz44⟩ := hH34.ld (c := 173) (i := 7) (A := 0) (B := 4) (bs_28_4 _ _ (by omega) (by omega))
         refine jx_geti c1 hm rfl sh_173 rfl k45 ?_
         refine jz_eq c1 hm 112 rfl rfl (fun h46 => ?_) (fun h46 => ?_)
         ·
          refine jy_ic c1 hm rfl (by decide) ?_
          have hdu := RLr.fin hrl (by omega)
          have hfn := RLrF.fin hrf (by omega)
          refine jx_stor c1 hm (L' := [some (.inr (.inr (.inl 173))), some (.inl b33), some (.inl 0)]) rfl rfl rfl rfl rfl ?_
          have W53 : ∀ (n54 : Nat) (b47 : Int) (hb47 : 0 ≤ b47 ∧ b47 ≤ 36) (M48 : JM) (hH48 : HI (X) M48) (hF48 : Fr md_X12_duchy_173n M0 M48) (k49 : M48.1 173 2 = z7) (k50 : M48.1 173 7 = z44) (hfn : HN M48 176 0 181 0 (allQ (uR M0, (M0.1 173 2, 900)) 1000 st0)) (hlx : LKs [181] M0 M48), (-b47 + 36) < (n54 : Int) → F 114 [some (.inr (.inr (.inl 173))), some (.inl b33), some (.inl b47)] [] M48 := by
           intro n54
           induction n54 with
           | zero => intros; omega
           | succ n54 ihW53 =>
            intro b47 hb47 M48 hH48 hF48 k49 k50 hfn hlx hrW53
            refine jx_load c1 hm rfl rfl rfl rfl ?_
            refine jy_bp c1 hm rfl (by decide) ?_
            refine jc_ge c1 hm 160 rfl rfl (fun h55 => ?_) (fun h55 => ?_)
            ·
             refine jy_ic c1 hm rfl (by decide) ?_
             refine jx_stor c1 hm (L' := [some (.inr (.inr (.inl 173))), some (.inl b33), some (.inl 0)]) rfl rfl rfl rfl rfl ?_
             have W63 : ∀ (n64 : Nat) (b56 : Int) (hb56 : 0 ≤ b56 ∧ b56 ≤ 101) (M57 : JM) (hH57 : HI (X) M57) (hF57 : Fr md_X12_duchy_173n M0 M57) (k58 : M57.1 173 2 = z7) (k59 : M57.1 173 7 = z44) (hfn : HN M57 176 0 181 0 (allQ (uR M0, (M0.1 173 2, 900)) 1000 st0)) (hcn : ∀ j : Nat, (j : Int) < b56 → M57.1 175 j = M57.1 176 j) (hlx : LKs [181] M0 M57), (-b56 + 101) < (n64 : Int) → F 162 [some (.inr (.inr (.inl 173))), some (.inl b33), some (.inl b56)] [] M57 := by
              intro n64
              induction n64 with
              | zero => intros; omega
              | succ n64 ihW63 =>
               intro b56 hb56 M57 hH57 hF57 k58 k59 hfn hcn hlx hrW63
               refine jx_load c1 hm rfl rfl rfl rfl ?_
               refine jy_bp c1 hm rfl (by decide) ?_
               refine jc_ge c1 hm 186 rfl rfl (fun h65 => ?_) (fun h65 => ?_)
               ·
                refine jy_ic c1 hm rfl (by decide) ?_
                refine jx_stor c1 hm (L' := [some (.inr (.inr (.inl 173))), some (.inl b33), some (.inl 0)]) rfl rfl rfl rfl rfl ?_
                have W74 : ∀ (n75 : Nat) (b66 : Int) (hb66 : 0 ≤ b66 ∧ b66 ≤ 18) (M67 : JM) (hH67 : HI (X) M67) (hF67 : Fr md_X12_duchy_173n M0 M67) (k68 : M67.1 173 2 = z7) (k69 : M67.1 173 7 = z44) (hfn : HN M67 176 0 181 0 (allQ (uR M0, (M0.1 173 2, 900)) 1000 st0)) (hc3 : ∀ j : Nat, j < 3 → M67.1 175 j = M67.1 176 j) (hnm : ∀ k : Nat, (k : Int) < b66 → M67.2 180 k = M67.2 181 k) (hlx : LKs [180, 181] M0 M67), (-b66 + 18) < (n75 : Int) → F 188 [some (.inr (.inr (.inl 173))), some (.inl b33), some (.inl b66)] [] M67 := by
                 intro n75
                 induction n75 with
                 | zero => intros; omega
                 | succ n75 ihW74 =>
                  intro b66 hb66 M67 hH67 hF67 k68 k69 hfn hc3 hnm hlx hrW74
                  refine jx_load c1 hm rfl rfl rfl rfl ?_
                  refine jy_bp c1 hm rfl (by decide) ?_
                  refine jc_ge c1 hm 212 rfl rfl (fun h76 => ?_) (fun h76 => ?_)
                  ·
                   refine jx_load c1 hm rfl rfl rfl rfl ?_
                   refine jv_v c3 hm rfl pj_X12_startSo rfl rfl ⟨_, _, _, rfl, sh_173⟩ rfl (((ct_X12_startSo_173 X (by omega) M67 hH67 ).lkv (by decide +kernel) rfl).le (by decide)) (fun M78 ⟨⟨hH78, hR78, p77⟩, hL78⟩ => ?_)
                   have hF78 := hF67.tr hR78 (by decide +kernel)
                   obtain ⟨z79, k80, lz79, uz79⟩ := hH78.ld (c := 175) (i := 234) (A := (-2147483648)) (B := 2147483647) (bs_11_11 _ _ (by omega) (by omega))
                   refine jx_load c1 hm rfl rfl rfl rfl ?_
                   refine jy_ic c1 hm rfl (by decide) ?_
                   obtain ⟨M81, e81, hH81, hF81, k81, n81, q81⟩ := mup hH78 hF78 (c := 173) (i := 23) (v := 0) (A := 0) (B := 8) (bs_28_8 _ _ (by omega) (by omega)) ⟨by omega, by omega⟩ (jin_of 12 rfl ⟨by omega, by omega⟩)
                   refine jm_puti c1 hm rfl sh_173 rfl e81 ?_
                   refine jx_load c1 hm rfl rfl rfl rfl ?_
                   have k82 : M81.1 173 2 = z7 := (n81 173 2 (by decide)).trans ((hR78 173 2 (by decide +kernel)).trans k68)
                   have k83 : M81.1 175 234 = z79 := (n81 175 234 (fun h => absurd h.1 (by decide))).trans k80
                   exact jx_reti c2 hm rfl rfl ⟨_, rfl, hH81, hF81, by omega, by omega, (Or.inl (by omega)), (by omega), (by show _ = allS (uR M0, (M0.1 173 2, 900)) 1000 0 st0; omega), (by omega), (fun _ => HN.cp hfn (fun j hj => by rw [Nat.zero_add]; exact ((n81 175 j (fun h => absurd h.1 (by decide))).trans (hR78 175 j (jin_lo (b := 5) (by decide +kernel) (by omega)))).trans (hc3 j hj)) (fun k hk => by rw [Nat.zero_add]; exact ((q81 180 k).trans (hL78 180 k (by decide +kernel))).trans (hnm k (by omega)))), (fun y => absurd y (by omega)), ((hlx.lk hL78).eq q81)⟩
                  refine jx_load c1 hm rfl rfl rfl rfl ?_
                  refine jx_getr c1 hm rfl sh_173 rfl ?_
                  refine jx_load c1 hm rfl rfl rfl rfl ?_
                  refine jx_load c1 hm rfl rfl rfl rfl ?_
                  refine jx_getr c1 hm rfl sh_173 rfl ?_
                  refine jx_load c1 hm rfl rfl rfl rfl ?_
                  obtain ⟨w84, kw84⟩ : ∃ w, M67.2 181 (b66).toNat = w := ⟨_, rfl⟩
                  have bw84 : LB w84.toInt := kw84 ▸ hH67.2.1 181 _ rfl
                  refine jx_lald c1 hm rfl sh_181 ⟨by omega, by omega⟩ kw84 ?_
                  skip
                  obtain ⟨M85, e85, hH85, hF85, n85, k85, g85⟩ := mul hH67 hF67 (c := 180) (i := (b66).toNat) (v := w84) (fun _ => bw84)
                  refine jm_last c1 hm rfl sh_180 ⟨by omega, by omega⟩ e85 ?_
                  refine jx_iinc c1 hm (v := (b66 + 1)) (L' := [some (.inr (.inr (.inl 173))), some (.inl b33), some (.inl (b66 + 1))]) rfl rfl (by omega) (by omega) rfl ?_
                  refine jx_goto c1 hm 188 rfl rfl ?_
                  have k86 : M85.1 173 2 = z7 := (n85 173 2).trans k68
                  have k87 : M85.1 173 7 = z44 := (n85 173 7).trans k69
                  exact ihW74 (b66 + 1) (by omega) M85 hH85 hF85 k86 k87 (HN.cp hfn (fun j hj => (n85 176 (0 + j))) (fun k hk => (g85 181 (0 + k) (fun h => absurd h.1 (by decide))))) (fun j hj => ((n85 175 j).trans ((hc3 j hj).trans (n85 176 j).symm))) (fun k hk => if c9 : (k : Int) < b66 then (g85 180 k (by omega)).trans ((hnm k c9).trans (g85 181 k (fun h => absurd h.1 (by decide))).symm) else (by have e9 : k = (b66).toNat := (by omega); subst e9; exact k85.trans ((g85 181 _ (fun h => absurd h.1 (by decide))).trans kw84).symm)) (hlx.st g85 (Or.inr rfl)) (by omega)
                exact W74 (18 + 1 : Int).toNat 0 (by omega) M57 hH57 hF57 k58 k59 hfn (fun j hj => hcn j (by omega)) (fun k hk => by omega) (LKs.up hlx rfl) (by omega)
               refine jx_load c1 hm rfl rfl rfl rfl ?_
               refine jx_getr c1 hm rfl sh_173 rfl ?_
               refine jx_load c1 hm rfl rfl rfl rfl ?_
               refine jx_load c1 hm rfl rfl rfl rfl ?_
               refine jx_getr c1 hm rfl sh_173 rfl ?_
               refine jx_load c1 hm rfl rfl rfl rfl ?_
               obtain ⟨z88, k89, lz88, uz88⟩ := hH57.any (by omega) (by omega) 176 (b56).toNat
               refine jx_iald c1 hm rfl sh_176 ⟨by omega, by omega⟩ k89 ?_
               skip
               obtain ⟨M90, e90, hH90, hF90, k90, n90, q90⟩ := mupc hH57 hF57 hH57 (c := 175) (i := (b56).toNat) (c1 := 176) (i1 := (b56).toNat) (v := z88) k89 (crd (by omega)) (jin_of 15 rfl ⟨by omega, by omega⟩)
               refine jm_iast c1 hm rfl sh_175 ⟨by omega, by omega⟩ e90 ?_
               refine jx_iinc c1 hm (v := (b56 + 1)) (L' := [some (.inr (.inr (.inl 173))), some (.inl b33), some (.inl (b56 + 1))]) rfl rfl (by omega) (by omega) rfl ?_
               refine jx_goto c1 hm 162 rfl rfl ?_
               have k91 : M90.1 173 2 = z7 := (n90 173 2 (fun h => absurd h.1 (by decide))).trans k58
               have k92 : M90.1 173 7 = z44 := (n90 173 7 (fun h => absurd h.1 (by decide))).trans k59
               exact ihW63 (b56 + 1) (by omega) M90 hH90 hF90 k91 k92 (HN.cp hfn (fun j hj => (n90 176 (0 + j) (fun h => absurd h.1 (by decide)))) (fun k hk => (q90 181 (0 + k)))) (fun j hj => if c9 : (j : Int) < b56 then (n90 175 j (by omega)).trans ((hcn j c9).trans (n90 176 j (fun h => absurd h.1 (by decide))).symm) else (by have e9 : j = (b56).toNat := (by omega); subst e9; exact k90.trans ((n90 176 _ (fun h => absurd h.1 (by decide))).trans k89).symm)) (hlx.eq q90) (by omega)
             exact W63 (101 + 1 : Int).toNat 0 (by omega) M48 hH48 hF48 k49 k50 hfn (fun j hj => by omega) hlx (by omega)
            refine jx_load c1 hm rfl rfl rfl rfl ?_
            refine jx_getr c1 hm rfl sh_173 rfl ?_
            refine jy_bp c1 hm rfl (by decide) ?_
            refine jx_load c1 hm rfl rfl rfl rfl ?_
            refine jy_add c1 hm (b47 + 17) rfl (by omega) ?_
            obtain ⟨z93, k94, lz93, uz93⟩ := hH48.ld (c := 176) (i := ((b47 + 17)).toNat) (A := (-1)) (B := 20) (bs_12_4 _ _ (by omega) (by omega))
            refine jx_iald c1 hm rfl sh_176 ⟨by omega, by omega⟩ k94 ?_
            refine jy_ic c1 hm rfl (by decide) ?_
            refine jc_ne c1 hm 154 rfl rfl (fun h95 => ?_) (fun h95 => ?_)
            ·
             refine jx_iinc c1 hm (v := (b47 + 1)) (L' := [some (.inr (.inr (.inl 173))), some (.inl b33), some (.inl (b47 + 1))]) rfl rfl (by omega) (by omega) rfl ?_
             refine jx_goto c1 hm 114 rfl rfl ?_
             exact ihW53 (b47 + 1) (by omega) M48 hH48 hF48 k49 k50 (HN.cp hfn (fun j hj => rfl) (fun k hk => rfl)) hlx (by omega)
            refine jx_load c1 hm rfl rfl rfl rfl ?_
            refine jx_getr c1 hm rfl sh_173 rfl ?_
            refine jy_bp c1 hm rfl (by decide) ?_
            refine jx_load c1 hm rfl rfl rfl rfl ?_
            refine jy_add c1 hm (b47 + 17) rfl (by omega) ?_
            refine jx_load c1 hm rfl rfl rfl rfl ?_
            refine jx_getr c1 hm rfl sh_173 rfl ?_
            refine jy_bp c1 hm rfl (by decide) ?_
            refine jx_load c1 hm rfl rfl rfl rfl ?_
            refine jy_bp c1 hm rfl (by decide) ?_
            refine jy_rem c1 hm rfl ⟨by omega, by omega, by omega, by omega⟩ (fun z96 ez96 lz96 uz96 => ?_)
            refine jy_add c1 hm (z96 + 11) rfl (by omega) ?_
            obtain ⟨z97, k98, lz97, uz97⟩ := hH48.ld (c := 176) (i := ((z96 + 11)).toNat) (A := 0) (B := 20) (bs_12_3 _ _ (by omega) (by omega))
            refine jx_iald c1 hm rfl sh_176 ⟨by omega, by omega⟩ k98 ?_
            obtain ⟨M99, e99, hH99, hF99, k99, n99, q99⟩ := mup hH48 hF48 (c := 176) (i := ((b47 + 17)).toNat) (v := z97) (A := (-1)) (B := 20) (bs_12_4 _ _ (by omega) (by omega)) ⟨by omega, by omega⟩ (jin_of 17 rfl ⟨by omega, by omega⟩)
            refine jm_iast c1 hm rfl sh_176 ⟨by omega, by omega⟩ e99 ?_
            refine jx_iinc c1 hm (v := (b47 + 1)) (L' := [some (.inr (.inr (.inl 173))), some (.inl b33), some (.inl (b47 + 1))]) rfl rfl (by omega) (by omega) rfl ?_
            refine jx_goto c1 hm 114 rfl rfl ?_
            have k100 : M99.1 173 2 = z7 := (n99 173 2 (fun h => absurd h.1 (by decide))).trans k49
            have k101 : M99.1 173 7 = z44 := (n99 173 7 (fun h => absurd h.1 (by decide))).trans k50
            exact ihW53 (b47 + 1) (by omega) M99 hH99 hF99 k100 k101 (HN.cp hfn (fun j hj => (n99 176 (0 + j) (fun e => absurd e.2 (by omega)))) (fun k hk => (q99 181 (0 + k)))) (hlx.eq q99) (by omega)
          exact W53 (36 + 1 : Int).toNat 0 (by omega) M34 hH34 hF34 k36 k45 hfn hlx (by omega)
         refine jx_load c1 hm rfl rfl rfl rfl ?_
         refine jv_i c3 hm rfl pj_X12_readLine rfl rfl ⟨_, _, _, rfl, sh_173⟩ rfl ((ct_X12_readLine_173p X (by omega) M34 hH34 ).le (by decide)) (fun z102 M105 ⟨hH105, hR105, lz102, uz102, p103, p104⟩ => ?_)
         have hF105 := hF34.tr hR105 (by decide +kernel)
         refine jz_eq c1 hm 99 rfl rfl (fun h106 => ?_) (fun h106 => ?_)
         ·
          refine jy_ic c1 hm rfl (by decide) ?_
          refine jx_load c1 hm rfl rfl rfl rfl ?_
          obtain ⟨z107, k108, lz107, uz107⟩ := hH105.ld (c := 173) (i := 11) (A := 0) (B := 940) (bs_28_6 _ _ (by omega) (by omega))
          refine jx_geti c1 hm rfl sh_173 rfl k108 ?_
          refine jy_sub c1 hm (-z107 - 1) rfl (by omega) ?_
          have k109 : M105.1 173 2 = z7 := (hR105 173 2 (by decide +kernel)).trans k36
          obtain ⟨z110, k111, lz110, uz110⟩ := hH105.ld (c := 175) (i := 234) (A := (-2147483648)) (B := 2147483647) (bs_11_11 _ _ (by omega) (by omega))
          exact jx_reti c2 hm rfl rfl ⟨_, rfl, hH105, hF105, by omega, by omega, (SOK.cg hp0 (fun j _ _ => (fun j => ((hR105 175 j rfl).trans (hE j))) j)), (by omega), (by have y9 := RLr.no (M' := M105) hrl (by omega) (fun σ hσ => LRr.seqz (p103 _ σ hσ) (by omega)); show _ = allS (uR M0, (M0.1 173 2, 900)) 1000 0 st0; omega), (by omega), (fun y => absurd y (by omega)), (fun _ σ hσ => HN.cp hσ (fun j hj => (fun j => ((hR105 175 j rfl).trans (hE j))) _) (fun k hk => (LFr.lks hlx p104 (by decide +kernel)) _ _ (by decide +kernel) rfl)), (LKs.up (LFr.lks hlx p104 (by decide +kernel)) rfl)⟩
         refine jx_load c1 hm rfl rfl rfl rfl ?_
         refine jv_i c3 hm rfl pj_X12_readEnd rfl rfl ⟨_, _, _, rfl, sh_173⟩ rfl (((ct_X12_readEnd_173p X (by omega) M105 hH105 ).lki (by decide +kernel) rfl).le (by decide)) (fun z112 M115 ⟨⟨hH115, hR115, lz112, uz112, p113, p114⟩, hL115⟩ => ?_)
         have hF115 := hF105.tr hR115 (by decide +kernel)
         refine jz_ne c1 hm 106 rfl rfl (fun h116 => ?_) (fun h116 => ?_)
         ·
          refine jx_iinc c1 hm (v := (b33 + 1)) (L' := [some (.inr (.inr (.inl 173))), some (.inl (b33 + 1)), none]) rfl rfl (by omega) (by omega) rfl ?_
          have hrl9 := RLr.go hrl (by omega) (fun σ hσ => LRr.seqg (p103 _ σ hσ) (by omega) (fun l1 h1 => LRr.u (p113 _ _ h1) (by omega)))
          have hbd9 := RLr.bd hrl9
          have hrf9 := RLrF.go hrf (by omega) (fun σ hσ => LRr.seqg (p103 _ σ hσ) (by omega) (fun l1 h1 => LRr.u (p113 _ _ h1) (by omega)))
          refine jx_goto c1 hm 78 rfl rfl ?_
          have k122 : M115.1 173 2 = z7 := (hR115 173 2 (by decide +kernel)).trans ((hR105 173 2 (by decide +kernel)).trans k36)
          exact ihW42 (b33 + 1) (by omega) M115 hH115 hF115 k122 (by omega) (fun j => (((hR115 175 j rfl).trans (hR105 175 j rfl)).trans (hE j))) hrl9 hrf9 ((LFr.lks hlx p104 (by decide +kernel)).lk hL115) (by omega)
         refine jy_ic c1 hm rfl (by decide) ?_
         refine jx_load c1 hm rfl rfl rfl rfl ?_
         obtain ⟨z117, k118, lz117, uz117⟩ := hH115.ld (c := 173) (i := 11) (A := 0) (B := 940) (bs_28_6 _ _ (by omega) (by omega))
         refine jx_geti c1 hm rfl sh_173 rfl k118 ?_
         refine jy_sub c1 hm (-z117 - 1) rfl (by omega) ?_
         have k119 : M115.1 173 2 = z7 := (hR115 173 2 (by decide +kernel)).trans ((hR105 173 2 (by decide +kernel)).trans k36)
         obtain ⟨z120, k121, lz120, uz120⟩ := hH115.ld (c := 175) (i := 234) (A := (-2147483648)) (B := 2147483647) (bs_11_11 _ _ (by omega) (by omega))
         exact jx_reti c2 hm rfl rfl ⟨_, rfl, hH115, hF115, by omega, by omega, (SOK.cg hp0 (fun j _ _ => (fun j => (((hR115 175 j rfl).trans (hR105 175 j rfl)).trans (hE j))) j)), (by omega), (by have y9 := RLr.no (M' := M115) hrl (by omega) (fun σ hσ => LRr.seqg (p103 _ σ hσ) (by omega) (fun l1 h1 => LRr.z (p113 _ _ h1) (by omega))); show _ = allS (uR M0, (M0.1 173 2, 900)) 1000 0 st0; omega), (by omega), (fun y => absurd y (by omega)), (fun _ σ hσ => HN.cp hσ (fun j hj => (fun j => (((hR115 175 j rfl).trans (hR105 175 j rfl)).trans (hE j))) _) (fun k hk => ((LFr.lks hlx p104 (by decide +kernel)).lk hL115) _ _ (by decide +kernel) rfl)), (LKs.up ((LFr.lks hlx p104 (by decide +kernel)).lk hL115) rfl)⟩
       have k35 : M32.1 173 2 = z7 := (n32 173 2 (by decide)).trans ((n31 173 2 (by decide)).trans ((n30 173 2 (fun h => absurd h.1 (by decide))).trans ((n29 173 2 (fun h => absurd h.1 (by decide))).trans k21)))
       exact W42 (471 - 0 + 1 : Int).toNat 0 (by omega) M32 hH32 hF32 k35 (by omega) (fun j => (((((n32 175 j (fun h => absurd h.1 (by decide))).trans (n31 175 j (fun h => absurd h.1 (by decide)))).trans (n30 175 j (fun h => absurd h.1 (by decide)))).trans (n29 175 j (fun h => absurd h.1 (by decide)))).trans (hE j))) (RLr.start (RTk.cg hrt (fun j => ((((n32 174 j (fun h => absurd h.1 (by decide))).trans (n31 174 j (fun h => absurd h.1 (by decide)))).trans (n30 174 j (fun h => absurd h.1 (by decide)))).trans (n29 174 j (fun h => absurd h.1 (by decide))))) (fun j hj => ((((n32 173 j (by omega)).trans (n31 173 j (by omega))).trans (n30 173 j (fun h => absurd h.1 (by decide)))).trans (n29 173 j (fun h => absurd h.1 (by decide))))) (((((q32 173 12).trans (q31 173 12)).trans (q30 173 12)).trans (q29 173 12)))) (RZ.cg hrz (by omega) (fun j hj => ((((n32 176 j (fun h => absurd h.1 (by decide))).trans (n31 176 j (fun h => absurd h.1 (by decide)))).trans (n30 176 j (by omega))).trans (n29 176 j (by omega))))) ((n32 173 24 (by decide)).trans k31) k32 ⟨by show 0 ≤ M0.1 173 2; omega, by show M0.1 173 2 ≤ 940; omega⟩ (by show (0 : Int) ≤ 900; decide)) (RLrF.start (RTk.cg hrt (fun j => ((((n32 174 j (fun h => absurd h.1 (by decide))).trans (n31 174 j (fun h => absurd h.1 (by decide)))).trans (n30 174 j (fun h => absurd h.1 (by decide)))).trans (n29 174 j (fun h => absurd h.1 (by decide))))) (fun j hj => ((((n32 173 j (by omega)).trans (n31 173 j (by omega))).trans (n30 173 j (fun h => absurd h.1 (by decide)))).trans (n29 173 j (fun h => absurd h.1 (by decide))))) (((((q32 173 12).trans (q31 173 12)).trans (q30 173 12)).trans (q29 173 12)))) (RZ.cg hrz (by omega) (fun j hj => ((((n32 176 j (fun h => absurd h.1 (by decide))).trans (n31 176 j (fun h => absurd h.1 (by decide)))).trans (n30 176 j (by omega))).trans (n29 176 j (by omega))))) ((n32 173 24 (by decide)).trans k31) k32 ⟨by show 0 ≤ M0.1 173 2; omega, by show M0.1 173 2 ≤ 940; omega⟩ (by show (0 : Int) ≤ 900; decide)) ((((hlx.eq q29).eq q30).eq q31).eq q32) (by omega)
      refine jx_load c1 hm rfl rfl rfl rfl ?_
      refine jx_getr c1 hm rfl sh_173 rfl ?_
      refine jy_bp c1 hm rfl (by decide) ?_
      refine jx_load c1 hm rfl rfl rfl rfl ?_
      refine jy_add c1 hm (b19 + 17) rfl (by omega) ?_
      refine jy_ic c1 hm rfl (by decide) ?_
      obtain ⟨M123, e123, hH123, hF123, k123, n123, q123⟩ := mup hH20 hF20 (c := 176) (i := ((b19 + 17)).toNat) (v := (-1)) (A := (-1)) (B := 20) (bs_12_4 _ _ (by omega) (by omega)) ⟨by omega, by omega⟩ (jin_of 17 rfl ⟨by omega, by omega⟩)
      refine jm_iast c1 hm rfl sh_176 ⟨by omega, by omega⟩ e123 ?_
      refine jx_iinc c1 hm (v := (b19 + 1)) (L' := [some (.inr (.inr (.inl 173))), some (.inl (b19 + 1)), none]) rfl rfl (by omega) (by omega) rfl ?_
      refine jx_goto c1 hm 30 rfl rfl ?_
      have k124 : M123.1 173 2 = z7 := (n123 173 2 (fun h => absurd h.1 (by decide))).trans k21
      exact ihW26 (b19 + 1) (by omega) M123 hH123 hF123 k124 (fun j => ((n123 175 j (fun h => absurd h.1 (by decide))).trans (hE j))) (RZ.st hrz ⟨by omega, by omega⟩ (by omega) k123 n123) (RTk.cg hrt (fun j => (n123 174 j (fun h => absurd h.1 (by decide)))) (fun j hj => (n123 173 j (fun h => absurd h.1 (by decide)))) ((q123 173 12))) (hlx.eq q123) (by omega)
    exact W26 (36 + 1 : Int).toNat 0 (by omega) M10 hH10 hF10 k11 (fun j => (hE j)) (RZ.start (FLP.le hfz (by omega))) hrt hlx (by omega)
   refine jx_load c1 hm rfl rfl rfl rfl ?_
   refine jx_getr c1 hm rfl sh_173 rfl ?_
   refine jx_load c1 hm rfl rfl rfl rfl ?_
   refine jy_ic c1 hm rfl (by decide) ?_
   obtain ⟨M125, e125, hH125, hF125, k125, n125, q125⟩ := mup hH10 hF10 (c := 176) (i := (b9).toNat) (v := 0) (A := (bnd (X) 176 (b9).toNat).1) (B := (bnd (X) 176 (b9).toNat).2) rfl (czr _) (jin_of 17 rfl ⟨by omega, by omega⟩)
   refine jm_iast c1 hm rfl sh_176 ⟨by omega, by omega⟩ e125 ?_
   refine jx_iinc c1 hm (v := (b9 + 1)) (L' := [some (.inr (.inr (.inl 173))), some (.inl (b9 + 1)), none]) rfl rfl (by omega) (by omega) rfl ?_
   refine jx_goto c1 hm 9 rfl rfl ?_
   have k126 : M125.1 173 2 = z7 := (n125 173 2 (fun h => absurd h.1 (by decide))).trans k11
   exact ihW16 (b9 + 1) (by omega) M125 hH125 hF125 k126 (fun j => ((n125 175 j (fun h => absurd h.1 (by decide))).trans (hE j))) (FLP.st hfz (by omega) k125 n125) (RTk.cg hrt (fun j => (n125 174 j (fun h => absurd h.1 (by decide)))) (fun j hj => (n125 173 j (fun h => absurd h.1 (by decide)))) ((q125 173 12))) (hlx.eq q125) (by omega)
 exact W16 (101 + 1 : Int).toNat 0 (by omega) M6 hH6 hF6 k8 (fun j => (hR6 175 j rfl)) FLP.start p3 ((LKs.rf [181] M0).lk hL6) (by omega)
def md_X11_copyRow_6_138n : List (Nat × (Nat × Nat)) := [(138, (0, 2))]
theorem ct_X11_copyRow_6_138n (X : Int) (hX : 0 ≤ X ∧ X ≤ 100000000) (M0 : JM) (hH0 : HI X M0)  : JOk shp PJ 1 29 [.inr (.inr (.inl 6)), .inr (.inr (.inl 138))] M0 (jRv (fun M' => HI X M' ∧ Fr md_X11_copyRow_6_138n M0 M' ∧ (∀ j : Nat, (j : Int) < 3 → M'.1 138 j = M0.1 6 j))) := by
 refine ⟨jr_X11_copyRow, pj_X11_copyRow, fun F c1 c2 c3 => ?_⟩
 have hm := pj_X11_copyRow
 change F 0 [some (.inr (.inr (.inl 6))), some (.inr (.inr (.inl 138)))] [] M0
 have hF0 : Fr md_X11_copyRow_6_138n M0 M0 := Fr.rf _ _
 refine jx_load c1 hm rfl rfl rfl rfl ?_
 refine jy_ic c1 hm rfl (by decide) ?_
 refine jx_load c1 hm rfl rfl rfl rfl ?_
 refine jy_ic c1 hm rfl (by decide) ?_
 refine jx_load c1 hm rfl rfl rfl rfl ?_
 refine jx_alen c1 hm (v := 3) rfl sh_6 rfl rfl ?_
 refine jx_load c1 hm rfl rfl rfl rfl ?_
 refine jx_alen c1 hm (v := 3) rfl sh_138 rfl rfl ?_
 refine jx_min c1 hm rfl rfl (fun z1 lz1 uz1 ez1 => ?_)
 obtain ⟨M2, e2, hH2, hF2, n2, _⟩ := mcp hH0 hF0 (c1 := 6) (c2 := 138) (n := z1) (fun _ _ => rfl) (fun j hj => jin_of 0 rfl ⟨by omega, by omega⟩)
 refine jm_acpi c1 hm rfl rfl sh_6 sh_138 ⟨by omega, by omega, by omega⟩ e2 ?_
 exact jx_retv c2 hm rfl rfl ⟨rfl, hH2, hF2, (fun j hj => cp_at e2 (by omega))⟩
def md_X2_takeAll_137_5n : List (Nat × (Nat × Nat)) := [(137, (6, 6)), (137, (7, 7)), (138, (0, 2)), (139, (0, 17)), (140, (0, 5)), (142, (0, 35)), (143, (0, 5)), (144, (7, 7)), (145, (0, 5)), (146, (0, 5)), (147, (0, 5)), (148, (0, 5)), (149, (0, 35)), (150, (0, 35)), (151, (0, 35)), (152, (2, 2)), (152, (3, 3)), (153, (0, 39))]
theorem ct_X2_takeAll_137_5n (X : Int) (hX : 0 ≤ X ∧ X ≤ 100000000) (M0 : JM) (hH0 : HI X M0)  : JOk shp PJ 3 231 [.inr (.inr (.inl 137)), .inr (.inr (.inl 5))] M0 (jRv (fun M' => HI X M' ∧ Fr md_X2_takeAll_137_5n M0 M' ∧ (∀ σ : PSt, HC M0 5 σ → HC M' 137 σ) ∧ (LKs [139] M0 M'))) := by
 refine ⟨jr_X2_takeAll, pj_X2_takeAll, fun F c1 c2 c3 => ?_⟩
 have hm := pj_X2_takeAll
 change F 0 [some (.inr (.inr (.inl 137))), some (.inr (.inr (.inl 5)))] [] M0
 have hF0 : Fr md_X2_takeAll_137_5n M0 M0 := Fr.rf _ _
 refine jx_load c1 hm rfl rfl rfl rfl ?_
 refine jx_getr c1 hm rfl sh_5 rfl ?_
 refine jx_load c1 hm rfl rfl rfl rfl ?_
 refine jx_getr c1 hm rfl sh_137 rfl ?_
 refine jt_v c3 hm rfl rfl pj_X11_copyRow rfl rfl rfl (((ct_X11_copyRow_6_138n X (by omega) M0 hH0 ).lkv (by decide +kernel) rfl).le (by decide)) (fun M2 ⟨⟨hH2, hR2, p1⟩, hL2⟩ => ?_)
 have hF2 := hF0.tr hR2 (by decide +kernel)
 refine jx_load c1 hm rfl rfl rfl rfl ?_
 refine jx_getr c1 hm rfl sh_5 rfl ?_
 refine jy_ic c1 hm rfl (by decide) ?_
 refine jx_load c1 hm rfl rfl rfl rfl ?_
 refine jx_getr c1 hm rfl sh_137 rfl ?_
 refine jy_ic c1 hm rfl (by decide) ?_
 refine jy_bp c1 hm rfl (by decide) ?_
 obtain ⟨M3, e3, hH3, hF3, n3⟩ := mcl hH2 hF2 (c1 := 7) (c2 := 139) (n := 18) rfl
 refine jm_acpl c1 hm rfl rfl sh_7 sh_139 ⟨by omega, by omega, by omega⟩ e3 ?_
 refine jx_load c1 hm rfl rfl rfl rfl ?_
 refine jx_getr c1 hm rfl sh_5 rfl ?_
 refine jx_load c1 hm rfl rfl rfl rfl ?_
 refine jx_getr c1 hm rfl sh_137 rfl ?_
 refine jt_v c3 hm rfl rfl pj_X11_copyRow rfl rfl rfl (((ct_X11_copyRow_8_140 X (by omega) M3 hH3 ).lkv (by decide +kernel) rfl).le (by decide)) (fun M4 ⟨⟨hH4, hR4⟩, hL4⟩ => ?_)
 have hF4 := hF3.tr hR4 (by decide +kernel)
 refine jx_load c1 hm rfl rfl rfl rfl ?_
 refine jx_getr c1 hm rfl sh_5 rfl ?_
 refine jx_load c1 hm rfl rfl rfl rfl ?_
 refine jx_getr c1 hm rfl sh_137 rfl ?_
 refine jt_v c3 hm rfl rfl pj_X11_copyRow rfl rfl rfl (((ct_X11_copyRow_10_142 X (by omega) M4 hH4 ).lkv (by decide +kernel) rfl).le (by decide)) (fun M5 ⟨⟨hH5, hR5⟩, hL5⟩ => ?_)
 have hF5 := hF4.tr hR5 (by decide +kernel)
 refine jx_load c1 hm rfl rfl rfl rfl ?_
 refine jx_getr c1 hm rfl sh_5 rfl ?_
 refine jx_load c1 hm rfl rfl rfl rfl ?_
 refine jx_getr c1 hm rfl sh_137 rfl ?_
 refine jt_v c3 hm rfl rfl pj_X11_copyRow rfl rfl rfl (((ct_X11_copyRow_11_143 X (by omega) M5 hH5 ).lkv (by decide +kernel) rfl).le (by decide)) (fun M6 ⟨⟨hH6, hR6⟩, hL6⟩ => ?_)
 have hF6 := hF5.tr hR6 (by decide +kernel)
 refine jx_load c1 hm rfl rfl rfl rfl ?_
 refine jx_load c1 hm rfl rfl rfl rfl ?_
 obtain ⟨z7, k8, lz7, uz7⟩ := hH6.ld (c := 5) (i := 6) (A := 0) (B := 9) (bs_20_1 _ _ (by omega) (by omega))
 refine jx_geti c1 hm rfl sh_5 rfl k8 ?_
 obtain ⟨M9, e9, hH9, hF9, k9, n9, q9⟩ := mup hH6 hF6 (c := 137) (i := 6) (v := z7) (A := 0) (B := 9) (bs_20_1 _ _ (by omega) (by omega)) ⟨by omega, by omega⟩ (jin_of 0 rfl ⟨by omega, by omega⟩)
 refine jm_puti c1 hm rfl sh_137 rfl e9 ?_
 refine jx_load c1 hm rfl rfl rfl rfl ?_
 refine jx_load c1 hm rfl rfl rfl rfl ?_
 obtain ⟨z10, k11, lz10, uz10⟩ := hH9.ld (c := 5) (i := 7) (A := 0) (B := 9) (bs_20_1 _ _ (by omega) (by omega))
 refine jx_geti c1 hm rfl sh_5 rfl k11 ?_
 obtain ⟨M12, e12, hH12, hF12, k12, n12, q12⟩ := mup hH9 hF9 (c := 137) (i := 7) (v := z10) (A := 0) (B := 9) (bs_20_1 _ _ (by omega) (by omega)) ⟨by omega, by omega⟩ (jin_of 1 rfl ⟨by omega, by omega⟩)
 refine jm_puti c1 hm rfl sh_137 rfl e12 ?_
 refine jx_load c1 hm rfl rfl rfl rfl ?_
 refine jx_getr c1 hm rfl sh_137 rfl ?_
 refine jx_load c1 hm rfl rfl rfl rfl ?_
 refine jx_getr c1 hm rfl sh_5 rfl ?_
 refine jv_v c3 hm rfl pj_X8_takeAll rfl rfl ⟨_, _, _, rfl, sh_144⟩ rfl (((ct_X8_takeAll_144_12 X (by omega) M12 hH12 ).lkv (by decide +kernel) rfl).le (by decide)) (fun M13 ⟨⟨hH13, hR13⟩, hL13⟩ => ?_)
 have hF13 := hF12.tr hR13 (by decide +kernel)
 refine jx_load c1 hm rfl rfl rfl rfl ?_
 refine jx_getr c1 hm rfl sh_137 rfl ?_
 refine jx_load c1 hm rfl rfl rfl rfl ?_
 refine jx_getr c1 hm rfl sh_5 rfl ?_
 refine jv_v c3 hm rfl pj_X7_takeAll rfl rfl ⟨_, _, _, rfl, sh_152⟩ rfl (((ct_X7_takeAll_152_20 X (by omega) M13 hH13 ).lkv (by decide +kernel) rfl).le (by decide)) (fun M14 ⟨⟨hH14, hR14⟩, hL14⟩ => ?_)
 have hF14 := hF13.tr hR14 (by decide +kernel)
 exact jx_retv c2 hm rfl rfl ⟨rfl, hH14, hF14, (fun σ hσ => HC.cp hσ (fun j hj => (((((((((hR14 138 j rfl).trans (hR13 138 j rfl)).trans (n12 138 j (fun h => absurd h.1 (by decide)))).trans (n9 138 j (fun h => absurd h.1 (by decide)))).trans (hR6 138 j rfl)).trans (hR5 138 j rfl)).trans (hR4 138 j rfl)).trans (n3 138 j)).trans (p1 j hj))) (fun k hk => (((((((((hL14 139 k (by decide +kernel)).trans (hL13 139 k (by decide +kernel))).trans (q12 139 k)).trans (q9 139 k)).trans (hL6 139 k (by decide +kernel))).trans (hL5 139 k (by decide +kernel))).trans (hL4 139 k (by decide +kernel))).trans (cpl_at e3 hk)).trans (hL2 7 k (by decide +kernel))))), ((((((((((LKs.rf [139] M0).lk hL2).cpl e3 rfl).lk hL4).lk hL5).lk hL6).eq q9).eq q12).lk hL13).lk hL14)⟩
def md_X11_copyRow_6_156n : List (Nat × (Nat × Nat)) := [(156, (0, 2))]
theorem ct_X11_copyRow_6_156n (X : Int) (hX : 0 ≤ X ∧ X ≤ 100000000) (M0 : JM) (hH0 : HI X M0)  : JOk shp PJ 1 29 [.inr (.inr (.inl 6)), .inr (.inr (.inl 156))] M0 (jRv (fun M' => HI X M' ∧ Fr md_X11_copyRow_6_156n M0 M' ∧ (∀ j : Nat, (j : Int) < 3 → M'.1 156 j = M0.1 6 j))) := by
 refine ⟨jr_X11_copyRow, pj_X11_copyRow, fun F c1 c2 c3 => ?_⟩
 have hm := pj_X11_copyRow
 change F 0 [some (.inr (.inr (.inl 6))), some (.inr (.inr (.inl 156)))] [] M0
 have hF0 : Fr md_X11_copyRow_6_156n M0 M0 := Fr.rf _ _
 refine jx_load c1 hm rfl rfl rfl rfl ?_
 refine jy_ic c1 hm rfl (by decide) ?_
 refine jx_load c1 hm rfl rfl rfl rfl ?_
 refine jy_ic c1 hm rfl (by decide) ?_
 refine jx_load c1 hm rfl rfl rfl rfl ?_
 refine jx_alen c1 hm (v := 3) rfl sh_6 rfl rfl ?_
 refine jx_load c1 hm rfl rfl rfl rfl ?_
 refine jx_alen c1 hm (v := 3) rfl sh_156 rfl rfl ?_
 refine jx_min c1 hm rfl rfl (fun z1 lz1 uz1 ez1 => ?_)
 obtain ⟨M2, e2, hH2, hF2, n2, _⟩ := mcp hH0 hF0 (c1 := 6) (c2 := 156) (n := z1) (fun _ _ => rfl) (fun j hj => jin_of 0 rfl ⟨by omega, by omega⟩)
 refine jm_acpi c1 hm rfl rfl sh_6 sh_156 ⟨by omega, by omega, by omega⟩ e2 ?_
 exact jx_retv c2 hm rfl rfl ⟨rfl, hH2, hF2, (fun j hj => cp_at e2 (by omega))⟩
def md_X2_takeAll_155_5n : List (Nat × (Nat × Nat)) := [(155, (6, 6)), (155, (7, 7)), (156, (0, 2)), (157, (0, 17)), (158, (0, 5)), (160, (0, 35)), (161, (0, 5)), (162, (7, 7)), (163, (0, 5)), (164, (0, 5)), (165, (0, 5)), (166, (0, 5)), (167, (0, 35)), (168, (0, 35)), (169, (0, 35)), (170, (2, 2)), (170, (3, 3)), (171, (0, 39))]
theorem ct_X2_takeAll_155_5n (X : Int) (hX : 0 ≤ X ∧ X ≤ 100000000) (M0 : JM) (hH0 : HI X M0)  : JOk shp PJ 3 231 [.inr (.inr (.inl 155)), .inr (.inr (.inl 5))] M0 (jRv (fun M' => HI X M' ∧ Fr md_X2_takeAll_155_5n M0 M' ∧ (∀ σ : PSt, HC M0 5 σ → HC M' 155 σ) ∧ (LKs [157] M0 M'))) := by
 refine ⟨jr_X2_takeAll, pj_X2_takeAll, fun F c1 c2 c3 => ?_⟩
 have hm := pj_X2_takeAll
 change F 0 [some (.inr (.inr (.inl 155))), some (.inr (.inr (.inl 5)))] [] M0
 have hF0 : Fr md_X2_takeAll_155_5n M0 M0 := Fr.rf _ _
 refine jx_load c1 hm rfl rfl rfl rfl ?_
 refine jx_getr c1 hm rfl sh_5 rfl ?_
 refine jx_load c1 hm rfl rfl rfl rfl ?_
 refine jx_getr c1 hm rfl sh_155 rfl ?_
 refine jt_v c3 hm rfl rfl pj_X11_copyRow rfl rfl rfl (((ct_X11_copyRow_6_156n X (by omega) M0 hH0 ).lkv (by decide +kernel) rfl).le (by decide)) (fun M2 ⟨⟨hH2, hR2, p1⟩, hL2⟩ => ?_)
 have hF2 := hF0.tr hR2 (by decide +kernel)
 refine jx_load c1 hm rfl rfl rfl rfl ?_
 refine jx_getr c1 hm rfl sh_5 rfl ?_
 refine jy_ic c1 hm rfl (by decide) ?_
 refine jx_load c1 hm rfl rfl rfl rfl ?_
 refine jx_getr c1 hm rfl sh_155 rfl ?_
 refine jy_ic c1 hm rfl (by decide) ?_
 refine jy_bp c1 hm rfl (by decide) ?_
 obtain ⟨M3, e3, hH3, hF3, n3⟩ := mcl hH2 hF2 (c1 := 7) (c2 := 157) (n := 18) rfl
 refine jm_acpl c1 hm rfl rfl sh_7 sh_157 ⟨by omega, by omega, by omega⟩ e3 ?_
 refine jx_load c1 hm rfl rfl rfl rfl ?_
 refine jx_getr c1 hm rfl sh_5 rfl ?_
 refine jx_load c1 hm rfl rfl rfl rfl ?_
 refine jx_getr c1 hm rfl sh_155 rfl ?_
 refine jt_v c3 hm rfl rfl pj_X11_copyRow rfl rfl rfl (((ct_X11_copyRow_8_158 X (by omega) M3 hH3 ).lkv (by decide +kernel) rfl).le (by decide)) (fun M4 ⟨⟨hH4, hR4⟩, hL4⟩ => ?_)
 have hF4 := hF3.tr hR4 (by decide +kernel)
 refine jx_load c1 hm rfl rfl rfl rfl ?_
 refine jx_getr c1 hm rfl sh_5 rfl ?_
 refine jx_load c1 hm rfl rfl rfl rfl ?_
 refine jx_getr c1 hm rfl sh_155 rfl ?_
 refine jt_v c3 hm rfl rfl pj_X11_copyRow rfl rfl rfl (((ct_X11_copyRow_10_160 X (by omega) M4 hH4 ).lkv (by decide +kernel) rfl).le (by decide)) (fun M5 ⟨⟨hH5, hR5⟩, hL5⟩ => ?_)
 have hF5 := hF4.tr hR5 (by decide +kernel)
 refine jx_load c1 hm rfl rfl rfl rfl ?_
 refine jx_getr c1 hm rfl sh_5 rfl ?_
 refine jx_load c1 hm rfl rfl rfl rfl ?_
 refine jx_getr c1 hm rfl sh_155 rfl ?_
 refine jt_v c3 hm rfl rfl pj_X11_copyRow rfl rfl rfl (((ct_X11_copyRow_11_161 X (by omega) M5 hH5 ).lkv (by decide +kernel) rfl).le (by decide)) (fun M6 ⟨⟨hH6, hR6⟩, hL6⟩ => ?_)
 have hF6 := hF5.tr hR6 (by decide +kernel)
 refine jx_load c1 hm rfl rfl rfl rfl ?_
 refine jx_load c1 hm rfl rfl rfl rfl ?_
 obtain ⟨z7, k8, lz7, uz7⟩ := hH6.ld (c := 5) (i := 6) (A := 0) (B := 9) (bs_20_1 _ _ (by omega) (by omega))
 refine jx_geti c1 hm rfl sh_5 rfl k8 ?_
 obtain ⟨M9, e9, hH9, hF9, k9, n9, q9⟩ := mup hH6 hF6 (c := 155) (i := 6) (v := z7) (A := 0) (B := 9) (bs_20_1 _ _ (by omega) (by omega)) ⟨by omega, by omega⟩ (jin_of 0 rfl ⟨by omega, by omega⟩)
 refine jm_puti c1 hm rfl sh_155 rfl e9 ?_
 refine jx_load c1 hm rfl rfl rfl rfl ?_
 refine jx_load c1 hm rfl rfl rfl rfl ?_
 obtain ⟨z10, k11, lz10, uz10⟩ := hH9.ld (c := 5) (i := 7) (A := 0) (B := 9) (bs_20_1 _ _ (by omega) (by omega))
 refine jx_geti c1 hm rfl sh_5 rfl k11 ?_
 obtain ⟨M12, e12, hH12, hF12, k12, n12, q12⟩ := mup hH9 hF9 (c := 155) (i := 7) (v := z10) (A := 0) (B := 9) (bs_20_1 _ _ (by omega) (by omega)) ⟨by omega, by omega⟩ (jin_of 1 rfl ⟨by omega, by omega⟩)
 refine jm_puti c1 hm rfl sh_155 rfl e12 ?_
 refine jx_load c1 hm rfl rfl rfl rfl ?_
 refine jx_getr c1 hm rfl sh_155 rfl ?_
 refine jx_load c1 hm rfl rfl rfl rfl ?_
 refine jx_getr c1 hm rfl sh_5 rfl ?_
 refine jv_v c3 hm rfl pj_X8_takeAll rfl rfl ⟨_, _, _, rfl, sh_162⟩ rfl (((ct_X8_takeAll_162_12 X (by omega) M12 hH12 ).lkv (by decide +kernel) rfl).le (by decide)) (fun M13 ⟨⟨hH13, hR13⟩, hL13⟩ => ?_)
 have hF13 := hF12.tr hR13 (by decide +kernel)
 refine jx_load c1 hm rfl rfl rfl rfl ?_
 refine jx_getr c1 hm rfl sh_155 rfl ?_
 refine jx_load c1 hm rfl rfl rfl rfl ?_
 refine jx_getr c1 hm rfl sh_5 rfl ?_
 refine jv_v c3 hm rfl pj_X7_takeAll rfl rfl ⟨_, _, _, rfl, sh_170⟩ rfl (((ct_X7_takeAll_170_20 X (by omega) M13 hH13 ).lkv (by decide +kernel) rfl).le (by decide)) (fun M14 ⟨⟨hH14, hR14⟩, hL14⟩ => ?_)
 have hF14 := hF13.tr hR14 (by decide +kernel)
 exact jx_retv c2 hm rfl rfl ⟨rfl, hH14, hF14, (fun σ hσ => HC.cp hσ (fun j hj => (((((((((hR14 156 j rfl).trans (hR13 156 j rfl)).trans (n12 156 j (fun h => absurd h.1 (by decide)))).trans (n9 156 j (fun h => absurd h.1 (by decide)))).trans (hR6 156 j rfl)).trans (hR5 156 j rfl)).trans (hR4 156 j rfl)).trans (n3 156 j)).trans (p1 j hj))) (fun k hk => (((((((((hL14 157 k (by decide +kernel)).trans (hL13 157 k (by decide +kernel))).trans (q12 157 k)).trans (q9 157 k)).trans (hL6 157 k (by decide +kernel))).trans (hL5 157 k (by decide +kernel))).trans (hL4 157 k (by decide +kernel))).trans (cpl_at e3 hk)).trans (hL2 7 k (by decide +kernel))))), ((((((((((LKs.rf [157] M0).lk hL2).cpl e3 rfl).lk hL4).lk hL5).lk hL6).eq q9).eq q12).lk hL13).lk hL14)⟩
def md_X11_image_0n : List (Nat × (Nat × Nat)) := [(46, (0, 0)), (46, (1, 1)), (137, (6, 6)), (137, (7, 7)), (138, (0, 2)), (139, (0, 17)), (140, (0, 5)), (142, (0, 35)), (143, (0, 5)), (144, (7, 7)), (145, (0, 5)), (146, (0, 5)), (147, (0, 5)), (148, (0, 5)), (149, (0, 35)), (150, (0, 35)), (151, (0, 35)), (152, (2, 2)), (152, (3, 3)), (153, (0, 39)), (155, (6, 6)), (155, (7, 7)), (156, (0, 2)), (157, (0, 17)), (158, (0, 5)), (160, (0, 35)), (161, (0, 5)), (162, (7, 7)), (163, (0, 5)), (164, (0, 5)), (165, (0, 5)), (166, (0, 5)), (167, (0, 35)), (168, (0, 35)), (169, (0, 35)), (170, (2, 2)), (170, (3, 3)), (171, (0, 39))]
theorem ct_X11_image_0n (X : Int) (hX : 0 ≤ X ∧ X ≤ 100000000) (M0 : JM) (hH0 : HI X M0) (a0 : Int) (ha0 : (-2147483648) ≤ a0 ∧ a0 ≤ 2147483647) : JOk shp PJ 4 44 [.inr (.inr (.inl 0)), .inl a0] M0 (jRi (fun v M' => HI X M' ∧ Fr md_X11_image_0n M0 M' ∧ 0 ≤ v ∧ v ≤ 1 ∧ (imP 46 a0 M0 M') ∧ (v = 1 → 0 ≤ a0 ∧ a0 ≤ 1) ∧ (v = 1 ∨ a0 < 0 ∨ 1 < a0) ∧ (IHC a0 v M0 M') ∧ (LKs [139, 157] M0 M'))) := by
 refine ⟨jr_X11_image, pj_X11_image, fun F c1 c2 c3 => ?_⟩
 have hm := pj_X11_image
 change F 0 [some (.inr (.inr (.inl 0))), some (.inl a0)] [] M0
 have hF0 : Fr md_X11_image_0n M0 M0 := Fr.rf _ _
 refine jx_load c1 hm rfl rfl rfl rfl ?_
 refine jz_lt c1 hm 9 rfl rfl (fun h1 => ?_) (fun h1 => ?_)
 ·
  refine jy_ic c1 hm rfl (by decide) ?_
  exact jx_retz c2 hm rfl rfl ⟨by omega, by omega⟩ ⟨_, rfl, hH0, hF0, by omega, by omega, (imP.no (fun _ => rfl) (by omega)), (by omega), (by omega), (IHC.no (by omega) (fun σ hσ => hσ) (fun σ hσ => hσ)), (LKs.rf [139, 157] M0)⟩
 refine jx_load c1 hm rfl rfl rfl rfl ?_
 refine jy_ic c1 hm rfl (by decide) ?_
 refine jc_lt c1 hm 11 rfl rfl (fun h2 => ?_) (fun h2 => ?_)
 ·
  refine jx_load c1 hm rfl rfl rfl rfl ?_
  refine jx_getr c1 hm rfl sh_0 rfl ?_
  refine jx_load c1 hm rfl rfl rfl rfl ?_
  have h3 : a0 = 0 ∨ a0 = 1 := by omega
  rcases h3 with h3 | h3
  ·
   refine jx_aald c1 hm rfl sh_45 (by omega) (by rw [h3]; rfl) ?_
   refine jx_load c1 hm rfl rfl rfl rfl ?_
   refine jx_getr c1 hm rfl sh_0 rfl ?_
   refine jv_v c3 hm rfl pj_X2_takeAll rfl rfl ⟨_, _, _, rfl, sh_137⟩ rfl ((ct_X2_takeAll_137_5n X (by omega) M0 hH0 ).le (by decide)) (fun M6 ⟨hH6, hR6, p4, p5⟩ => ?_)
   have hF6 := hF0.tr hR6 (by decide +kernel)
   refine jx_load c1 hm rfl rfl rfl rfl ?_
   refine jx_getr c1 hm rfl sh_0 rfl ?_
   refine jx_load c1 hm rfl rfl rfl rfl ?_
   refine jy_ic c1 hm rfl (by decide) ?_
   obtain ⟨M7, e7, hH7, hF7, k7, n7, q7⟩ := mup hH6 hF6 (c := 46) (i := (a0).toNat) (v := 1) (A := 0) (B := 1) rfl ⟨by omega, by omega⟩ (jin_of 0 rfl ⟨by omega, by omega⟩)
   refine jm_bast c1 hm rfl sh_46 (Or.inr ⟨rfl, by omega, by omega⟩) ⟨by omega, by omega⟩ e7 ?_
   refine jy_ic c1 hm rfl (by decide) ?_
   exact jx_retz c2 hm rfl rfl ⟨by omega, by omega⟩ ⟨_, rfl, hH7, hF7, by omega, by omega, (imP.st k7 n7 (fun j => (hR6 46 _ rfl)) (by omega)), (by omega), (by omega), (IHC.i0 (by omega) (by omega) (fun σ hσ => HC.cp (p4 σ (HC.cp hσ (fun j _ => rfl) (fun k _ => rfl))) (fun j _ => (n7 138 j (fun h => absurd h.1 (by decide)))) (fun k _ => (q7 139 k))) (fun σ hσ => HC.cp hσ (fun j _ => ((n7 156 j (fun h => absurd h.1 (by decide))).trans (hR6 156 j rfl))) (fun k _ => ((q7 157 k).trans (p5 157 k (by decide +kernel) rfl))))), (((LKs.rf [139, 157] M0).tr p5 rfl).eq q7)⟩
  ·
   refine jx_aald c1 hm rfl sh_45 (by omega) (by rw [h3]; rfl) ?_
   refine jx_load c1 hm rfl rfl rfl rfl ?_
   refine jx_getr c1 hm rfl sh_0 rfl ?_
   refine jv_v c3 hm rfl pj_X2_takeAll rfl rfl ⟨_, _, _, rfl, sh_155⟩ rfl ((ct_X2_takeAll_155_5n X (by omega) M0 hH0 ).le (by decide)) (fun M10 ⟨hH10, hR10, p8, p9⟩ => ?_)
   have hF10 := hF0.tr hR10 (by decide +kernel)
   refine jx_load c1 hm rfl rfl rfl rfl ?_
   refine jx_getr c1 hm rfl sh_0 rfl ?_
   refine jx_load c1 hm rfl rfl rfl rfl ?_
   refine jy_ic c1 hm rfl (by decide) ?_
   obtain ⟨M11, e11, hH11, hF11, k11, n11, q11⟩ := mup hH10 hF10 (c := 46) (i := (a0).toNat) (v := 1) (A := 0) (B := 1) rfl ⟨by omega, by omega⟩ (jin_of 1 rfl ⟨by omega, by omega⟩)
   refine jm_bast c1 hm rfl sh_46 (Or.inr ⟨rfl, by omega, by omega⟩) ⟨by omega, by omega⟩ e11 ?_
   refine jy_ic c1 hm rfl (by decide) ?_
   exact jx_retz c2 hm rfl rfl ⟨by omega, by omega⟩ ⟨_, rfl, hH11, hF11, by omega, by omega, (imP.st k11 n11 (fun j => (hR10 46 _ rfl)) (by omega)), (by omega), (by omega), (IHC.i1 (by omega) (by omega) (fun σ hσ => HC.cp (p8 σ (HC.cp hσ (fun j _ => rfl) (fun k _ => rfl))) (fun j _ => (n11 156 j (fun h => absurd h.1 (by decide)))) (fun k _ => (q11 157 k))) (fun σ hσ => HC.cp hσ (fun j _ => ((n11 138 j (fun h => absurd h.1 (by decide))).trans (hR10 138 j rfl))) (fun k _ => ((q11 139 k).trans (p9 139 k (by decide +kernel) rfl))))), (((LKs.rf [139, 157] M0).tr p9 rfl).eq q11)⟩
 refine jy_ic c1 hm rfl (by decide) ?_
 exact jx_retz c2 hm rfl rfl ⟨by omega, by omega⟩ ⟨_, rfl, hH0, hF0, by omega, by omega, (imP.no (fun _ => rfl) (by omega)), (by omega), (by omega), (IHC.no (by omega) (fun σ hσ => hσ) (fun σ hσ => hσ)), (LKs.rf [139, 157] M0)⟩
def md_X11_copyRow_138_6n : List (Nat × (Nat × Nat)) := [(6, (0, 2))]
theorem ct_X11_copyRow_138_6n (X : Int) (hX : 0 ≤ X ∧ X ≤ 100000000) (M0 : JM) (hH0 : HI X M0)  : JOk shp PJ 1 29 [.inr (.inr (.inl 138)), .inr (.inr (.inl 6))] M0 (jRv (fun M' => HI X M' ∧ Fr md_X11_copyRow_138_6n M0 M' ∧ (∀ j : Nat, (j : Int) < 3 → M'.1 6 j = M0.1 138 j))) := by
 refine ⟨jr_X11_copyRow, pj_X11_copyRow, fun F c1 c2 c3 => ?_⟩
 have hm := pj_X11_copyRow
 change F 0 [some (.inr (.inr (.inl 138))), some (.inr (.inr (.inl 6)))] [] M0
 have hF0 : Fr md_X11_copyRow_138_6n M0 M0 := Fr.rf _ _
 refine jx_load c1 hm rfl rfl rfl rfl ?_
 refine jy_ic c1 hm rfl (by decide) ?_
 refine jx_load c1 hm rfl rfl rfl rfl ?_
 refine jy_ic c1 hm rfl (by decide) ?_
 refine jx_load c1 hm rfl rfl rfl rfl ?_
 refine jx_alen c1 hm (v := 3) rfl sh_138 rfl rfl ?_
 refine jx_load c1 hm rfl rfl rfl rfl ?_
 refine jx_alen c1 hm (v := 3) rfl sh_6 rfl rfl ?_
 refine jx_min c1 hm rfl rfl (fun z1 lz1 uz1 ez1 => ?_)
 obtain ⟨M2, e2, hH2, hF2, n2, _⟩ := mcp hH0 hF0 (c1 := 138) (c2 := 6) (n := z1) (fun _ _ => rfl) (fun j hj => jin_of 0 rfl ⟨by omega, by omega⟩)
 refine jm_acpi c1 hm rfl rfl sh_138 sh_6 ⟨by omega, by omega, by omega⟩ e2 ?_
 exact jx_retv c2 hm rfl rfl ⟨rfl, hH2, hF2, (fun j hj => cp_at e2 (by omega))⟩
def md_X2_takeAll_5_137n : List (Nat × (Nat × Nat)) := [(5, (6, 6)), (5, (7, 7)), (6, (0, 2)), (7, (0, 17)), (8, (0, 5)), (10, (0, 35)), (11, (0, 5)), (12, (7, 7)), (13, (0, 5)), (14, (0, 5)), (15, (0, 5)), (16, (0, 5)), (17, (0, 35)), (18, (0, 35)), (19, (0, 35)), (20, (2, 2)), (20, (3, 3)), (21, (0, 39))]
theorem ct_X2_takeAll_5_137n (X : Int) (hX : 0 ≤ X ∧ X ≤ 100000000) (M0 : JM) (hH0 : HI X M0)  : JOk shp PJ 3 231 [.inr (.inr (.inl 5)), .inr (.inr (.inl 137))] M0 (jRv (fun M' => HI X M' ∧ Fr md_X2_takeAll_5_137n M0 M' ∧ (∀ σ : PSt, HC M0 137 σ → HC M' 5 σ) ∧ (LKs [7] M0 M'))) := by
 refine ⟨jr_X2_takeAll, pj_X2_takeAll, fun F c1 c2 c3 => ?_⟩
 have hm := pj_X2_takeAll
 change F 0 [some (.inr (.inr (.inl 5))), some (.inr (.inr (.inl 137)))] [] M0
 have hF0 : Fr md_X2_takeAll_5_137n M0 M0 := Fr.rf _ _
 refine jx_load c1 hm rfl rfl rfl rfl ?_
 refine jx_getr c1 hm rfl sh_137 rfl ?_
 refine jx_load c1 hm rfl rfl rfl rfl ?_
 refine jx_getr c1 hm rfl sh_5 rfl ?_
 refine jt_v c3 hm rfl rfl pj_X11_copyRow rfl rfl rfl (((ct_X11_copyRow_138_6n X (by omega) M0 hH0 ).lkv (by decide +kernel) rfl).le (by decide)) (fun M2 ⟨⟨hH2, hR2, p1⟩, hL2⟩ => ?_)
 have hF2 := hF0.tr hR2 (by decide +kernel)
 refine jx_load c1 hm rfl rfl rfl rfl ?_
 refine jx_getr c1 hm rfl sh_137 rfl ?_
 refine jy_ic c1 hm rfl (by decide) ?_
 refine jx_load c1 hm rfl rfl rfl rfl ?_
 refine jx_getr c1 hm rfl sh_5 rfl ?_
 refine jy_ic c1 hm rfl (by decide) ?_
 refine jy_bp c1 hm rfl (by decide) ?_
 obtain ⟨M3, e3, hH3, hF3, n3⟩ := mcl hH2 hF2 (c1 := 139) (c2 := 7) (n := 18) rfl
 refine jm_acpl c1 hm rfl rfl sh_139 sh_7 ⟨by omega, by omega, by omega⟩ e3 ?_
 refine jx_load c1 hm rfl rfl rfl rfl ?_
 refine jx_getr c1 hm rfl sh_137 rfl ?_
 refine jx_load c1 hm rfl rfl rfl rfl ?_
 refine jx_getr c1 hm rfl sh_5 rfl ?_
 refine jt_v c3 hm rfl rfl pj_X11_copyRow rfl rfl rfl (((ct_X11_copyRow_140_8 X (by omega) M3 hH3 ).lkv (by decide +kernel) rfl).le (by decide)) (fun M4 ⟨⟨hH4, hR4⟩, hL4⟩ => ?_)
 have hF4 := hF3.tr hR4 (by decide +kernel)
 refine jx_load c1 hm rfl rfl rfl rfl ?_
 refine jx_getr c1 hm rfl sh_137 rfl ?_
 refine jx_load c1 hm rfl rfl rfl rfl ?_
 refine jx_getr c1 hm rfl sh_5 rfl ?_
 refine jt_v c3 hm rfl rfl pj_X11_copyRow rfl rfl rfl (((ct_X11_copyRow_142_10 X (by omega) M4 hH4 ).lkv (by decide +kernel) rfl).le (by decide)) (fun M5 ⟨⟨hH5, hR5⟩, hL5⟩ => ?_)
 have hF5 := hF4.tr hR5 (by decide +kernel)
 refine jx_load c1 hm rfl rfl rfl rfl ?_
 refine jx_getr c1 hm rfl sh_137 rfl ?_
 refine jx_load c1 hm rfl rfl rfl rfl ?_
 refine jx_getr c1 hm rfl sh_5 rfl ?_
 refine jt_v c3 hm rfl rfl pj_X11_copyRow rfl rfl rfl (((ct_X11_copyRow_143_11 X (by omega) M5 hH5 ).lkv (by decide +kernel) rfl).le (by decide)) (fun M6 ⟨⟨hH6, hR6⟩, hL6⟩ => ?_)
 have hF6 := hF5.tr hR6 (by decide +kernel)
 refine jx_load c1 hm rfl rfl rfl rfl ?_
 refine jx_load c1 hm rfl rfl rfl rfl ?_
 obtain ⟨z7, k8, lz7, uz7⟩ := hH6.ld (c := 137) (i := 6) (A := 0) (B := 9) (bs_20_1 _ _ (by omega) (by omega))
 refine jx_geti c1 hm rfl sh_137 rfl k8 ?_
 obtain ⟨M9, e9, hH9, hF9, k9, n9, q9⟩ := mup hH6 hF6 (c := 5) (i := 6) (v := z7) (A := 0) (B := 9) (bs_20_1 _ _ (by omega) (by omega)) ⟨by omega, by omega⟩ (jin_of 0 rfl ⟨by omega, by omega⟩)
 refine jm_puti c1 hm rfl sh_5 rfl e9 ?_
 refine jx_load c1 hm rfl rfl rfl rfl ?_
 refine jx_load c1 hm rfl rfl rfl rfl ?_
 obtain ⟨z10, k11, lz10, uz10⟩ := hH9.ld (c := 137) (i := 7) (A := 0) (B := 9) (bs_20_1 _ _ (by omega) (by omega))
 refine jx_geti c1 hm rfl sh_137 rfl k11 ?_
 obtain ⟨M12, e12, hH12, hF12, k12, n12, q12⟩ := mup hH9 hF9 (c := 5) (i := 7) (v := z10) (A := 0) (B := 9) (bs_20_1 _ _ (by omega) (by omega)) ⟨by omega, by omega⟩ (jin_of 1 rfl ⟨by omega, by omega⟩)
 refine jm_puti c1 hm rfl sh_5 rfl e12 ?_
 refine jx_load c1 hm rfl rfl rfl rfl ?_
 refine jx_getr c1 hm rfl sh_5 rfl ?_
 refine jx_load c1 hm rfl rfl rfl rfl ?_
 refine jx_getr c1 hm rfl sh_137 rfl ?_
 refine jv_v c3 hm rfl pj_X8_takeAll rfl rfl ⟨_, _, _, rfl, sh_12⟩ rfl (((ct_X8_takeAll_12_144 X (by omega) M12 hH12 ).lkv (by decide +kernel) rfl).le (by decide)) (fun M13 ⟨⟨hH13, hR13⟩, hL13⟩ => ?_)
 have hF13 := hF12.tr hR13 (by decide +kernel)
 refine jx_load c1 hm rfl rfl rfl rfl ?_
 refine jx_getr c1 hm rfl sh_5 rfl ?_
 refine jx_load c1 hm rfl rfl rfl rfl ?_
 refine jx_getr c1 hm rfl sh_137 rfl ?_
 refine jv_v c3 hm rfl pj_X7_takeAll rfl rfl ⟨_, _, _, rfl, sh_20⟩ rfl (((ct_X7_takeAll_20_152 X (by omega) M13 hH13 ).lkv (by decide +kernel) rfl).le (by decide)) (fun M14 ⟨⟨hH14, hR14⟩, hL14⟩ => ?_)
 have hF14 := hF13.tr hR14 (by decide +kernel)
 exact jx_retv c2 hm rfl rfl ⟨rfl, hH14, hF14, (fun σ hσ => HC.cp hσ (fun j hj => (((((((((hR14 6 j rfl).trans (hR13 6 j rfl)).trans (n12 6 j (fun h => absurd h.1 (by decide)))).trans (n9 6 j (fun h => absurd h.1 (by decide)))).trans (hR6 6 j rfl)).trans (hR5 6 j rfl)).trans (hR4 6 j rfl)).trans (n3 6 j)).trans (p1 j hj))) (fun k hk => (((((((((hL14 7 k (by decide +kernel)).trans (hL13 7 k (by decide +kernel))).trans (q12 7 k)).trans (q9 7 k)).trans (hL6 7 k (by decide +kernel))).trans (hL5 7 k (by decide +kernel))).trans (hL4 7 k (by decide +kernel))).trans (cpl_at e3 hk)).trans (hL2 139 k (by decide +kernel))))), ((((((((((LKs.rf [7] M0).lk hL2).cpl e3 rfl).lk hL4).lk hL5).lk hL6).eq q9).eq q12).lk hL13).lk hL14)⟩
def md_X11_copyRow_156_6n : List (Nat × (Nat × Nat)) := [(6, (0, 2))]
theorem ct_X11_copyRow_156_6n (X : Int) (hX : 0 ≤ X ∧ X ≤ 100000000) (M0 : JM) (hH0 : HI X M0)  : JOk shp PJ 1 29 [.inr (.inr (.inl 156)), .inr (.inr (.inl 6))] M0 (jRv (fun M' => HI X M' ∧ Fr md_X11_copyRow_156_6n M0 M' ∧ (∀ j : Nat, (j : Int) < 3 → M'.1 6 j = M0.1 156 j))) := by
 refine ⟨jr_X11_copyRow, pj_X11_copyRow, fun F c1 c2 c3 => ?_⟩
 have hm := pj_X11_copyRow
 change F 0 [some (.inr (.inr (.inl 156))), some (.inr (.inr (.inl 6)))] [] M0
 have hF0 : Fr md_X11_copyRow_156_6n M0 M0 := Fr.rf _ _
 refine jx_load c1 hm rfl rfl rfl rfl ?_
 refine jy_ic c1 hm rfl (by decide) ?_
 refine jx_load c1 hm rfl rfl rfl rfl ?_
 refine jy_ic c1 hm rfl (by decide) ?_
 refine jx_load c1 hm rfl rfl rfl rfl ?_
 refine jx_alen c1 hm (v := 3) rfl sh_156 rfl rfl ?_
 refine jx_load c1 hm rfl rfl rfl rfl ?_
 refine jx_alen c1 hm (v := 3) rfl sh_6 rfl rfl ?_
 refine jx_min c1 hm rfl rfl (fun z1 lz1 uz1 ez1 => ?_)
 obtain ⟨M2, e2, hH2, hF2, n2, _⟩ := mcp hH0 hF0 (c1 := 156) (c2 := 6) (n := z1) (fun _ _ => rfl) (fun j hj => jin_of 0 rfl ⟨by omega, by omega⟩)
 refine jm_acpi c1 hm rfl rfl sh_156 sh_6 ⟨by omega, by omega, by omega⟩ e2 ?_
 exact jx_retv c2 hm rfl rfl ⟨rfl, hH2, hF2, (fun j hj => cp_at e2 (by omega))⟩
def md_X2_takeAll_5_155n : List (Nat × (Nat × Nat)) := [(5, (6, 6)), (5, (7, 7)), (6, (0, 2)), (7, (0, 17)), (8, (0, 5)), (10, (0, 35)), (11, (0, 5)), (12, (7, 7)), (13, (0, 5)), (14, (0, 5)), (15, (0, 5)), (16, (0, 5)), (17, (0, 35)), (18, (0, 35)), (19, (0, 35)), (20, (2, 2)), (20, (3, 3)), (21, (0, 39))]
theorem ct_X2_takeAll_5_155n (X : Int) (hX : 0 ≤ X ∧ X ≤ 100000000) (M0 : JM) (hH0 : HI X M0)  : JOk shp PJ 3 231 [.inr (.inr (.inl 5)), .inr (.inr (.inl 155))] M0 (jRv (fun M' => HI X M' ∧ Fr md_X2_takeAll_5_155n M0 M' ∧ (∀ σ : PSt, HC M0 155 σ → HC M' 5 σ) ∧ (LKs [7] M0 M'))) := by
 refine ⟨jr_X2_takeAll, pj_X2_takeAll, fun F c1 c2 c3 => ?_⟩
 have hm := pj_X2_takeAll
 change F 0 [some (.inr (.inr (.inl 5))), some (.inr (.inr (.inl 155)))] [] M0
 have hF0 : Fr md_X2_takeAll_5_155n M0 M0 := Fr.rf _ _
 refine jx_load c1 hm rfl rfl rfl rfl ?_
 refine jx_getr c1 hm rfl sh_155 rfl ?_
 refine jx_load c1 hm rfl rfl rfl rfl ?_
 refine jx_getr c1 hm rfl sh_5 rfl ?_
 refine jt_v c3 hm rfl rfl pj_X11_copyRow rfl rfl rfl (((ct_X11_copyRow_156_6n X (by omega) M0 hH0 ).lkv (by decide +kernel) rfl).le (by decide)) (fun M2 ⟨⟨hH2, hR2, p1⟩, hL2⟩ => ?_)
 have hF2 := hF0.tr hR2 (by decide +kernel)
 refine jx_load c1 hm rfl rfl rfl rfl ?_
 refine jx_getr c1 hm rfl sh_155 rfl ?_
 refine jy_ic c1 hm rfl (by decide) ?_
 refine jx_load c1 hm rfl rfl rfl rfl ?_
 refine jx_getr c1 hm rfl sh_5 rfl ?_
 refine jy_ic c1 hm rfl (by decide) ?_
 refine jy_bp c1 hm rfl (by decide) ?_
 obtain ⟨M3, e3, hH3, hF3, n3⟩ := mcl hH2 hF2 (c1 := 157) (c2 := 7) (n := 18) rfl
 refine jm_acpl c1 hm rfl rfl sh_157 sh_7 ⟨by omega, by omega, by omega⟩ e3 ?_
 refine jx_load c1 hm rfl rfl rfl rfl ?_
 refine jx_getr c1 hm rfl sh_155 rfl ?_
 refine jx_load c1 hm rfl rfl rfl rfl ?_
 refine jx_getr c1 hm rfl sh_5 rfl ?_
 refine jt_v c3 hm rfl rfl pj_X11_copyRow rfl rfl rfl (((ct_X11_copyRow_158_8 X (by omega) M3 hH3 ).lkv (by decide +kernel) rfl).le (by decide)) (fun M4 ⟨⟨hH4, hR4⟩, hL4⟩ => ?_)
 have hF4 := hF3.tr hR4 (by decide +kernel)
 refine jx_load c1 hm rfl rfl rfl rfl ?_
 refine jx_getr c1 hm rfl sh_155 rfl ?_
 refine jx_load c1 hm rfl rfl rfl rfl ?_
 refine jx_getr c1 hm rfl sh_5 rfl ?_
 refine jt_v c3 hm rfl rfl pj_X11_copyRow rfl rfl rfl (((ct_X11_copyRow_160_10 X (by omega) M4 hH4 ).lkv (by decide +kernel) rfl).le (by decide)) (fun M5 ⟨⟨hH5, hR5⟩, hL5⟩ => ?_)
 have hF5 := hF4.tr hR5 (by decide +kernel)
 refine jx_load c1 hm rfl rfl rfl rfl ?_
 refine jx_getr c1 hm rfl sh_155 rfl ?_
 refine jx_load c1 hm rfl rfl rfl rfl ?_
 refine jx_getr c1 hm rfl sh_5 rfl ?_
 refine jt_v c3 hm rfl rfl pj_X11_copyRow rfl rfl rfl (((ct_X11_copyRow_161_11 X (by omega) M5 hH5 ).lkv (by decide +kernel) rfl).le (by decide)) (fun M6 ⟨⟨hH6, hR6⟩, hL6⟩ => ?_)
 have hF6 := hF5.tr hR6 (by decide +kernel)
 refine jx_load c1 hm rfl rfl rfl rfl ?_
 refine jx_load c1 hm rfl rfl rfl rfl ?_
 obtain ⟨z7, k8, lz7, uz7⟩ := hH6.ld (c := 155) (i := 6) (A := 0) (B := 9) (bs_20_1 _ _ (by omega) (by omega))
 refine jx_geti c1 hm rfl sh_155 rfl k8 ?_
 obtain ⟨M9, e9, hH9, hF9, k9, n9, q9⟩ := mup hH6 hF6 (c := 5) (i := 6) (v := z7) (A := 0) (B := 9) (bs_20_1 _ _ (by omega) (by omega)) ⟨by omega, by omega⟩ (jin_of 0 rfl ⟨by omega, by omega⟩)
 refine jm_puti c1 hm rfl sh_5 rfl e9 ?_
 refine jx_load c1 hm rfl rfl rfl rfl ?_
 refine jx_load c1 hm rfl rfl rfl rfl ?_
 obtain ⟨z10, k11, lz10, uz10⟩ := hH9.ld (c := 155) (i := 7) (A := 0) (B := 9) (bs_20_1 _ _ (by omega) (by omega))
 refine jx_geti c1 hm rfl sh_155 rfl k11 ?_
 obtain ⟨M12, e12, hH12, hF12, k12, n12, q12⟩ := mup hH9 hF9 (c := 5) (i := 7) (v := z10) (A := 0) (B := 9) (bs_20_1 _ _ (by omega) (by omega)) ⟨by omega, by omega⟩ (jin_of 1 rfl ⟨by omega, by omega⟩)
 refine jm_puti c1 hm rfl sh_5 rfl e12 ?_
 refine jx_load c1 hm rfl rfl rfl rfl ?_
 refine jx_getr c1 hm rfl sh_5 rfl ?_
 refine jx_load c1 hm rfl rfl rfl rfl ?_
 refine jx_getr c1 hm rfl sh_155 rfl ?_
 refine jv_v c3 hm rfl pj_X8_takeAll rfl rfl ⟨_, _, _, rfl, sh_12⟩ rfl (((ct_X8_takeAll_12_162 X (by omega) M12 hH12 ).lkv (by decide +kernel) rfl).le (by decide)) (fun M13 ⟨⟨hH13, hR13⟩, hL13⟩ => ?_)
 have hF13 := hF12.tr hR13 (by decide +kernel)
 refine jx_load c1 hm rfl rfl rfl rfl ?_
 refine jx_getr c1 hm rfl sh_5 rfl ?_
 refine jx_load c1 hm rfl rfl rfl rfl ?_
 refine jx_getr c1 hm rfl sh_155 rfl ?_
 refine jv_v c3 hm rfl pj_X7_takeAll rfl rfl ⟨_, _, _, rfl, sh_20⟩ rfl (((ct_X7_takeAll_20_170 X (by omega) M13 hH13 ).lkv (by decide +kernel) rfl).le (by decide)) (fun M14 ⟨⟨hH14, hR14⟩, hL14⟩ => ?_)
 have hF14 := hF13.tr hR14 (by decide +kernel)
 exact jx_retv c2 hm rfl rfl ⟨rfl, hH14, hF14, (fun σ hσ => HC.cp hσ (fun j hj => (((((((((hR14 6 j rfl).trans (hR13 6 j rfl)).trans (n12 6 j (fun h => absurd h.1 (by decide)))).trans (n9 6 j (fun h => absurd h.1 (by decide)))).trans (hR6 6 j rfl)).trans (hR5 6 j rfl)).trans (hR4 6 j rfl)).trans (n3 6 j)).trans (p1 j hj))) (fun k hk => (((((((((hL14 7 k (by decide +kernel)).trans (hL13 7 k (by decide +kernel))).trans (q12 7 k)).trans (q9 7 k)).trans (hL6 7 k (by decide +kernel))).trans (hL5 7 k (by decide +kernel))).trans (hL4 7 k (by decide +kernel))).trans (cpl_at e3 hk)).trans (hL2 157 k (by decide +kernel))))), ((((((((((LKs.rf [7] M0).lk hL2).cpl e3 rfl).lk hL4).lk hL5).lk hL6).eq q9).eq q12).lk hL13).lk hL14)⟩
def md_X11_restore_0n : List (Nat × (Nat × Nat)) := [(5, (6, 6)), (5, (7, 7)), (6, (0, 2)), (7, (0, 17)), (8, (0, 5)), (10, (0, 35)), (11, (0, 5)), (12, (7, 7)), (13, (0, 5)), (14, (0, 5)), (15, (0, 5)), (16, (0, 5)), (17, (0, 35)), (18, (0, 35)), (19, (0, 35)), (20, (2, 2)), (20, (3, 3)), (21, (0, 39)), (55, (2, 2))]
theorem ct_X11_restore_0n (X : Int) (hX : 0 ≤ X ∧ X ≤ 100000000) (M0 : JM) (hH0 : HI X M0) (a0 : Int) (ha0 : (-2147483648) ≤ a0 ∧ a0 ≤ 2147483647) : JOk shp PJ 4 60 [.inr (.inr (.inl 0)), .inl a0] M0 (jRi (fun v M' => HI X M' ∧ Fr md_X11_restore_0n M0 M' ∧ 0 ≤ v ∧ v ≤ 1 ∧ (v = imR 46 a0 M0) ∧ (RHC a0 v M0 M') ∧ (LKs [7] M0 M'))) := by
 refine ⟨jr_X11_restore, pj_X11_restore, fun F c1 c2 c3 => ?_⟩
 have hm := pj_X11_restore
 change F 0 [some (.inr (.inr (.inl 0))), some (.inl a0)] [] M0
 have hF0 : Fr md_X11_restore_0n M0 M0 := Fr.rf _ _
 refine jx_load c1 hm rfl rfl rfl rfl ?_
 refine jz_lt c1 hm 18 rfl rfl (fun h1 => ?_) (fun h1 => ?_)
 ·
  refine jy_ic c1 hm rfl (by decide) ?_
  exact jx_retz c2 hm rfl rfl ⟨by omega, by omega⟩ ⟨_, rfl, hH0, hF0, by omega, by omega, (by unfold imR; split <;> omega), (RHC.no (by omega) (fun σ hσ => HC.cp hσ (fun j _ => rfl) (fun k _ => rfl))), (LKs.rf [7] M0)⟩
 refine jx_load c1 hm rfl rfl rfl rfl ?_
 refine jy_ic c1 hm rfl (by decide) ?_
 refine jc_ge c1 hm 18 rfl rfl (fun h2 => ?_) (fun h2 => ?_)
 ·
  refine jy_ic c1 hm rfl (by decide) ?_
  exact jx_retz c2 hm rfl rfl ⟨by omega, by omega⟩ ⟨_, rfl, hH0, hF0, by omega, by omega, (by unfold imR; split <;> omega), (RHC.no (by omega) (fun σ hσ => HC.cp hσ (fun j _ => rfl) (fun k _ => rfl))), (LKs.rf [7] M0)⟩
 refine jx_load c1 hm rfl rfl rfl rfl ?_
 refine jx_getr c1 hm rfl sh_0 rfl ?_
 refine jx_load c1 hm rfl rfl rfl rfl ?_
 obtain ⟨z3, k4, lz3, uz3⟩ := hH0.ld (c := 46) (i := (a0).toNat) (A := 0) (B := 1) rfl
 refine jx_bald c1 hm rfl sh_46 rfl ⟨by omega, by omega⟩ k4 ?_
 refine jz_ne c1 hm 20 rfl rfl (fun h5 => ?_) (fun h5 => ?_)
 ·
  refine jx_load c1 hm rfl rfl rfl rfl ?_
  refine jx_getr c1 hm rfl sh_0 rfl ?_
  refine jx_load c1 hm rfl rfl rfl rfl ?_
  refine jx_getr c1 hm rfl sh_0 rfl ?_
  refine jx_load c1 hm rfl rfl rfl rfl ?_
  have h6 : a0 = 0 ∨ a0 = 1 := by omega
  rcases h6 with h6 | h6
  ·
   refine jx_aald c1 hm rfl sh_45 (by omega) (by rw [h6]; rfl) ?_
   refine jv_v c3 hm rfl pj_X2_takeAll rfl rfl ⟨_, _, _, rfl, sh_5⟩ rfl ((ct_X2_takeAll_5_137n X (by omega) M0 hH0 ).le (by decide)) (fun M9 ⟨hH9, hR9, p7, p8⟩ => ?_)
   have hF9 := hF0.tr hR9 (by decide +kernel)
   refine jx_load c1 hm rfl rfl rfl rfl ?_
   refine jx_getr c1 hm rfl sh_0 rfl ?_
   refine jv_v c3 hm rfl pj_X4_forget rfl rfl ⟨_, _, _, rfl, sh_55⟩ rfl (((ct_X4_forget_55 X (by omega) M9 hH9 ).lkv (by decide +kernel) rfl).le (by decide)) (fun M10 ⟨⟨hH10, hR10⟩, hL10⟩ => ?_)
   have hF10 := hF9.tr hR10 (by decide +kernel)
   refine jy_ic c1 hm rfl (by decide) ?_
   exact jx_retz c2 hm rfl rfl ⟨by omega, by omega⟩ ⟨_, rfl, hH10, hF10, by omega, by omega, (by unfold imR; split <;> omega), (RHC.i0 (by omega) (by omega) (fun σ hσ => HC.cp (p7 σ (HC.cp hσ (fun j _ => rfl) (fun k _ => rfl))) (fun j _ => (hR10 6 j rfl)) (fun k _ => (hL10 7 k (by decide +kernel))))), (((LKs.rf [7] M0).tr p8 rfl).lk hL10)⟩
  ·
   refine jx_aald c1 hm rfl sh_45 (by omega) (by rw [h6]; rfl) ?_
   refine jv_v c3 hm rfl pj_X2_takeAll rfl rfl ⟨_, _, _, rfl, sh_5⟩ rfl ((ct_X2_takeAll_5_155n X (by omega) M0 hH0 ).le (by decide)) (fun M13 ⟨hH13, hR13, p11, p12⟩ => ?_)
   have hF13 := hF0.tr hR13 (by decide +kernel)
   refine jx_load c1 hm rfl rfl rfl rfl ?_
   refine jx_getr c1 hm rfl sh_0 rfl ?_
   refine jv_v c3 hm rfl pj_X4_forget rfl rfl ⟨_, _, _, rfl, sh_55⟩ rfl (((ct_X4_forget_55 X (by omega) M13 hH13 ).lkv (by decide +kernel) rfl).le (by decide)) (fun M14 ⟨⟨hH14, hR14⟩, hL14⟩ => ?_)
   have hF14 := hF13.tr hR14 (by decide +kernel)
   refine jy_ic c1 hm rfl (by decide) ?_
   exact jx_retz c2 hm rfl rfl ⟨by omega, by omega⟩ ⟨_, rfl, hH14, hF14, by omega, by omega, (by unfold imR; split <;> omega), (RHC.i1 (by omega) (by omega) (fun σ hσ => HC.cp (p11 σ (HC.cp hσ (fun j _ => rfl) (fun k _ => rfl))) (fun j _ => (hR14 6 j rfl)) (fun k _ => (hL14 7 k (by decide +kernel))))), (((LKs.rf [7] M0).tr p12 rfl).lk hL14)⟩
 refine jy_ic c1 hm rfl (by decide) ?_
 exact jx_retz c2 hm rfl rfl ⟨by omega, by omega⟩ ⟨_, rfl, hH0, hF0, by omega, by omega, (by unfold imR; split <;> omega), (RHC.no (by omega) (fun σ hσ => HC.cp hσ (fun j _ => rfl) (fun k _ => rfl))), (LKs.rf [7] M0)⟩
def md_X12_image_173n : List (Nat × (Nat × Nat)) := [(173, (0, 0)), (177, (0, 951)), (183, (0, 1))]
theorem ct_X12_image_173n (X : Int) (hX : 0 ≤ X ∧ X ≤ 100000000) (M0 : JM) (hH0 : HI X M0) (a0 : Int) (ha0 : (-2147483648) ≤ a0 ∧ a0 ≤ 2147483647) (hp0 : SOK M0) (hp1 : KOK M0 0) (hp2 : KOK M0 1) : JOk shp PJ 2 114 [.inr (.inr (.inl 173)), .inl a0] M0 (jRi (fun v M' => HI X M' ∧ Fr md_X12_image_173n M0 M' ∧ 0 ≤ v ∧ v ≤ 1 ∧ (KOK M' 0) ∧ (KOK M' 1) ∧ (imP 183 a0 M0 M') ∧ (v = 1 → 0 ≤ a0 ∧ a0 ≤ 1) ∧ (v = 1 ∨ a0 < 0 ∨ 1 < a0) ∧ (IHN a0 v M0 M') ∧ (LKs [182] M0 M'))) := by
 refine ⟨jr_X12_image, pj_X12_image, fun F c1 c2 c3 => ?_⟩
 have hm := pj_X12_image
 change F 0 [some (.inr (.inr (.inl 173))), some (.inl a0), none] [] M0
 have hF0 : Fr md_X12_image_173n M0 M0 := Fr.rf _ _
 refine jx_load c1 hm rfl rfl rfl rfl ?_
 refine jy_ic c1 hm rfl (by decide) ?_
 obtain ⟨M1, e1, hH1, hF1, k1, n1, q1⟩ := mup hH0 hF0 (c := 173) (i := 0) (v := 0) (A := (-2147483648)) (B := 2147483647) (bs_28_0 _ _ (by omega) (by omega)) ⟨by omega, by omega⟩ (jin_of 0 rfl ⟨by omega, by omega⟩)
 refine jm_puti c1 hm rfl sh_173 rfl e1 ?_
 refine jx_load c1 hm rfl rfl rfl rfl ?_
 refine jy_ic c1 hm rfl (by decide) ?_
 refine jy_ic c1 hm rfl (by decide) ?_
 refine jt_i c3 hm rfl rfl pj_X12_isIn rfl rfl rfl ((ct_X12_isInp X (by omega) M1 hH1 a0 ⟨by omega, by omega⟩ 0 ⟨by omega, by omega⟩ 1 ⟨by omega, by omega⟩).le (by decide)) (fun z2 _ ⟨rfl, lz2, uz2, p3, p4⟩ => ?_)
 refine jz_ne c1 hm 16 rfl rfl (fun h5 => ?_) (fun h5 => ?_)
 ·
  refine jy_ic c1 hm rfl (by decide) ?_
  refine jx_stor c1 hm (L' := [some (.inr (.inr (.inl 173))), some (.inl a0), some (.inl 0)]) rfl rfl rfl rfl rfl ?_
  have W13 : ∀ (n14 : Nat) (b6 : Int) (hb6 : 0 ≤ b6 ∧ b6 ≤ 476) (M7 : JM) (hH7 : HI (X) M7) (hF7 : Fr md_X12_image_173n M0 M7) (k8 : M7.1 173 0 = 0) (hcI : ∀ j : Nat, (j : Int) < b6 → M7.1 177 (476 * (a0).toNat + j) = M0.1 175 j) (hcO : ∀ j : Nat, j < 476 * (a0).toNat ∨ 476 * (a0).toNat + 476 ≤ j → M7.1 177 j = M0.1 177 j) (hcK : ∀ j : Nat, M7.1 183 j = M0.1 183 j) (hlx0 : LKs [] M0 M7), (-b6 + 476) < (n14 : Int) → F 18 [some (.inr (.inr (.inl 173))), some (.inl a0), some (.inl b6)] [] M7 := by
   intro n14
   induction n14 with
   | zero => intros; omega
   | succ n14 ihW13 =>
    intro b6 hb6 M7 hH7 hF7 k8 hcI hcO hcK hlx0 hrW13
    refine jx_load c1 hm rfl rfl rfl rfl ?_
    refine jy_sp c1 hm rfl (by decide) ?_
    refine jc_ge c1 hm 49 rfl rfl (fun h15 => ?_) (fun h15 => ?_)
    ·
     refine jy_ic c1 hm rfl (by decide) ?_
     refine jx_stor c1 hm (L' := [some (.inr (.inr (.inl 173))), some (.inl a0), some (.inl 0)]) rfl rfl rfl rfl rfl ?_
     have W28 : ∀ (n29 : Nat) (b19 : Int) (hb19 : 0 ≤ b19 ∧ b19 ≤ 18) (M20 : JM) (hH20 : HI (X) M20) (hF20 : Fr md_X12_image_173n M0 M20) (k21 : M20.1 173 0 = 0) (hcI : ∀ j : Nat, j < 476 → M20.1 177 (476 * (a0).toNat + j) = M0.1 175 j) (hcO : ∀ j : Nat, j < 476 * (a0).toNat ∨ 476 * (a0).toNat + 476 ≤ j → M20.1 177 j = M0.1 177 j) (hcK : ∀ j : Nat, M20.1 183 j = M0.1 183 j) (hnm : ∀ k : Nat, (k : Int) < b19 → M20.2 182 (18 * (a0).toNat + k) = M0.2 180 k) (hno : ∀ k : Nat, k < 18 * (a0).toNat ∨ 18 * (a0).toNat + 18 ≤ k → M20.2 182 k = M0.2 182 k) (hlx : LKs [182] M0 M20), (-b19 + 18) < (n29 : Int) → F 51 [some (.inr (.inr (.inl 173))), some (.inl a0), some (.inl b19)] [] M20 := by
      intro n29
      induction n29 with
      | zero => intros; omega
      | succ n29 ihW28 =>
       intro b19 hb19 M20 hH20 hF20 k21 hcI hcO hcK hnm hno hlx hrW28
       refine jx_load c1 hm rfl rfl rfl rfl ?_
       skip
       refine jy_bp c1 hm rfl (by decide) ?_
       refine jc_ge c1 hm 80 rfl rfl (fun h30 => ?_) (fun h30 => ?_)
       ·
        refine jx_load c1 hm rfl rfl rfl rfl ?_
        refine jx_getr c1 hm rfl sh_173 rfl ?_
        refine jx_load c1 hm rfl rfl rfl rfl ?_
        refine jy_ic c1 hm rfl (by decide) ?_
        obtain ⟨M33, e33, hH33, hF33, k33, n33, q33⟩ := mup hH20 hF20 (c := 183) (i := (a0).toNat) (v := 1) (A := 0) (B := 1) rfl ⟨by omega, by omega⟩ (jin_of 2 rfl ⟨by omega, by omega⟩)
        refine jm_bast c1 hm rfl sh_183 (Or.inr ⟨rfl, by omega, by omega⟩) ⟨by omega, by omega⟩ e33 ?_
        refine jy_ic c1 hm rfl (by decide) ?_
        exact jx_retz c2 hm rfl rfl ⟨by omega, by omega⟩ ⟨_, rfl, hH33, hF33, by omega, by omega, (if c : a0 = 0 then KOK.of hp0 (fun j _ y => (n33 177 _ (fun h => absurd h.1 (by decide))).trans (by have z := hcI j (by omega); rw [show 476 * (a0).toNat + j = 476 * 0 + j by omega] at z; exact z)) else KOK.cg hp1 (fun j y1 y2 => (n33 177 _ (fun h => absurd h.1 (by decide))).trans (hcO j (by omega)))), (if c : a0 = 1 then KOK.of hp0 (fun j _ y => (n33 177 _ (fun h => absurd h.1 (by decide))).trans (by have z := hcI j (by omega); rw [show 476 * (a0).toNat + j = 476 * 1 + j by omega] at z; exact z)) else KOK.cg hp2 (fun j y1 y2 => (n33 177 _ (fun h => absurd h.1 (by decide))).trans (hcO j (by omega)))), (imP.st k33 n33 (fun j => hcK j) (by omega)), (by omega), (by omega), (IHN.ok (by omega) (by omega) (fun j hj => ((n33 177 _ (fun h => absurd h.1 (by decide))).trans (hcI j hj))) (fun j hj => ((n33 177 _ (fun h => absurd h.1 (by decide))).trans (hcO j hj))) (fun k hk => ((q33 182 _).trans (hnm k (by omega)))) (fun k hk => ((q33 182 _).trans (hno k hk)))), (hlx.eq q33)⟩
       refine jx_load c1 hm rfl rfl rfl rfl ?_
       refine jx_getr c1 hm rfl sh_173 rfl ?_
       refine jy_bp c1 hm rfl (by decide) ?_
       refine jx_load c1 hm rfl rfl rfl rfl ?_
       refine jy_mul c1 hm (18 * a0) rfl (by omega) ?_
       refine jx_load c1 hm rfl rfl rfl rfl ?_
       refine jy_add c1 hm (18 * a0 + b19) rfl (by omega) ?_
       skip
       refine jx_load c1 hm rfl rfl rfl rfl ?_
       refine jx_getr c1 hm rfl sh_173 rfl ?_
       refine jx_load c1 hm rfl rfl rfl rfl ?_
       obtain ⟨w31, kw31⟩ : ∃ w, M20.2 180 (b19).toNat = w := ⟨_, rfl⟩
       have bw31 : LB w31.toInt := kw31 ▸ hH20.2.1 180 _ rfl
       refine jx_lald c1 hm rfl sh_180 ⟨by omega, by omega⟩ kw31 ?_
       skip
       obtain ⟨M32, e32, hH32, hF32, n32, k32, g32⟩ := mul hH20 hF20 (c := 182) (i := ((18 * a0 + b19)).toNat) (v := w31) (fun _ => bw31)
       refine jm_last c1 hm rfl sh_182 ⟨by omega, by omega⟩ e32 ?_
       refine jx_iinc c1 hm (v := (b19 + 1)) (L' := [some (.inr (.inr (.inl 173))), some (.inl a0), some (.inl (b19 + 1))]) rfl rfl (by omega) (by omega) rfl ?_
       refine jx_goto c1 hm 51 rfl rfl ?_
       have k34 : M32.1 173 0 = 0 := (n32 173 0).trans k21
       exact ihW28 (b19 + 1) (by omega) M32 hH32 hF32 k34 (fun j hj => (n32 177 _).trans (hcI j hj)) (fun j hj => (n32 177 _).trans (hcO j hj)) (fun j => (n32 183 _).trans (hcK j)) (fun k hk => if c9 : (k : Int) < b19 then (g32 182 _ (by omega)).trans (hnm k c9) else (by have e9 : k = (b19).toNat := (by omega); subst e9; rw [show 18 * (a0).toNat + (b19).toNat = ((18 * a0 + b19)).toNat by omega]; exact k32.trans (kw31.symm.trans (hlx 180 _ (by decide +kernel) rfl)))) (fun k hk => (g32 182 k (by omega)).trans (hno k hk)) (hlx.st g32 (Or.inr rfl)) (by omega)
     exact W28 (18 + 1 : Int).toNat 0 (by omega) M7 hH7 hF7 k8 (fun j hj => hcI j (by omega)) hcO hcK (fun k hk => by omega) (fun k hk => hlx0 182 k (by decide +kernel) rfl) (LKs.up hlx0 rfl) (by omega)
    refine jx_load c1 hm rfl rfl rfl rfl ?_
    refine jx_getr c1 hm rfl sh_173 rfl ?_
    refine jy_sp c1 hm rfl (by decide) ?_
    refine jx_load c1 hm rfl rfl rfl rfl ?_
    refine jy_mul c1 hm (476 * a0) rfl (by omega) ?_
    refine jx_load c1 hm rfl rfl rfl rfl ?_
    refine jy_add c1 hm (476 * a0 + b6) rfl (by omega) ?_
    refine jx_load c1 hm rfl rfl rfl rfl ?_
    refine jx_getr c1 hm rfl sh_173 rfl ?_
    refine jx_load c1 hm rfl rfl rfl rfl ?_
    obtain ⟨z16, k17, lz16, uz16⟩ := hH7.any (by omega) (by omega) 175 (b6).toNat
    refine jx_iald c1 hm rfl sh_175 ⟨by omega, by omega⟩ k17 ?_
    obtain ⟨M18, e18, hH18, hF18, k18, n18, q18⟩ := mupc hH7 hF7 hH7 (c := 177) (i := ((476 * a0 + b6)).toNat) (c1 := 175) (i1 := (b6).toNat) (v := z16) k17 (ckp (by omega)) (jin_of 1 rfl ⟨by omega, by omega⟩)
    refine jm_iast c1 hm rfl sh_177 ⟨by omega, by omega⟩ e18 ?_
    refine jx_iinc c1 hm (v := (b6 + 1)) (L' := [some (.inr (.inr (.inl 173))), some (.inl a0), some (.inl (b6 + 1))]) rfl rfl (by omega) (by omega) rfl ?_
    refine jx_goto c1 hm 18 rfl rfl ?_
    have k35 : M18.1 173 0 = 0 := (n18 173 0 (fun h => absurd h.1 (by decide))).trans k8
    exact ihW13 (b6 + 1) (by omega) M18 hH18 hF18 k35 (fun j hj => if c : (j : Int) < b6 then (n18 177 _ (by omega)).trans (hcI j c) else (by have e : j = (b6).toNat := (by omega); subst e; rw [show 476 * (a0).toNat + (b6).toNat = ((476 * a0 + b6)).toNat by omega]; exact k18.trans (k17.symm.trans (hF7 175 _ rfl)))) (fun j hj => (n18 177 j (by omega)).trans (hcO j hj)) (fun j => (n18 183 _ (fun h => absurd h.1 (by decide))).trans (hcK j)) (hlx0.eq q18) (by omega)
  exact W13 (476 + 1 : Int).toNat 0 (by omega) M1 hH1 hF1 k1 (fun j hj => by omega) (fun j _ => (n1 177 _ (fun h => absurd h.1 (by decide)))) (fun j => (n1 183 _ (fun h => absurd h.1 (by decide)))) ((LKs.rf [] M0).eq q1) (by omega)
 refine jy_ic c1 hm rfl (by decide) ?_
 exact jx_retz c2 hm rfl rfl ⟨by omega, by omega⟩ ⟨_, rfl, hH1, hF1, by omega, by omega, (KOK.cg hp1 (fun j _ _ => (n1 177 _ (fun h => absurd h.1 (by decide))))), (KOK.cg hp2 (fun j _ _ => (n1 177 _ (fun h => absurd h.1 (by decide))))), (imP.no (fun j => (n1 183 _ (fun h => absurd h.1 (by decide)))) (by omega)), (by omega), (by omega), (IHN.no (by omega) (fun j => (n1 177 j (fun h => absurd h.1 (by decide)))) (fun k => ((LKs.rf [] M0).eq q1) 182 k (by decide +kernel) rfl)), (LKs.up ((LKs.rf [] M0).eq q1) rfl)⟩
def md_X12_restore_173n : List (Nat × (Nat × Nat)) := [(173, (0, 0)), (173, (23, 23)), (175, (0, 475))]
theorem ct_X12_restore_173n (X : Int) (hX : 0 ≤ X ∧ X ≤ 100000000) (M0 : JM) (hH0 : HI X M0) (a0 : Int) (ha0 : (-2147483648) ≤ a0 ∧ a0 ≤ 2147483647) (hp0 : SOK M0) (hp1 : KOK M0 0) (hp2 : KOK M0 1) : JOk shp PJ 2 175 [.inr (.inr (.inl 173)), .inl a0] M0 (jRi (fun v M' => HI X M' ∧ Fr md_X12_restore_173n M0 M' ∧ 0 ≤ v ∧ v ≤ 1 ∧ (SOK M') ∧ (v = imR 183 a0 M0) ∧ (RHN a0 v M0 M') ∧ (LKs [180] M0 M'))) := by
 refine ⟨jr_X12_restore, pj_X12_restore, fun F c1 c2 c3 => ?_⟩
 have hm := pj_X12_restore
 change F 0 [some (.inr (.inr (.inl 173))), some (.inl a0), none] [] M0
 have hF0 : Fr md_X12_restore_173n M0 M0 := Fr.rf _ _
 refine jx_load c1 hm rfl rfl rfl rfl ?_
 refine jy_ic c1 hm rfl (by decide) ?_
 obtain ⟨M1, e1, hH1, hF1, k1, n1, q1⟩ := mup hH0 hF0 (c := 173) (i := 0) (v := 0) (A := (-2147483648)) (B := 2147483647) (bs_28_0 _ _ (by omega) (by omega)) ⟨by omega, by omega⟩ (jin_of 0 rfl ⟨by omega, by omega⟩)
 refine jm_puti c1 hm rfl sh_173 rfl e1 ?_
 refine jx_load c1 hm rfl rfl rfl rfl ?_
 skip
 refine jy_ic c1 hm rfl (by decide) ?_
 refine jy_ic c1 hm rfl (by decide) ?_
 refine jt_i c3 hm rfl rfl pj_X12_isIn rfl rfl rfl ((ct_X12_isInp X (by omega) M1 hH1 a0 ⟨by omega, by omega⟩ 0 ⟨by omega, by omega⟩ 1 ⟨by omega, by omega⟩).le (by decide)) (fun z2 _ ⟨rfl, lz2, uz2, p3, p4⟩ => ?_)
 refine jz_eq c1 hm 23 rfl rfl (fun h5 => ?_) (fun h5 => ?_)
 ·
  refine jy_ic c1 hm rfl (by decide) ?_
  exact jx_retz c2 hm rfl rfl ⟨by omega, by omega⟩ ⟨_, rfl, hH1, hF1, by omega, by omega, (SOK.cg hp0 (fun j _ _ => (n1 175 _ (fun h => absurd h.1 (by decide))))), (by have y9 : M1.1 183 (a0).toNat = M0.1 183 (a0).toNat := (n1 183 _ (fun h => absurd h.1 (by decide))); unfold imR; split <;> omega), (RHN.no (by omega) (fun j => (n1 175 j (fun h => absurd h.1 (by decide)))) (fun k => ((LKs.rf [] M0).eq q1) 180 k (by decide +kernel) rfl)), (LKs.up ((LKs.rf [] M0).eq q1) rfl)⟩
 refine jx_load c1 hm rfl rfl rfl rfl ?_
 refine jx_getr c1 hm rfl sh_173 rfl ?_
 refine jx_load c1 hm rfl rfl rfl rfl ?_
 obtain ⟨z6, k7, lz6, uz6⟩ := hH1.ld (c := 183) (i := (a0).toNat) (A := 0) (B := 1) rfl
 refine jx_bald c1 hm rfl sh_183 rfl ⟨by omega, by omega⟩ k7 ?_
 refine jz_ne c1 hm 25 rfl rfl (fun h8 => ?_) (fun h8 => ?_)
 ·
  refine jy_ic c1 hm rfl (by decide) ?_
  refine jx_stor c1 hm (L' := [some (.inr (.inr (.inl 173))), some (.inl a0), some (.inl 0)]) rfl rfl rfl rfl rfl ?_
  have W14 : ∀ (n15 : Nat) (b9 : Int) (hb9 : 0 ≤ b9 ∧ b9 ≤ 476) (M10 : JM) (hH10 : HI (X) M10) (hF10 : Fr md_X12_restore_173n M0 M10) (k11 : M10.1 173 0 = 0) (hcI : ∀ j : Nat, (j : Int) < b9 → M10.1 175 j = M0.1 177 (476 * (a0).toNat + j)) (hlx0 : LKs [] M0 M10), (-b9 + 476) < (n15 : Int) → F 27 [some (.inr (.inr (.inl 173))), some (.inl a0), some (.inl b9)] [] M10 := by
   intro n15
   induction n15 with
   | zero => intros; omega
   | succ n15 ihW14 =>
    intro b9 hb9 M10 hH10 hF10 k11 hcI hlx0 hrW14
    refine jx_load c1 hm rfl rfl rfl rfl ?_
    refine jy_sp c1 hm rfl (by decide) ?_
    refine jc_ge c1 hm 58 rfl rfl (fun h16 => ?_) (fun h16 => ?_)
    ·
     refine jy_ic c1 hm rfl (by decide) ?_
     refine jx_stor c1 hm (L' := [some (.inr (.inr (.inl 173))), some (.inl a0), some (.inl 0)]) rfl rfl rfl rfl rfl ?_
     have W26 : ∀ (n27 : Nat) (b20 : Int) (hb20 : 0 ≤ b20 ∧ b20 ≤ 18) (M21 : JM) (hH21 : HI (X) M21) (hF21 : Fr md_X12_restore_173n M0 M21) (k22 : M21.1 173 0 = 0) (hcI : ∀ j : Nat, j < 476 → M21.1 175 j = M0.1 177 (476 * (a0).toNat + j)) (hnm : ∀ k : Nat, (k : Int) < b20 → M21.2 180 k = M0.2 182 (18 * (a0).toNat + k)) (hlx : LKs [180] M0 M21), (-b20 + 18) < (n27 : Int) → F 60 [some (.inr (.inr (.inl 173))), some (.inl a0), some (.inl b20)] [] M21 := by
      intro n27
      induction n27 with
      | zero => intros; omega
      | succ n27 ihW26 =>
       intro b20 hb20 M21 hH21 hF21 k22 hcI hnm hlx hrW26
       refine jx_load c1 hm rfl rfl rfl rfl ?_
       skip
       refine jy_bp c1 hm rfl (by decide) ?_
       refine jc_ge c1 hm 89 rfl rfl (fun h28 => ?_) (fun h28 => ?_)
       ·
        refine jx_load c1 hm rfl rfl rfl rfl ?_
        refine jy_ic c1 hm rfl (by decide) ?_
        obtain ⟨M31, e31, hH31, hF31, k31, n31, q31⟩ := mup hH21 hF21 (c := 173) (i := 23) (v := 0) (A := 0) (B := 8) (bs_28_8 _ _ (by omega) (by omega)) ⟨by omega, by omega⟩ (jin_of 1 rfl ⟨by omega, by omega⟩)
        refine jm_puti c1 hm rfl sh_173 rfl e31 ?_
        refine jy_ic c1 hm rfl (by decide) ?_
        exact jx_retz c2 hm rfl rfl ⟨by omega, by omega⟩ ⟨_, rfl, hH31, hF31, by omega, by omega, (if c : a0 = 0 then SOK.of hp1 (fun j _ y => (n31 175 _ (fun h => absurd h.1 (by decide))).trans (by have z := hcI j (by omega); rw [show 476 * (a0).toNat + j = 476 * 0 + j by omega] at z; exact z)) else SOK.of hp2 (fun j _ y => (n31 175 _ (fun h => absurd h.1 (by decide))).trans (by have z := hcI j (by omega); rw [show 476 * (a0).toNat + j = 476 * 1 + j by omega] at z; exact z))), (by have y9 : M1.1 183 (a0).toNat = M0.1 183 (a0).toNat := (n1 183 _ (fun h => absurd h.1 (by decide))); unfold imR; split <;> omega), (RHN.ok (by omega) (by omega) (fun j hj => ((n31 175 j (fun h => absurd h.1 (by decide))).trans (hcI j hj))) (fun k hk => ((q31 180 k).trans (hnm k (by omega))))), (hlx.eq q31)⟩
       refine jx_load c1 hm rfl rfl rfl rfl ?_
       refine jx_getr c1 hm rfl sh_173 rfl ?_
       refine jx_load c1 hm rfl rfl rfl rfl ?_
       refine jx_load c1 hm rfl rfl rfl rfl ?_
       refine jx_getr c1 hm rfl sh_173 rfl ?_
       refine jy_bp c1 hm rfl (by decide) ?_
       refine jx_load c1 hm rfl rfl rfl rfl ?_
       refine jy_mul c1 hm (18 * a0) rfl (by omega) ?_
       refine jx_load c1 hm rfl rfl rfl rfl ?_
       refine jy_add c1 hm (18 * a0 + b20) rfl (by omega) ?_
       skip
       obtain ⟨w29, kw29⟩ : ∃ w, M21.2 182 ((18 * a0 + b20)).toNat = w := ⟨_, rfl⟩
       have bw29 : LB w29.toInt := kw29 ▸ hH21.2.1 182 _ rfl
       refine jx_lald c1 hm rfl sh_182 ⟨by omega, by omega⟩ kw29 ?_
       skip
       obtain ⟨M30, e30, hH30, hF30, n30, k30, g30⟩ := mul hH21 hF21 (c := 180) (i := (b20).toNat) (v := w29) (fun _ => bw29)
       refine jm_last c1 hm rfl sh_180 ⟨by omega, by omega⟩ e30 ?_
       refine jx_iinc c1 hm (v := (b20 + 1)) (L' := [some (.inr (.inr (.inl 173))), some (.inl a0), some (.inl (b20 + 1))]) rfl rfl (by omega) (by omega) rfl ?_
       refine jx_goto c1 hm 60 rfl rfl ?_
       have k32 : M30.1 173 0 = 0 := (n30 173 0).trans k22
       exact ihW26 (b20 + 1) (by omega) M30 hH30 hF30 k32 (fun j hj => (n30 175 _).trans (hcI j hj)) (fun k hk => if c9 : (k : Int) < b20 then (g30 180 _ (by omega)).trans (hnm k c9) else (by have e9 : k = (b20).toNat := (by omega); subst e9; exact k30.trans (kw29.symm.trans ((hlx 182 _ (by decide +kernel) rfl).trans (by rw [show ((18 * a0 + b20)).toNat = 18 * (a0).toNat + (b20).toNat by omega]))))) (hlx.st g30 (Or.inr rfl)) (by omega)
     exact W26 (18 + 1 : Int).toNat 0 (by omega) M10 hH10 hF10 k11 (fun j hj => hcI j (by omega)) (fun k hk => by omega) (LKs.up hlx0 rfl) (by omega)
    refine jx_load c1 hm rfl rfl rfl rfl ?_
    refine jx_getr c1 hm rfl sh_173 rfl ?_
    refine jx_load c1 hm rfl rfl rfl rfl ?_
    refine jx_load c1 hm rfl rfl rfl rfl ?_
    refine jx_getr c1 hm rfl sh_173 rfl ?_
    refine jy_sp c1 hm rfl (by decide) ?_
    refine jx_load c1 hm rfl rfl rfl rfl ?_
    refine jy_mul c1 hm (476 * a0) rfl (by omega) ?_
    refine jx_load c1 hm rfl rfl rfl rfl ?_
    refine jy_add c1 hm (476 * a0 + b9) rfl (by omega) ?_
    obtain ⟨z17, k18, lz17, uz17⟩ := hH10.any (by omega) (by omega) 177 ((476 * a0 + b9)).toNat
    refine jx_iald c1 hm rfl sh_177 ⟨by omega, by omega⟩ k18 ?_
    obtain ⟨M19, e19, hH19, hF19, k19, n19, q19⟩ := mupc hH10 hF10 hH10 (c := 175) (i := (b9).toNat) (c1 := 177) (i1 := ((476 * a0 + b9)).toNat) (v := z17) k18 ((ckp (by omega)).symm) (jin_of 2 rfl ⟨by omega, by omega⟩)
    refine jm_iast c1 hm rfl sh_175 ⟨by omega, by omega⟩ e19 ?_
    refine jx_iinc c1 hm (v := (b9 + 1)) (L' := [some (.inr (.inr (.inl 173))), some (.inl a0), some (.inl (b9 + 1))]) rfl rfl (by omega) (by omega) rfl ?_
    refine jx_goto c1 hm 27 rfl rfl ?_
    have k33 : M19.1 173 0 = 0 := (n19 173 0 (fun h => absurd h.1 (by decide))).trans k11
    exact ihW14 (b9 + 1) (by omega) M19 hH19 hF19 k33 (fun j hj => if c : (j : Int) < b9 then (n19 175 j (by omega)).trans (hcI j c) else (by have e : j = (b9).toNat := (by omega); subst e; have y := k19.trans (k18.symm.trans (hF10 177 _ rfl)); rw [show ((476 * a0 + b9)).toNat = 476 * (a0).toNat + (b9).toNat by omega] at y; exact y)) (hlx0.eq q19) (by omega)
  exact W14 (476 + 1 : Int).toNat 0 (by omega) M1 hH1 hF1 k1 (fun j hj => by omega) ((LKs.rf [] M0).eq q1) (by omega)
 refine jy_ic c1 hm rfl (by decide) ?_
 exact jx_retz c2 hm rfl rfl ⟨by omega, by omega⟩ ⟨_, rfl, hH1, hF1, by omega, by omega, (SOK.cg hp0 (fun j _ _ => (n1 175 _ (fun h => absurd h.1 (by decide))))), (by have y9 : M1.1 183 (a0).toNat = M0.1 183 (a0).toNat := (n1 183 _ (fun h => absurd h.1 (by decide))); unfold imR; split <;> omega), (RHN.no (by omega) (fun j => (n1 175 j (fun h => absurd h.1 (by decide)))) (fun k => ((LKs.rf [] M0).eq q1) 180 k (by decide +kernel) rfl)), (LKs.up ((LKs.rf [] M0).eq q1) rfl)⟩
