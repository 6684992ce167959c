/-! The reference's duchy(): what was cleared stays so. -/
theorem RZ.cg {M M' : JM} {b b' : Int} (h : RZ M b) (e : b = b') (n : ∀ j : Nat, j ≠ 3 ∧ j ≠ 4 → M'.1 176 j = M.1 176 j) : RZ M' b' := by
  subst e
  exact ⟨fun j hj => (n j (by omega)).trans (h.1 j hj), fun p hp => (n (65 + p) (by omega)).trans (h.2.1 p hp), fun p hp => (n (17 + p) (by omega)).trans (h.2.2 p hp)⟩
/-! Contracts of the reference, exact (by wip/q/wlk.py). -/
def md_X12_duchy_173p : List (Nat × (Nat × Nat)) := [(173, (0, 0)), (173, (2, 2)), (173, (3, 3)), (173, (4, 4)), (173, (5, 5)), (173, (6, 6)), (173, (7, 7)), (173, (8, 8)), (173, (9, 9)), (173, (10, 10)), (173, (11, 11)), (173, (13, 13)), (173, (23, 23)), (173, (24, 24)), (173, (25, 25)), (175, (0, 100)), (175, (101, 475)), (176, (0, 100))]
theorem ct_X12_duchy_173p (X : Int) (hX : 0 ≤ X ∧ X ≤ 100000000) (M0 : JM) (hH0 : HI X M0) (hp0 : SOK M0) : JOk shp PJ 7 99 [.inr (.inr (.inl 173))] M0 (jRi (fun v M' => HI X M' ∧ Fr md_X12_duchy_173p M0 M' ∧ (-941) ≤ v ∧ v ≤ 470 ∧ (SOK M') ∧ (v < 0 ∨ M'.1 175 234 = 0) ∧ (v = duS (uR M0) (M0.1 173 2)) ∧ (M'.1 173 2 = 0))) := by
 refine ⟨jr_X12_duchy, pj_X12_duchy, fun F c1 c2 c3 => ?_⟩
 have hm := pj_X12_duchy
 change F 0 [some (.inr (.inr (.inl 173))), none, none] [] M0
 have hF0 : Fr md_X12_duchy_173p M0 M0 := Fr.rf _ _
 obtain ⟨z1, k2, lz1, uz1⟩ := hH0.ld (c := 173) (i := 2) (A := 0) (B := 940) (bs_28_1 _ _ (by omega) (by omega))
 refine jx_load c1 hm rfl rfl rfl rfl ?_
 refine jy_sp c1 hm rfl (by decide) ?_
 refine jv_v c3 hm rfl pj_X12_begin rfl rfl ⟨_, _, _, rfl, sh_173⟩ rfl ((ct_X12_begin_173p X (by omega) M0 hH0 900 ⟨by omega, by omega⟩).le (by decide)) (fun M6 ⟨hH6, hR6, p3, p4, p5⟩ => ?_)
 have hF6 := hF0.tr hR6 (by decide +kernel)
 obtain ⟨z7, k8, lz7, uz7⟩ := hH6.ld (c := 173) (i := 2) (A := 0) (B := 940) (bs_28_1 _ _ (by omega) (by omega))
 refine jy_ic c1 hm rfl (by decide) ?_
 refine jx_stor c1 hm (L' := [some (.inr (.inr (.inl 173))), some (.inl 0), none]) rfl rfl rfl rfl rfl ?_
 have W15 : ∀ (n16 : Nat) (b9 : Int) (hb9 : 0 ≤ b9 ∧ b9 ≤ 101) (M10 : JM) (hH10 : HI (X) M10) (hF10 : Fr md_X12_duchy_173p M0 M10) (k11 : M10.1 173 2 = z7) (hE : ∀ j : Nat, M10.1 175 j = M0.1 175 j) (hfz : FLP 176 0 b9 M10) (hrt : RTk M10 (uR M0, (M0.1 173 2, 900)) 0), (-b9 + 101) < (n16 : Int) → F 9 [some (.inr (.inr (.inl 173))), some (.inl b9), none] [] M10 := by
  intro n16
  induction n16 with
  | zero => intros; omega
  | succ n16 ihW15 =>
   intro b9 hb9 M10 hH10 hF10 k11 hE hfz hrt hrW15
   refine jx_load c1 hm rfl rfl rfl rfl ?_
   skip
   refine jy_bp c1 hm rfl (by decide) ?_
   refine jc_ge c1 hm 28 rfl rfl (fun h17 => ?_) (fun h17 => ?_)
   ·
    refine jy_ic c1 hm rfl (by decide) ?_
    refine jx_stor c1 hm (L' := [some (.inr (.inr (.inl 173))), some (.inl 0), none]) rfl rfl rfl rfl rfl ?_
    have W24 : ∀ (n25 : Nat) (b18 : Int) (hb18 : 0 ≤ b18 ∧ b18 ≤ 36) (M19 : JM) (hH19 : HI (X) M19) (hF19 : Fr md_X12_duchy_173p M0 M19) (k20 : M19.1 173 2 = z7) (hE : ∀ j : Nat, M19.1 175 j = M0.1 175 j) (hrz : RZ M19 b18) (hrt : RTk M19 (uR M0, (M0.1 173 2, 900)) 0), (-b18 + 36) < (n25 : Int) → F 30 [some (.inr (.inr (.inl 173))), some (.inl b18), none] [] M19 := by
     intro n25
     induction n25 with
     | zero => intros; omega
     | succ n25 ihW24 =>
      intro b18 hb18 M19 hH19 hF19 k20 hE hrz hrt hrW24
      refine jx_load c1 hm rfl rfl rfl rfl ?_
      skip
      refine jy_bp c1 hm rfl (by decide) ?_
      refine jc_ge c1 hm 52 rfl rfl (fun h26 => ?_) (fun h26 => ?_)
      ·
       refine jx_load c1 hm rfl rfl rfl rfl ?_
       refine jx_getr c1 hm rfl sh_173 rfl ?_
       refine jy_ic c1 hm rfl (by decide) ?_
       refine jy_ic c1 hm rfl (by decide) ?_
       obtain ⟨M27, e27, hH27, hF27, k27, n27, q27⟩ := mup hH19 hF19 (c := 176) (i := 3) (v := 1) (A := 0) (B := 9) (bs_12_1 _ _ (by omega) (by omega)) ⟨by omega, by omega⟩ (jin_of 17 rfl ⟨by omega, by omega⟩)
       refine jm_iast c1 hm rfl sh_176 ⟨by omega, by omega⟩ e27 ?_
       refine jx_load c1 hm rfl rfl rfl rfl ?_
       refine jx_getr c1 hm rfl sh_173 rfl ?_
       refine jy_ic c1 hm rfl (by decide) ?_
       refine jy_ic c1 hm rfl (by decide) ?_
       obtain ⟨M28, e28, hH28, hF28, k28, n28, q28⟩ := mup hH27 hF27 (c := 176) (i := 4) (v := 1) (A := 0) (B := 9) (bs_12_1 _ _ (by omega) (by omega)) ⟨by omega, by omega⟩ (jin_of 17 rfl ⟨by omega, by omega⟩)
       refine jm_iast c1 hm rfl sh_176 ⟨by omega, by omega⟩ e28 ?_
       refine jx_load c1 hm rfl rfl rfl rfl ?_
       refine jy_ic c1 hm rfl (by decide) ?_
       obtain ⟨M29, e29, hH29, hF29, k29, n29, q29⟩ := mup hH28 hF28 (c := 173) (i := 24) (v := 0) (A := 0) (B := 1) (bs_28_9 _ _ (by omega) (by omega)) ⟨by omega, by omega⟩ (jin_of 13 rfl ⟨by omega, by omega⟩)
       refine jm_putz c1 hm rfl sh_173 rfl ⟨by omega, by omega⟩ e29 ?_
       refine jx_load c1 hm rfl rfl rfl rfl ?_
       refine jy_ic c1 hm rfl (by decide) ?_
       obtain ⟨M30, e30, hH30, hF30, k30, n30, q30⟩ := mup hH29 hF29 (c := 173) (i := 25) (v := 0) (A := 0) (B := 1) (bs_28_9 _ _ (by omega) (by omega)) ⟨by omega, by omega⟩ (jin_of 14 rfl ⟨by omega, by omega⟩)
       refine jm_putz c1 hm rfl sh_173 rfl ⟨by omega, by omega⟩ e30 ?_
       refine jy_ic c1 hm rfl (by decide) ?_
       refine jx_stor c1 hm (L' := [some (.inr (.inr (.inl 173))), some (.inl 0), none]) rfl rfl rfl rfl rfl ?_
       have W38 : ∀ (n39 : Nat) (b31 : Int) (hb31 : 0 ≤ b31 ∧ b31 ≤ 471) (M32 : JM) (hH32 : HI (X) M32) (hF32 : Fr md_X12_duchy_173p M0 M32) (k34 : M32.1 173 2 = z7) (h35 : 0 ≤ b31 ∧ b31 ≤ 470) (hE : ∀ j : Nat, M32.1 175 j = M0.1 175 j) (hrl : RLr (uR M0, (M0.1 173 2, 900)) M32 b31), 471 - b31 < (n39 : Int) → F 78 [some (.inr (.inr (.inl 173))), some (.inl b31), none] [] M32 := by
        intro n39
        induction n39 with
        | zero => intros; omega
        | succ n39 ihW38 =>
         intro b31 hb31 M32 hH32 hF32 k34 h35 hE hrl hrW38
         refine jx_load c1 hm rfl rfl rfl rfl ?_
         skip
         obtain ⟨z40, k41, lz40, uz40⟩ := hH32.ld (c := 173) (i := 7) (A := 0) (B := 4) (bs_28_4 _ _ (by omega) (by omega))
         refine jx_geti c1 hm rfl sh_173 rfl k41 ?_
         refine jz_eq c1 hm 112 rfl rfl (fun h42 => ?_) (fun h42 => ?_)
         ·
          refine jy_ic c1 hm rfl (by decide) ?_
          have hdu := RLr.fin hrl (by omega)
          refine jx_stor c1 hm (L' := [some (.inr (.inr (.inl 173))), some (.inl b31), some (.inl 0)]) rfl rfl rfl rfl rfl ?_
          have W47 : ∀ (n48 : Nat) (b43 : Int) (hb43 : 0 ≤ b43 ∧ b43 ≤ 36) (M44 : JM) (hH44 : HI (X) M44) (hF44 : Fr md_X12_duchy_173p M0 M44) (k45 : M44.1 173 2 = z7) (k46 : M44.1 173 7 = z40), (-b43 + 36) < (n48 : Int) → F 114 [some (.inr (.inr (.inl 173))), some (.inl b31), some (.inl b43)] [] M44 := by
           intro n48
           induction n48 with
           | zero => intros; omega
           | succ n48 ihW47 =>
            intro b43 hb43 M44 hH44 hF44 k45 k46 hrW47
            refine jx_load c1 hm rfl rfl rfl rfl ?_
            refine jy_bp c1 hm rfl (by decide) ?_
            refine jc_ge c1 hm 160 rfl rfl (fun h49 => ?_) (fun h49 => ?_)
            ·
             refine jy_ic c1 hm rfl (by decide) ?_
             refine jx_stor c1 hm (L' := [some (.inr (.inr (.inl 173))), some (.inl b31), some (.inl 0)]) rfl rfl rfl rfl rfl ?_
             have W54 : ∀ (n55 : Nat) (b50 : Int) (hb50 : 0 ≤ b50 ∧ b50 ≤ 101) (M51 : JM) (hH51 : HI (X) M51) (hF51 : Fr md_X12_duchy_173p M0 M51) (k52 : M51.1 173 2 = z7) (k53 : M51.1 173 7 = z40), (-b50 + 101) < (n55 : Int) → F 162 [some (.inr (.inr (.inl 173))), some (.inl b31), some (.inl b50)] [] M51 := by
              intro n55
              induction n55 with
              | zero => intros; omega
              | succ n55 ihW54 =>
               intro b50 hb50 M51 hH51 hF51 k52 k53 hrW54
               refine jx_load c1 hm rfl rfl rfl rfl ?_
               refine jy_bp c1 hm rfl (by decide) ?_
               refine jc_ge c1 hm 186 rfl rfl (fun h56 => ?_) (fun h56 => ?_)
               ·
                refine jy_ic c1 hm rfl (by decide) ?_
                refine jx_stor c1 hm (L' := [some (.inr (.inr (.inl 173))), some (.inl b31), some (.inl 0)]) rfl rfl rfl rfl rfl ?_
                have W61 : ∀ (n62 : Nat) (b57 : Int) (hb57 : 0 ≤ b57 ∧ b57 ≤ 18) (M58 : JM) (hH58 : HI (X) M58) (hF58 : Fr md_X12_duchy_173p M0 M58) (k59 : M58.1 173 2 = z7) (k60 : M58.1 173 7 = z40), (-b57 + 18) < (n62 : Int) → F 188 [some (.inr (.inr (.inl 173))), some (.inl b31), some (.inl b57)] [] M58 := by
                 intro n62
                 induction n62 with
                 | zero => intros; omega
                 | succ n62 ihW61 =>
                  intro b57 hb57 M58 hH58 hF58 k59 k60 hrW61
                  refine jx_load c1 hm rfl rfl rfl rfl ?_
                  refine jy_bp c1 hm rfl (by decide) ?_
                  refine jc_ge c1 hm 212 rfl rfl (fun h63 => ?_) (fun h63 => ?_)
                  ·
                   refine jx_load c1 hm rfl rfl rfl rfl ?_
                   refine jv_v c3 hm rfl pj_X12_startSo rfl rfl ⟨_, _, _, rfl, sh_173⟩ rfl ((ct_X12_startSo_173 X (by omega) M58 hH58 ).le (by decide)) (fun M65 ⟨hH65, hR65, p64⟩ => ?_)
                   have hF65 := hF58.tr hR65 (by decide +kernel)
                   obtain ⟨z66, k67, lz66, uz66⟩ := hH65.ld (c := 175) (i := 234) (A := (-2147483648)) (B := 2147483647) (bs_11_11 _ _ (by omega) (by omega))
                   refine jx_load c1 hm rfl rfl rfl rfl ?_
                   refine jy_ic c1 hm rfl (by decide) ?_
                   obtain ⟨M68, e68, hH68, hF68, k68, n68, q68⟩ := mup hH65 hF65 (c := 173) (i := 23) (v := 0) (A := 0) (B := 8) (bs_28_8 _ _ (by omega) (by omega)) ⟨by omega, by omega⟩ (jin_of 12 rfl ⟨by omega, by omega⟩)
                   refine jm_puti c1 hm rfl sh_173 rfl e68 ?_
                   refine jx_load c1 hm rfl rfl rfl rfl ?_
                   have k69 : M68.1 173 2 = z7 := (n68 173 2 (by decide)).trans ((hR65 173 2 (by decide +kernel)).trans k59)
                   have k70 : M68.1 175 234 = z66 := (n68 175 234 (fun h => absurd h.1 (by decide))).trans k67
                   exact jx_reti c2 hm rfl rfl ⟨_, rfl, hH68, hF68, by omega, by omega, (Or.inl (by omega)), (by omega), (by show _ = allS (uR M0, (M0.1 173 2, 900)) 1000 0 st0; omega), (by omega)⟩
                  refine jx_load c1 hm rfl rfl rfl rfl ?_
                  refine jx_getr c1 hm rfl sh_173 rfl ?_
                  refine jx_load c1 hm rfl rfl rfl rfl ?_
                  refine jx_load c1 hm rfl rfl rfl rfl ?_
                  refine jx_getr c1 hm rfl sh_173 rfl ?_
                  refine jx_load c1 hm rfl rfl rfl rfl ?_
                  obtain ⟨w71, kw71⟩ : ∃ w, M58.2 181 (b57).toNat = w := ⟨_, rfl⟩
                  have bw71 : LB w71.toInt := kw71 ▸ hH58.2.1 181 _ rfl
                  refine jx_lald c1 hm rfl sh_181 ⟨by omega, by omega⟩ kw71 ?_
                  obtain ⟨M72, e72, hH72, hF72, n72, k72, _⟩ := mul hH58 hF58 (c := 180) (i := (b57).toNat) (v := w71) (fun _ => bw71)
                  refine jm_last c1 hm rfl sh_180 ⟨by omega, by omega⟩ e72 ?_
                  refine jx_iinc c1 hm (v := (b57 + 1)) (L' := [some (.inr (.inr (.inl 173))), some (.inl b31), some (.inl (b57 + 1))]) rfl rfl (by omega) (by omega) rfl ?_
                  refine jx_goto c1 hm 188 rfl rfl ?_
                  have k73 : M72.1 173 2 = z7 := (n72 173 2).trans k59
                  have k74 : M72.1 173 7 = z40 := (n72 173 7).trans k60
                  exact ihW61 (b57 + 1) (by omega) M72 hH72 hF72 k73 k74 (by omega)
                exact W61 (18 + 1 : Int).toNat 0 (by omega) M51 hH51 hF51 k52 k53 (by omega)
               refine jx_load c1 hm rfl rfl rfl rfl ?_
               refine jx_getr c1 hm rfl sh_173 rfl ?_
               refine jx_load c1 hm rfl rfl rfl rfl ?_
               refine jx_load c1 hm rfl rfl rfl rfl ?_
               refine jx_getr c1 hm rfl sh_173 rfl ?_
               refine jx_load c1 hm rfl rfl rfl rfl ?_
               obtain ⟨z75, k76, lz75, uz75⟩ := hH51.any (by omega) (by omega) 176 (b50).toNat
               refine jx_iald c1 hm rfl sh_176 ⟨by omega, by omega⟩ k76 ?_
               obtain ⟨M77, e77, hH77, hF77, k77, n77, q77⟩ := mupc hH51 hF51 hH51 (c := 175) (i := (b50).toNat) (c1 := 176) (i1 := (b50).toNat) (v := z75) k76 (crd (by omega)) (jin_of 15 rfl ⟨by omega, by omega⟩)
               refine jm_iast c1 hm rfl sh_175 ⟨by omega, by omega⟩ e77 ?_
               refine jx_iinc c1 hm (v := (b50 + 1)) (L' := [some (.inr (.inr (.inl 173))), some (.inl b31), some (.inl (b50 + 1))]) rfl rfl (by omega) (by omega) rfl ?_
               refine jx_goto c1 hm 162 rfl rfl ?_
               have k78 : M77.1 173 2 = z7 := (n77 173 2 (fun h => absurd h.1 (by decide))).trans k52
               have k79 : M77.1 173 7 = z40 := (n77 173 7 (fun h => absurd h.1 (by decide))).trans k53
               exact ihW54 (b50 + 1) (by omega) M77 hH77 hF77 k78 k79 (by omega)
             exact W54 (101 + 1 : Int).toNat 0 (by omega) M44 hH44 hF44 k45 k46 (by omega)
            refine jx_load c1 hm rfl rfl rfl rfl ?_
            refine jx_getr c1 hm rfl sh_173 rfl ?_
            refine jy_bp c1 hm rfl (by decide) ?_
            refine jx_load c1 hm rfl rfl rfl rfl ?_
            refine jy_add c1 hm (b43 + 17) rfl (by omega) ?_
            obtain ⟨z80, k81, lz80, uz80⟩ := hH44.ld (c := 176) (i := ((b43 + 17)).toNat) (A := (-1)) (B := 20) (bs_12_4 _ _ (by omega) (by omega))
            refine jx_iald c1 hm rfl sh_176 ⟨by omega, by omega⟩ k81 ?_
            refine jy_ic c1 hm rfl (by decide) ?_
            refine jc_ne c1 hm 154 rfl rfl (fun h82 => ?_) (fun h82 => ?_)
            ·
             refine jx_iinc c1 hm (v := (b43 + 1)) (L' := [some (.inr (.inr (.inl 173))), some (.inl b31), some (.inl (b43 + 1))]) rfl rfl (by omega) (by omega) rfl ?_
             refine jx_goto c1 hm 114 rfl rfl ?_
             exact ihW47 (b43 + 1) (by omega) M44 hH44 hF44 k45 k46 (by omega)
            refine jx_load c1 hm rfl rfl rfl rfl ?_
            refine jx_getr c1 hm rfl sh_173 rfl ?_
            refine jy_bp c1 hm rfl (by decide) ?_
            refine jx_load c1 hm rfl rfl rfl rfl ?_
            refine jy_add c1 hm (b43 + 17) rfl (by omega) ?_
            refine jx_load c1 hm rfl rfl rfl rfl ?_
            refine jx_getr c1 hm rfl sh_173 rfl ?_
            refine jy_bp c1 hm rfl (by decide) ?_
            refine jx_load c1 hm rfl rfl rfl rfl ?_
            refine jy_bp c1 hm rfl (by decide) ?_
            refine jy_rem c1 hm rfl ⟨by omega, by omega, by omega, by omega⟩ (fun z83 ez83 lz83 uz83 => ?_)
            refine jy_add c1 hm (z83 + 11) rfl (by omega) ?_
            obtain ⟨z84, k85, lz84, uz84⟩ := hH44.ld (c := 176) (i := ((z83 + 11)).toNat) (A := 0) (B := 20) (bs_12_3 _ _ (by omega) (by omega))
            refine jx_iald c1 hm rfl sh_176 ⟨by omega, by omega⟩ k85 ?_
            obtain ⟨M86, e86, hH86, hF86, k86, n86, q86⟩ := mup hH44 hF44 (c := 176) (i := ((b43 + 17)).toNat) (v := z84) (A := (-1)) (B := 20) (bs_12_4 _ _ (by omega) (by omega)) ⟨by omega, by omega⟩ (jin_of 17 rfl ⟨by omega, by omega⟩)
            refine jm_iast c1 hm rfl sh_176 ⟨by omega, by omega⟩ e86 ?_
            refine jx_iinc c1 hm (v := (b43 + 1)) (L' := [some (.inr (.inr (.inl 173))), some (.inl b31), some (.inl (b43 + 1))]) rfl rfl (by omega) (by omega) rfl ?_
            refine jx_goto c1 hm 114 rfl rfl ?_
            have k87 : M86.1 173 2 = z7 := (n86 173 2 (fun h => absurd h.1 (by decide))).trans k45
            have k88 : M86.1 173 7 = z40 := (n86 173 7 (fun h => absurd h.1 (by decide))).trans k46
            exact ihW47 (b43 + 1) (by omega) M86 hH86 hF86 k87 k88 (by omega)
          exact W47 (36 + 1 : Int).toNat 0 (by omega) M32 hH32 hF32 k34 k41 (by omega)
         refine jx_load c1 hm rfl rfl rfl rfl ?_
         refine jv_i c3 hm rfl pj_X12_readLine rfl rfl ⟨_, _, _, rfl, sh_173⟩ rfl ((ct_X12_readLine_173p X (by omega) M32 hH32 ).le (by decide)) (fun z89 M92 ⟨hH92, hR92, lz89, uz89, p90, p91⟩ => ?_)
         have hF92 := hF32.tr hR92 (by decide +kernel)
         refine jz_eq c1 hm 99 rfl rfl (fun h93 => ?_) (fun h93 => ?_)
         ·
          refine jy_ic c1 hm rfl (by decide) ?_
          refine jx_load c1 hm rfl rfl rfl rfl ?_
          obtain ⟨z94, k95, lz94, uz94⟩ := hH92.ld (c := 173) (i := 11) (A := 0) (B := 940) (bs_28_6 _ _ (by omega) (by omega))
          refine jx_geti c1 hm rfl sh_173 rfl k95 ?_
          refine jy_sub c1 hm (-z94 - 1) rfl (by omega) ?_
          have k96 : M92.1 173 2 = z7 := (hR92 173 2 (by decide +kernel)).trans k34
          obtain ⟨z97, k98, lz97, uz97⟩ := hH92.ld (c := 175) (i := 234) (A := (-2147483648)) (B := 2147483647) (bs_11_11 _ _ (by omega) (by omega))
          exact jx_reti c2 hm rfl rfl ⟨_, rfl, hH92, hF92, by omega, by omega, (SOK.cg hp0 (fun j _ _ => (fun j => ((hR92 175 j rfl).trans (hE j))) j)), (by omega), (by have y9 := RLr.no (M' := M92) hrl (by omega) (fun σ hσ => LRr.seqz (p90 _ σ hσ) (by omega)); show _ = allS (uR M0, (M0.1 173 2, 900)) 1000 0 st0; omega), (by omega)⟩
         refine jx_load c1 hm rfl rfl rfl rfl ?_
         refine jv_i c3 hm rfl pj_X12_readEnd rfl rfl ⟨_, _, _, rfl, sh_173⟩ rfl ((ct_X12_readEnd_173p X (by omega) M92 hH92 ).le (by decide)) (fun z99 M102 ⟨hH102, hR102, lz99, uz99, p100, p101⟩ => ?_)
         have hF102 := hF92.tr hR102 (by decide +kernel)
         refine jz_ne c1 hm 106 rfl rfl (fun h103 => ?_) (fun h103 => ?_)
         ·
          refine jx_iinc c1 hm (v := (b31 + 1)) (L' := [some (.inr (.inr (.inl 173))), some (.inl (b31 + 1)), none]) rfl rfl (by omega) (by omega) rfl ?_
          have hrl9 := RLr.go hrl (by omega) (fun σ hσ => LRr.seqg (p90 _ σ hσ) (by omega) (fun l1 h1 => LRr.u (p100 _ _ h1) (by omega)))
          have hbd9 := RLr.bd hrl9
          refine jx_goto c1 hm 78 rfl rfl ?_
          have k109 : M102.1 173 2 = z7 := (hR102 173 2 (by decide +kernel)).trans ((hR92 173 2 (by decide +kernel)).trans k34)
          exact ihW38 (b31 + 1) (by omega) M102 hH102 hF102 k109 (by omega) (fun j => (((hR102 175 j rfl).trans (hR92 175 j rfl)).trans (hE j))) hrl9 (by omega)
         refine jy_ic c1 hm rfl (by decide) ?_
         refine jx_load c1 hm rfl rfl rfl rfl ?_
         obtain ⟨z104, k105, lz104, uz104⟩ := hH102.ld (c := 173) (i := 11) (A := 0) (B := 940) (bs_28_6 _ _ (by omega) (by omega))
         refine jx_geti c1 hm rfl sh_173 rfl k105 ?_
         refine jy_sub c1 hm (-z104 - 1) rfl (by omega) ?_
         have k106 : M102.1 173 2 = z7 := (hR102 173 2 (by decide +kernel)).trans ((hR92 173 2 (by decide +kernel)).trans k34)
         obtain ⟨z107, k108, lz107, uz107⟩ := hH102.ld (c := 175) (i := 234) (A := (-2147483648)) (B := 2147483647) (bs_11_11 _ _ (by omega) (by omega))
         exact jx_reti c2 hm rfl rfl ⟨_, rfl, hH102, hF102, by omega, by omega, (SOK.cg hp0 (fun j _ _ => (fun j => (((hR102 175 j rfl).trans (hR92 175 j rfl)).trans (hE j))) j)), (by omega), (by have y9 := RLr.no (M' := M102) hrl (by omega) (fun σ hσ => LRr.seqg (p90 _ σ hσ) (by omega) (fun l1 h1 => LRr.z (p100 _ _ h1) (by omega))); show _ = allS (uR M0, (M0.1 173 2, 900)) 1000 0 st0; omega), (by omega)⟩
       have k33 : M30.1 173 2 = z7 := (n30 173 2 (by decide)).trans ((n29 173 2 (by decide)).trans ((n28 173 2 (fun h => absurd h.1 (by decide))).trans ((n27 173 2 (fun h => absurd h.1 (by decide))).trans k20)))
       exact W38 (471 - 0 + 1 : Int).toNat 0 (by omega) M30 hH30 hF30 k33 (by omega) (fun j => (((((n30 175 j (fun h => absurd h.1 (by decide))).trans (n29 175 j (fun h => absurd h.1 (by decide)))).trans (n28 175 j (fun h => absurd h.1 (by decide)))).trans (n27 175 j (fun h => absurd h.1 (by decide)))).trans (hE j))) (RLr.start (RTk.cg hrt (fun j => ((((n30 174 j (fun h => absurd h.1 (by decide))).trans (n29 174 j (fun h => absurd h.1 (by decide)))).trans (n28 174 j (fun h => absurd h.1 (by decide)))).trans (n27 174 j (fun h => absurd h.1 (by decide))))) (fun j hj => ((((n30 173 j (by omega)).trans (n29 173 j (by omega))).trans (n28 173 j (fun h => absurd h.1 (by decide)))).trans (n27 173 j (fun h => absurd h.1 (by decide))))) (((((q30 173 12).trans (q29 173 12)).trans (q28 173 12)).trans (q27 173 12)))) (RZ.cg hrz (by omega) (fun j hj => ((((n30 176 j (fun h => absurd h.1 (by decide))).trans (n29 176 j (fun h => absurd h.1 (by decide)))).trans (n28 176 j (by omega))).trans (n27 176 j (by omega))))) ((n30 173 24 (by decide)).trans k29) k30 ⟨by show 0 ≤ M0.1 173 2; omega, by show M0.1 173 2 ≤ 940; omega⟩ (by show (0 : Int) ≤ 900; decide)) (by omega)
      refine jx_load c1 hm rfl rfl rfl rfl ?_
      refine jx_getr c1 hm rfl sh_173 rfl ?_
      refine jy_bp c1 hm rfl (by decide) ?_
      refine jx_load c1 hm rfl rfl rfl rfl ?_
      refine jy_add c1 hm (b18 + 17) rfl (by omega) ?_
      refine jy_ic c1 hm rfl (by decide) ?_
      obtain ⟨M110, e110, hH110, hF110, k110, n110, q110⟩ := mup hH19 hF19 (c := 176) (i := ((b18 + 17)).toNat) (v := (-1)) (A := (-1)) (B := 20) (bs_12_4 _ _ (by omega) (by omega)) ⟨by omega, by omega⟩ (jin_of 17 rfl ⟨by omega, by omega⟩)
      refine jm_iast c1 hm rfl sh_176 ⟨by omega, by omega⟩ e110 ?_
      refine jx_iinc c1 hm (v := (b18 + 1)) (L' := [some (.inr (.inr (.inl 173))), some (.inl (b18 + 1)), none]) rfl rfl (by omega) (by omega) rfl ?_
      refine jx_goto c1 hm 30 rfl rfl ?_
      have k111 : M110.1 173 2 = z7 := (n110 173 2 (fun h => absurd h.1 (by decide))).trans k20
      exact ihW24 (b18 + 1) (by omega) M110 hH110 hF110 k111 (fun j => ((n110 175 j (fun h => absurd h.1 (by decide))).trans (hE j))) (RZ.st hrz ⟨by omega, by omega⟩ (by omega) k110 n110) (RTk.cg hrt (fun j => (n110 174 j (fun h => absurd h.1 (by decide)))) (fun j hj => (n110 173 j (fun h => absurd h.1 (by decide)))) ((q110 173 12))) (by omega)
    exact W24 (36 + 1 : Int).toNat 0 (by omega) M10 hH10 hF10 k11 (fun j => (hE j)) (RZ.start (FLP.le hfz (by omega))) hrt (by omega)
   refine jx_load c1 hm rfl rfl rfl rfl ?_
   refine jx_getr c1 hm rfl sh_173 rfl ?_
   refine jx_load c1 hm rfl rfl rfl rfl ?_
   refine jy_ic c1 hm rfl (by decide) ?_
   obtain ⟨M112, e112, hH112, hF112, k112, n112, q112⟩ := mup hH10 hF10 (c := 176) (i := (b9).toNat) (v := 0) (A := (bnd (X) 176 (b9).toNat).1) (B := (bnd (X) 176 (b9).toNat).2) rfl (czr _) (jin_of 17 rfl ⟨by omega, by omega⟩)
   refine jm_iast c1 hm rfl sh_176 ⟨by omega, by omega⟩ e112 ?_
   refine jx_iinc c1 hm (v := (b9 + 1)) (L' := [some (.inr (.inr (.inl 173))), some (.inl (b9 + 1)), none]) rfl rfl (by omega) (by omega) rfl ?_
   refine jx_goto c1 hm 9 rfl rfl ?_
   have k113 : M112.1 173 2 = z7 := (n112 173 2 (fun h => absurd h.1 (by decide))).trans k11
   exact ihW15 (b9 + 1) (by omega) M112 hH112 hF112 k113 (fun j => ((n112 175 j (fun h => absurd h.1 (by decide))).trans (hE j))) (FLP.st hfz (by omega) k112 n112) (RTk.cg hrt (fun j => (n112 174 j (fun h => absurd h.1 (by decide)))) (fun j hj => (n112 173 j (fun h => absurd h.1 (by decide)))) ((q112 173 12))) (by omega)
 exact W15 (101 + 1 : Int).toNat 0 (by omega) M6 hH6 hF6 k8 (fun j => (hR6 175 j rfl)) FLP.start p3 (by omega)
