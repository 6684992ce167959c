/-! Contracts that tell kinds of faults (by wip/q/wlk.py). -/
def md_X12_book_173y : List (Nat × (Nat × Nat)) := [(173, (0, 0)), (173, (2, 2)), (173, (3, 3)), (173, (4, 4)), (173, (5, 5)), (173, (6, 6)), (173, (7, 7)), (173, (8, 8)), (173, (9, 9)), (173, (10, 10)), (173, (11, 11)), (173, (13, 13)), (173, (23, 23)), (173, (46, 46)), (173, (47, 47)), (175, (101, 233)), (178, (0, 1063)), (179, (0, 132)), (184, (0, 5)), (195, (0, 159)), (196, (0, 0)), (196, (1, 1)), (196, (2, 2)), (196, (3, 3))]
theorem ct_X12_book_173y (X : Int) (hX : 0 ≤ X ∧ X ≤ 99999908) (M0 : JM) (hH0 : HI X M0) (a0 : Int) (ha0 : (-2147483648) ≤ a0 ∧ a0 ≤ 2147483647) : JOk shp PJ 13 83 [.inr (.inr (.inl 173)), .inl a0] M0 (jRi (fun v M' => HI (X + 92) M' ∧ Fr md_X12_book_173y M0 M' ∧ (-1000) ≤ v ∧ v ≤ 40 ∧ (a0 = 0 ∨ a0 = 1 → ∀ σ : PSt, HN M0 175 0 180 0 σ → PIn σ → M'.1 173 10 = bkS (uR M0) (M0.1 173 2) σ) ∧ (a0 < 0 ∨ 1 < a0 → M'.1 173 10 = M0.1 173 10) ∧ (a0 = 0 ∨ a0 = 1 → M'.1 173 2 = 0) ∧ (a0 < 0 ∨ 1 < a0 → M'.1 173 2 = M0.1 173 2))) := by
 refine ⟨jr_X12_book, pj_X12_book, fun F c1 c2 c3 => ?_⟩
 have hm := pj_X12_book
 change F 0 [some (.inr (.inr (.inl 173))), some (.inl a0), none, none] [] M0
 have hF0 : Fr md_X12_book_173y M0 M0 := Fr.rf _ _
 obtain ⟨z1, k2, lz1, uz1⟩ := hH0.ld (c := 173) (i := 2) (A := 0) (B := 940) (bs_28_1 _ _ (by omega) (by omega))
 obtain ⟨z3, k4, lz3, uz3⟩ := hH0.ld (c := 173) (i := 10) (A := (-2147483648)) (B := 2147483647) (bs_28_5 _ _ (by omega) (by omega))
 refine jx_load c1 hm rfl rfl rfl rfl ?_
 refine jy_ic c1 hm rfl (by decide) ?_
 obtain ⟨M5, e5, hH5, hF5, k5, n5, q5⟩ := mup hH0 hF0 (c := 173) (i := 0) (v := 0) (A := (-2147483648)) (B := 2147483647) (bs_28_0 _ _ (by omega) (by omega)) ⟨by omega, by omega⟩ (jin_of 0 rfl ⟨by omega, by omega⟩)
 refine jm_puti c1 hm rfl sh_173 rfl e5 ?_
 refine jx_load c1 hm rfl rfl rfl rfl ?_
 refine jy_ic c1 hm rfl (by decide) ?_
 refine jy_ic c1 hm rfl (by decide) ?_
 refine jt_i c3 hm rfl rfl pj_X12_isIn rfl rfl rfl ((ct_X12_isInp X (by omega) M5 hH5 a0 ⟨by omega, by omega⟩ 0 ⟨by omega, by omega⟩ 1 ⟨by omega, by omega⟩).le (by decide)) (fun z6 _ ⟨rfl, lz6, uz6, p7, p8⟩ => ?_)
 refine jz_ne c1 hm 18 rfl rfl (fun h9 => ?_) (fun h9 => ?_)
 ·
  refine jx_load c1 hm rfl rfl rfl rfl ?_
  refine jy_sp c1 hm rfl (by decide) ?_
  have k10 : M5.1 173 2 = z1 := (n5 173 2 (by decide)).trans k2
  refine jv_v c3 hm rfl pj_X12_begin rfl rfl ⟨_, _, _, rfl, sh_173⟩ rfl ((ct_X12_begin_173q X (by omega) M5 hH5 400 ⟨by omega, by omega⟩).le (by decide)) (fun M15 ⟨hH15, hR15, p11, p12, p13, p14⟩ => ?_)
  have hF15 := hF5.tr hR15 (by decide +kernel)
  obtain ⟨z16, k17, lz16, uz16⟩ := hH15.ld (c := 173) (i := 2) (A := 0) (B := 940) (bs_28_1 _ _ (by omega) (by omega))
  obtain ⟨z18, k19, lz18, uz18⟩ := hH15.ld (c := 173) (i := 10) (A := (-2147483648)) (B := 2147483647) (bs_28_5 _ _ (by omega) (by omega))
  refine jx_load c1 hm rfl rfl rfl rfl ?_
  refine jy_ic c1 hm rfl (by decide) ?_
  obtain ⟨M20, e20, hH20, hF20, k20, n20, q20⟩ := mup hH15 hF15 (c := 173) (i := 46) (v := 0) (A := 0) (B := 40) (bs_28_20 _ _ (by omega) (by omega)) ⟨by omega, by omega⟩ (jin_of 13 rfl ⟨by omega, by omega⟩)
  refine jm_puti c1 hm rfl sh_173 rfl e20 ?_
  have W27 : ∀ (n28 : Nat) (M21 : JM) (hH21 : HI (X) M21) (hF21 : Fr md_X12_book_173y M0 M21) (k23 : M21.1 173 2 = z16) (b24 : Int) (hb24 : 0 ≤ b24 ∧ b24 ≤ 40) (k25 : M21.1 173 46 = b24) (hrb : a0 = 0 ∨ a0 = 1 → ∀ σ : PSt, HN M0 175 0 180 0 σ → PIn σ → RBr (uR M0, (M0.1 173 2, 400)) ((0, σ.2), 0) M21), (-b24 + 40) < (n28 : Int) → F 30 [some (.inr (.inr (.inl 173))), some (.inl a0), none, none] [] M21 := by
   intro n28
   induction n28 with
   | zero => intros; omega
   | succ n28 ihW27 =>
    intro M21 hH21 hF21 k23 b24 hb24 k25 hrb hrW27
    refine jx_load c1 hm rfl rfl rfl rfl ?_
    obtain ⟨z29, k30, lz29, uz29⟩ := hH21.ld (c := 173) (i := 7) (A := 0) (B := 4) (bs_28_4 _ _ (by omega) (by omega))
    refine jx_geti c1 hm rfl sh_173 rfl k30 ?_
    obtain ⟨z31, k32, lz31, uz31⟩ := hH21.ld (c := 173) (i := 10) (A := (-2147483648)) (B := 2147483647) (bs_28_5 _ _ (by omega) (by omega))
    refine jz_eq c1 hm 65 rfl rfl (fun h33 => ?_) (fun h33 => ?_)
    ·
     refine jx_load c1 hm rfl rfl rfl rfl ?_
     have hbf := fun (ha : a0 = 0 ∨ a0 = 1) (σ : PSt) hσ hp9 => RBr.fin (hrb ha σ hσ hp9) (by omega)
     refine jv_v c3 hm rfl pj_X12_layAside rfl rfl ⟨_, _, _, rfl, sh_173⟩ rfl ((ct_X12_layAside_173 X (by omega) M21 hH21 ).le (by decide)) (fun M34 ⟨hH34, hR34⟩ => ?_)
     have hF34 := hF21.tr hR34 (by decide +kernel)
     refine jy_ic c1 hm rfl (by decide) ?_
     refine jx_stor c1 hm (L' := [some (.inr (.inr (.inl 173))), some (.inl a0), some (.inl 0), none]) rfl rfl rfl rfl rfl ?_
     refine jy_ic c1 hm rfl (by decide) ?_
     refine jx_stor c1 hm (L' := [some (.inr (.inr (.inl 173))), some (.inl a0), some (.inl 0), some (.inl 0)]) rfl rfl rfl rfl rfl ?_
     have W47 : ∀ (n48 : Nat) (b35 : Int) (hb35 : 0 ≤ b35 ∧ b35 ≤ 40) (b36 : Int) (hb36 : 0 ≤ b36 ∧ b36 ≤ 59) (M37 : JM) (hH37 : HI (X + b35 + b36) M37) (hF37 : Fr md_X12_book_173y M0 M37) (k39 : M37.1 173 2 = z16) (k41 : M37.1 173 7 = z29) (k43 : M37.1 173 10 = z31) (k45 : M37.1 173 46 = b24) (h46 : b35 ≤ 40 ∧ 0 ≤ b36 ∧ b36 ≤ 52), 4200 - 100 * b35 - b36 < (n48 : Int) → F 73 [some (.inr (.inr (.inl 173))), some (.inl a0), some (.inl b35), some (.inl b36)] [] M37 := by
      intro n48
      induction n48 with
      | zero => intros; omega
      | succ n48 ihW47 =>
       intro b35 hb35 b36 hb36 M37 hH37 hF37 k39 k41 k43 k45 h46 hrW47
       refine jx_load c1 hm rfl rfl rfl rfl ?_
       refine jx_load c1 hm rfl rfl rfl rfl ?_
       refine jx_geti c1 hm rfl sh_173 rfl k45 ?_
       refine jc_ge c1 hm 103 rfl rfl (fun h49 => ?_) (fun h49 => ?_)
       ·
        refine jx_load c1 hm rfl rfl rfl rfl ?_
        refine jx_getr c1 hm rfl sh_173 rfl ?_
        refine jy_ic c1 hm rfl (by decide) ?_
        refine jx_load c1 hm rfl rfl rfl rfl ?_
        obtain ⟨M50, e50, hH50, hF50, k50, n50, q50⟩ := mup hH37 hF37 (c := 196) (i := 0) (v := b36) (A := (-2147483648)) (B := 2147483647) rfl ⟨by omega, by omega⟩ (jin_of 20 rfl ⟨by omega, by omega⟩)
        refine jm_iast c1 hm rfl sh_196 ⟨by omega, by omega⟩ e50 ?_
        refine jx_load c1 hm rfl rfl rfl rfl ?_
        refine jx_getr c1 hm rfl sh_173 rfl ?_
        refine jy_ic c1 hm rfl (by decide) ?_
        refine jx_load c1 hm rfl rfl rfl rfl ?_
        obtain ⟨M51, e51, hH51, hF51, k51, n51, q51⟩ := mup hH50 hF50 (c := 196) (i := 1) (v := b35) (A := (-2147483648)) (B := 2147483647) rfl ⟨by omega, by omega⟩ (jin_of 21 rfl ⟨by omega, by omega⟩)
        refine jm_iast c1 hm rfl sh_196 ⟨by omega, by omega⟩ e51 ?_
        refine jx_load c1 hm rfl rfl rfl rfl ?_
        refine jx_getr c1 hm rfl sh_173 rfl ?_
        refine jy_ic c1 hm rfl (by decide) ?_
        refine jx_load c1 hm rfl rfl rfl rfl ?_
        refine jx_getr c1 hm rfl sh_173 rfl ?_
        refine jy_bp c1 hm rfl (by decide) ?_
        obtain ⟨z52, k53, lz52, uz52⟩ := hH51.ld (c := 175) (i := 101) (A := (-2147483648)) (B := 2147483647) (bs_11_7 _ _ (by omega) (by omega))
        refine jx_iald c1 hm rfl sh_175 ⟨by omega, by omega⟩ k53 ?_
        obtain ⟨M54, e54, hH54, hF54, k54, n54, q54⟩ := mup hH51 hF51 (c := 196) (i := 2) (v := z52) (A := (-2147483648)) (B := 2147483647) rfl ⟨by omega, by omega⟩ (jin_of 22 rfl ⟨by omega, by omega⟩)
        refine jm_iast c1 hm rfl sh_196 ⟨by omega, by omega⟩ e54 ?_
        refine jx_load c1 hm rfl rfl rfl rfl ?_
        refine jx_getr c1 hm rfl sh_173 rfl ?_
        refine jy_ic c1 hm rfl (by decide) ?_
        refine jx_load c1 hm rfl rfl rfl rfl ?_
        refine jy_bp c1 hm rfl (by decide) ?_
        refine jy_bp c1 hm rfl (by decide) ?_
        refine jv_i c3 hm rfl pj_X12_sumOf rfl rfl ⟨_, _, _, rfl, sh_173⟩ rfl ((ct_X12_sumOf_173 (X + b35 + b36) (by omega) M54 hH54 108 ⟨by omega, by omega⟩ 6 ⟨by omega, by omega⟩).le (by decide)) (fun z55 _ ⟨rfl, lz55, uz55⟩ => ?_)
        obtain ⟨M56, e56, hH56, hF56, k56, n56, q56⟩ := mup hH54 hF54 (c := 196) (i := 3) (v := z55) (A := (-2147483648)) (B := 2147483647) rfl ⟨by omega, by omega⟩ (jin_of 23 rfl ⟨by omega, by omega⟩)
        refine jm_iast c1 hm rfl sh_196 ⟨by omega, by omega⟩ e56 ?_
        refine jx_load c1 hm rfl rfl rfl rfl ?_
        refine jy_ic c1 hm rfl (by decide) ?_
        obtain ⟨M57, e57, hH57, hF57, k57, n57, q57⟩ := mup hH56 hF56 (c := 173) (i := 47) (v := 1) (A := 0) (B := 1) (bs_28_21 _ _ (by omega) (by omega)) ⟨by omega, by omega⟩ (jin_of 14 rfl ⟨by omega, by omega⟩)
        refine jm_putz c1 hm rfl sh_173 rfl ⟨by omega, by omega⟩ e57 ?_
        refine jx_load c1 hm rfl rfl rfl rfl ?_
        refine jx_load c1 hm rfl rfl rfl rfl ?_
        refine jy_ic c1 hm rfl (by decide) ?_
        refine jc_ne c1 hm 163 rfl rfl (fun h58 => ?_) (fun h58 => ?_)
        ·
         refine jy_ic c1 hm rfl (by decide) ?_
         refine jv_v c3 hm rfl pj_X12_stay rfl rfl ⟨_, _, _, rfl, sh_173⟩ rfl ((ct_X12_stay_173 (X + b35 + b36) (by omega) M57 hH57 0 ⟨by omega, by omega⟩).le (by decide)) (fun M59 ⟨hH59, hR59⟩ => ?_)
         have hF59 := hF57.tr hR59 (by decide +kernel)
         refine jx_load c1 hm rfl rfl rfl rfl ?_
         refine jz_ne c1 hm 175 rfl rfl (fun h60 => ?_) (fun h60 => ?_)
         ·
          refine jx_load c1 hm rfl rfl rfl rfl ?_
          have k61 : M59.1 173 2 = z16 := (hR59 173 2 (by decide +kernel)).trans ((n57 173 2 (by decide)).trans ((n56 173 2 (fun h => absurd h.1 (by decide))).trans ((n54 173 2 (fun h => absurd h.1 (by decide))).trans ((n51 173 2 (fun h => absurd h.1 (by decide))).trans ((n50 173 2 (fun h => absurd h.1 (by decide))).trans k39)))))
          have k62 : M59.1 173 10 = z31 := (hR59 173 10 (by decide +kernel)).trans ((n57 173 10 (by decide)).trans ((n56 173 10 (fun h => absurd h.1 (by decide))).trans ((n54 173 10 (fun h => absurd h.1 (by decide))).trans ((n51 173 10 (fun h => absurd h.1 (by decide))).trans ((n50 173 10 (fun h => absurd h.1 (by decide))).trans k43)))))
          exact jx_reti c2 hm rfl rfl ⟨_, rfl, (hH59.mono (by omega) (by omega)), hF59, by omega, by omega, (fun ha σ hσ hp9 => by have y9 := hbf ha σ hσ hp9; show _ = (allB (uR M0, (M0.1 173 2, 400)) 1000 ((0, σ.2), 0)).1; omega), (by omega), (by omega), (by omega)⟩
         refine jy_ic c1 hm rfl (by decide) ?_
         refine jx_goto c1 hm 176 rfl rfl ?_
         have k63 : M59.1 173 2 = z16 := (hR59 173 2 (by decide +kernel)).trans ((n57 173 2 (by decide)).trans ((n56 173 2 (fun h => absurd h.1 (by decide))).trans ((n54 173 2 (fun h => absurd h.1 (by decide))).trans ((n51 173 2 (fun h => absurd h.1 (by decide))).trans ((n50 173 2 (fun h => absurd h.1 (by decide))).trans k39)))))
         have k64 : M59.1 173 10 = z31 := (hR59 173 10 (by decide +kernel)).trans ((n57 173 10 (by decide)).trans ((n56 173 10 (fun h => absurd h.1 (by decide))).trans ((n54 173 10 (fun h => absurd h.1 (by decide))).trans ((n51 173 10 (fun h => absurd h.1 (by decide))).trans ((n50 173 10 (fun h => absurd h.1 (by decide))).trans k43)))))
         exact jx_reti c2 hm rfl rfl ⟨_, rfl, (hH59.mono (by omega) (by omega)), hF59, by omega, by omega, (fun ha σ hσ hp9 => by have y9 := hbf ha σ hσ hp9; show _ = (allB (uR M0, (M0.1 173 2, 400)) 1000 ((0, σ.2), 0)).1; omega), (by omega), (by omega), (by omega)⟩
        refine jx_load c1 hm rfl rfl rfl rfl ?_
        refine jz_le c1 hm 163 rfl rfl (fun h65 => ?_) (fun h65 => ?_)
        ·
         refine jy_ic c1 hm rfl (by decide) ?_
         refine jv_v c3 hm rfl pj_X12_stay rfl rfl ⟨_, _, _, rfl, sh_173⟩ rfl ((ct_X12_stay_173 (X + b35 + b36) (by omega) M57 hH57 0 ⟨by omega, by omega⟩).le (by decide)) (fun M66 ⟨hH66, hR66⟩ => ?_)
         have hF66 := hF57.tr hR66 (by decide +kernel)
         refine jx_load c1 hm rfl rfl rfl rfl ?_
         refine jz_ne c1 hm 175 rfl rfl (fun h67 => ?_) (fun h67 => ?_)
         ·
          refine jx_load c1 hm rfl rfl rfl rfl ?_
          have k68 : M66.1 173 2 = z16 := (hR66 173 2 (by decide +kernel)).trans ((n57 173 2 (by decide)).trans ((n56 173 2 (fun h => absurd h.1 (by decide))).trans ((n54 173 2 (fun h => absurd h.1 (by decide))).trans ((n51 173 2 (fun h => absurd h.1 (by decide))).trans ((n50 173 2 (fun h => absurd h.1 (by decide))).trans k39)))))
          have k69 : M66.1 173 10 = z31 := (hR66 173 10 (by decide +kernel)).trans ((n57 173 10 (by decide)).trans ((n56 173 10 (fun h => absurd h.1 (by decide))).trans ((n54 173 10 (fun h => absurd h.1 (by decide))).trans ((n51 173 10 (fun h => absurd h.1 (by decide))).trans ((n50 173 10 (fun h => absurd h.1 (by decide))).trans k43)))))
          exact jx_reti c2 hm rfl rfl ⟨_, rfl, (hH66.mono (by omega) (by omega)), hF66, by omega, by omega, (fun ha σ hσ hp9 => by have y9 := hbf ha σ hσ hp9; show _ = (allB (uR M0, (M0.1 173 2, 400)) 1000 ((0, σ.2), 0)).1; omega), (by omega), (by omega), (by omega)⟩
         refine jy_ic c1 hm rfl (by decide) ?_
         refine jx_goto c1 hm 176 rfl rfl ?_
         have k70 : M66.1 173 2 = z16 := (hR66 173 2 (by decide +kernel)).trans ((n57 173 2 (by decide)).trans ((n56 173 2 (fun h => absurd h.1 (by decide))).trans ((n54 173 2 (fun h => absurd h.1 (by decide))).trans ((n51 173 2 (fun h => absurd h.1 (by decide))).trans ((n50 173 2 (fun h => absurd h.1 (by decide))).trans k39)))))
         have k71 : M66.1 173 10 = z31 := (hR66 173 10 (by decide +kernel)).trans ((n57 173 10 (by decide)).trans ((n56 173 10 (fun h => absurd h.1 (by decide))).trans ((n54 173 10 (fun h => absurd h.1 (by decide))).trans ((n51 173 10 (fun h => absurd h.1 (by decide))).trans ((n50 173 10 (fun h => absurd h.1 (by decide))).trans k43)))))
         exact jx_reti c2 hm rfl rfl ⟨_, rfl, (hH66.mono (by omega) (by omega)), hF66, by omega, by omega, (fun ha σ hσ hp9 => by have y9 := hbf ha σ hσ hp9; show _ = (allB (uR M0, (M0.1 173 2, 400)) 1000 ((0, σ.2), 0)).1; omega), (by omega), (by omega), (by omega)⟩
        refine jy_ic c1 hm rfl (by decide) ?_
        refine jx_goto c1 hm 164 rfl rfl ?_
        refine jv_v c3 hm rfl pj_X12_stay rfl rfl ⟨_, _, _, rfl, sh_173⟩ rfl ((ct_X12_stay_173 (X + b35 + b36) (by omega) M57 hH57 1 ⟨by omega, by omega⟩).le (by decide)) (fun M72 ⟨hH72, hR72⟩ => ?_)
        have hF72 := hF57.tr hR72 (by decide +kernel)
        refine jx_load c1 hm rfl rfl rfl rfl ?_
        refine jz_ne c1 hm 175 rfl rfl (fun h73 => ?_) (fun h73 => ?_)
        ·
         refine jx_load c1 hm rfl rfl rfl rfl ?_
         have k74 : M72.1 173 2 = z16 := (hR72 173 2 (by decide +kernel)).trans ((n57 173 2 (by decide)).trans ((n56 173 2 (fun h => absurd h.1 (by decide))).trans ((n54 173 2 (fun h => absurd h.1 (by decide))).trans ((n51 173 2 (fun h => absurd h.1 (by decide))).trans ((n50 173 2 (fun h => absurd h.1 (by decide))).trans k39)))))
         have k75 : M72.1 173 10 = z31 := (hR72 173 10 (by decide +kernel)).trans ((n57 173 10 (by decide)).trans ((n56 173 10 (fun h => absurd h.1 (by decide))).trans ((n54 173 10 (fun h => absurd h.1 (by decide))).trans ((n51 173 10 (fun h => absurd h.1 (by decide))).trans ((n50 173 10 (fun h => absurd h.1 (by decide))).trans k43)))))
         exact jx_reti c2 hm rfl rfl ⟨_, rfl, (hH72.mono (by omega) (by omega)), hF72, by omega, by omega, (fun ha σ hσ hp9 => by have y9 := hbf ha σ hσ hp9; show _ = (allB (uR M0, (M0.1 173 2, 400)) 1000 ((0, σ.2), 0)).1; omega), (by omega), (by omega), (by omega)⟩
        refine jy_ic c1 hm rfl (by decide) ?_
        refine jx_goto c1 hm 176 rfl rfl ?_
        have k76 : M72.1 173 2 = z16 := (hR72 173 2 (by decide +kernel)).trans ((n57 173 2 (by decide)).trans ((n56 173 2 (fun h => absurd h.1 (by decide))).trans ((n54 173 2 (fun h => absurd h.1 (by decide))).trans ((n51 173 2 (fun h => absurd h.1 (by decide))).trans ((n50 173 2 (fun h => absurd h.1 (by decide))).trans k39)))))
        have k77 : M72.1 173 10 = z31 := (hR72 173 10 (by decide +kernel)).trans ((n57 173 10 (by decide)).trans ((n56 173 10 (fun h => absurd h.1 (by decide))).trans ((n54 173 10 (fun h => absurd h.1 (by decide))).trans ((n51 173 10 (fun h => absurd h.1 (by decide))).trans ((n50 173 10 (fun h => absurd h.1 (by decide))).trans k43)))))
        exact jx_reti c2 hm rfl rfl ⟨_, rfl, (hH72.mono (by omega) (by omega)), hF72, by omega, by omega, (fun ha σ hσ hp9 => by have y9 := hbf ha σ hσ hp9; show _ = (allB (uR M0, (M0.1 173 2, 400)) 1000 ((0, σ.2), 0)).1; omega), (by omega), (by omega), (by omega)⟩
       refine jx_load c1 hm rfl rfl rfl rfl ?_
       refine jz_ne c1 hm 103 rfl rfl (fun h78 => ?_) (fun h78 => ?_)
       ·
        refine jx_load c1 hm rfl rfl rfl rfl ?_
        refine jx_getr c1 hm rfl sh_173 rfl ?_
        refine jy_ic c1 hm rfl (by decide) ?_
        refine jx_load c1 hm rfl rfl rfl rfl ?_
        obtain ⟨M79, e79, hH79, hF79, k79, n79, q79⟩ := mup hH37 hF37 (c := 196) (i := 0) (v := b36) (A := (-2147483648)) (B := 2147483647) rfl ⟨by omega, by omega⟩ (jin_of 20 rfl ⟨by omega, by omega⟩)
        refine jm_iast c1 hm rfl sh_196 ⟨by omega, by omega⟩ e79 ?_
        refine jx_load c1 hm rfl rfl rfl rfl ?_
        refine jx_getr c1 hm rfl sh_173 rfl ?_
        refine jy_ic c1 hm rfl (by decide) ?_
        refine jx_load c1 hm rfl rfl rfl rfl ?_
        obtain ⟨M80, e80, hH80, hF80, k80, n80, q80⟩ := mup hH79 hF79 (c := 196) (i := 1) (v := b35) (A := (-2147483648)) (B := 2147483647) rfl ⟨by omega, by omega⟩ (jin_of 21 rfl ⟨by omega, by omega⟩)
        refine jm_iast c1 hm rfl sh_196 ⟨by omega, by omega⟩ e80 ?_
        refine jx_load c1 hm rfl rfl rfl rfl ?_
        refine jx_getr c1 hm rfl sh_173 rfl ?_
        refine jy_ic c1 hm rfl (by decide) ?_
        refine jx_load c1 hm rfl rfl rfl rfl ?_
        refine jx_getr c1 hm rfl sh_173 rfl ?_
        refine jy_bp c1 hm rfl (by decide) ?_
        obtain ⟨z81, k82, lz81, uz81⟩ := hH80.ld (c := 175) (i := 101) (A := (-2147483648)) (B := 2147483647) (bs_11_7 _ _ (by omega) (by omega))
        refine jx_iald c1 hm rfl sh_175 ⟨by omega, by omega⟩ k82 ?_
        obtain ⟨M83, e83, hH83, hF83, k83, n83, q83⟩ := mup hH80 hF80 (c := 196) (i := 2) (v := z81) (A := (-2147483648)) (B := 2147483647) rfl ⟨by omega, by omega⟩ (jin_of 22 rfl ⟨by omega, by omega⟩)
        refine jm_iast c1 hm rfl sh_196 ⟨by omega, by omega⟩ e83 ?_
        refine jx_load c1 hm rfl rfl rfl rfl ?_
        refine jx_getr c1 hm rfl sh_173 rfl ?_
        refine jy_ic c1 hm rfl (by decide) ?_
        refine jx_load c1 hm rfl rfl rfl rfl ?_
        refine jy_bp c1 hm rfl (by decide) ?_
        refine jy_bp c1 hm rfl (by decide) ?_
        refine jv_i c3 hm rfl pj_X12_sumOf rfl rfl ⟨_, _, _, rfl, sh_173⟩ rfl ((ct_X12_sumOf_173 (X + b35 + b36) (by omega) M83 hH83 108 ⟨by omega, by omega⟩ 6 ⟨by omega, by omega⟩).le (by decide)) (fun z84 _ ⟨rfl, lz84, uz84⟩ => ?_)
        obtain ⟨M85, e85, hH85, hF85, k85, n85, q85⟩ := mup hH83 hF83 (c := 196) (i := 3) (v := z84) (A := (-2147483648)) (B := 2147483647) rfl ⟨by omega, by omega⟩ (jin_of 23 rfl ⟨by omega, by omega⟩)
        refine jm_iast c1 hm rfl sh_196 ⟨by omega, by omega⟩ e85 ?_
        refine jx_load c1 hm rfl rfl rfl rfl ?_
        refine jy_ic c1 hm rfl (by decide) ?_
        obtain ⟨M86, e86, hH86, hF86, k86, n86, q86⟩ := mup hH85 hF85 (c := 173) (i := 47) (v := 1) (A := 0) (B := 1) (bs_28_21 _ _ (by omega) (by omega)) ⟨by omega, by omega⟩ (jin_of 14 rfl ⟨by omega, by omega⟩)
        refine jm_putz c1 hm rfl sh_173 rfl ⟨by omega, by omega⟩ e86 ?_
        refine jx_load c1 hm rfl rfl rfl rfl ?_
        refine jx_load c1 hm rfl rfl rfl rfl ?_
        refine jy_ic c1 hm rfl (by decide) ?_
        refine jc_ne c1 hm 163 rfl rfl (fun h87 => ?_) (fun h87 => ?_)
        ·
         refine jy_ic c1 hm rfl (by decide) ?_
         refine jv_v c3 hm rfl pj_X12_stay rfl rfl ⟨_, _, _, rfl, sh_173⟩ rfl ((ct_X12_stay_173 (X + b35 + b36) (by omega) M86 hH86 0 ⟨by omega, by omega⟩).le (by decide)) (fun M88 ⟨hH88, hR88⟩ => ?_)
         have hF88 := hF86.tr hR88 (by decide +kernel)
         refine jx_load c1 hm rfl rfl rfl rfl ?_
         refine jz_ne c1 hm 175 rfl rfl (fun h89 => ?_) (fun h89 => ?_)
         ·
          refine jx_load c1 hm rfl rfl rfl rfl ?_
          have k90 : M88.1 173 2 = z16 := (hR88 173 2 (by decide +kernel)).trans ((n86 173 2 (by decide)).trans ((n85 173 2 (fun h => absurd h.1 (by decide))).trans ((n83 173 2 (fun h => absurd h.1 (by decide))).trans ((n80 173 2 (fun h => absurd h.1 (by decide))).trans ((n79 173 2 (fun h => absurd h.1 (by decide))).trans k39)))))
          have k91 : M88.1 173 10 = z31 := (hR88 173 10 (by decide +kernel)).trans ((n86 173 10 (by decide)).trans ((n85 173 10 (fun h => absurd h.1 (by decide))).trans ((n83 173 10 (fun h => absurd h.1 (by decide))).trans ((n80 173 10 (fun h => absurd h.1 (by decide))).trans ((n79 173 10 (fun h => absurd h.1 (by decide))).trans k43)))))
          exact jx_reti c2 hm rfl rfl ⟨_, rfl, (hH88.mono (by omega) (by omega)), hF88, by omega, by omega, (fun ha σ hσ hp9 => by have y9 := hbf ha σ hσ hp9; show _ = (allB (uR M0, (M0.1 173 2, 400)) 1000 ((0, σ.2), 0)).1; omega), (by omega), (by omega), (by omega)⟩
         exfalso; omega
        refine jx_load c1 hm rfl rfl rfl rfl ?_
        refine jz_le c1 hm 163 rfl rfl (fun h92 => ?_) (fun h92 => ?_)
        ·
         refine jy_ic c1 hm rfl (by decide) ?_
         refine jv_v c3 hm rfl pj_X12_stay rfl rfl ⟨_, _, _, rfl, sh_173⟩ rfl ((ct_X12_stay_173 (X + b35 + b36) (by omega) M86 hH86 0 ⟨by omega, by omega⟩).le (by decide)) (fun M93 ⟨hH93, hR93⟩ => ?_)
         have hF93 := hF86.tr hR93 (by decide +kernel)
         refine jx_load c1 hm rfl rfl rfl rfl ?_
         refine jz_ne c1 hm 175 rfl rfl (fun h94 => ?_) (fun h94 => ?_)
         ·
          refine jx_load c1 hm rfl rfl rfl rfl ?_
          have k95 : M93.1 173 2 = z16 := (hR93 173 2 (by decide +kernel)).trans ((n86 173 2 (by decide)).trans ((n85 173 2 (fun h => absurd h.1 (by decide))).trans ((n83 173 2 (fun h => absurd h.1 (by decide))).trans ((n80 173 2 (fun h => absurd h.1 (by decide))).trans ((n79 173 2 (fun h => absurd h.1 (by decide))).trans k39)))))
          have k96 : M93.1 173 10 = z31 := (hR93 173 10 (by decide +kernel)).trans ((n86 173 10 (by decide)).trans ((n85 173 10 (fun h => absurd h.1 (by decide))).trans ((n83 173 10 (fun h => absurd h.1 (by decide))).trans ((n80 173 10 (fun h => absurd h.1 (by decide))).trans ((n79 173 10 (fun h => absurd h.1 (by decide))).trans k43)))))
          exact jx_reti c2 hm rfl rfl ⟨_, rfl, (hH93.mono (by omega) (by omega)), hF93, by omega, by omega, (fun ha σ hσ hp9 => by have y9 := hbf ha σ hσ hp9; show _ = (allB (uR M0, (M0.1 173 2, 400)) 1000 ((0, σ.2), 0)).1; omega), (by omega), (by omega), (by omega)⟩
         exfalso; omega
        refine jy_ic c1 hm rfl (by decide) ?_
        refine jx_goto c1 hm 164 rfl rfl ?_
        refine jv_v c3 hm rfl pj_X12_stay rfl rfl ⟨_, _, _, rfl, sh_173⟩ rfl ((ct_X12_stay_173 (X + b35 + b36) (by omega) M86 hH86 1 ⟨by omega, by omega⟩).le (by decide)) (fun M97 ⟨hH97, hR97⟩ => ?_)
        have hF97 := hF86.tr hR97 (by decide +kernel)
        refine jx_load c1 hm rfl rfl rfl rfl ?_
        refine jz_ne c1 hm 175 rfl rfl (fun h98 => ?_) (fun h98 => ?_)
        ·
         refine jx_load c1 hm rfl rfl rfl rfl ?_
         have k99 : M97.1 173 2 = z16 := (hR97 173 2 (by decide +kernel)).trans ((n86 173 2 (by decide)).trans ((n85 173 2 (fun h => absurd h.1 (by decide))).trans ((n83 173 2 (fun h => absurd h.1 (by decide))).trans ((n80 173 2 (fun h => absurd h.1 (by decide))).trans ((n79 173 2 (fun h => absurd h.1 (by decide))).trans k39)))))
         have k100 : M97.1 173 10 = z31 := (hR97 173 10 (by decide +kernel)).trans ((n86 173 10 (by decide)).trans ((n85 173 10 (fun h => absurd h.1 (by decide))).trans ((n83 173 10 (fun h => absurd h.1 (by decide))).trans ((n80 173 10 (fun h => absurd h.1 (by decide))).trans ((n79 173 10 (fun h => absurd h.1 (by decide))).trans k43)))))
         exact jx_reti c2 hm rfl rfl ⟨_, rfl, (hH97.mono (by omega) (by omega)), hF97, by omega, by omega, (fun ha σ hσ hp9 => by have y9 := hbf ha σ hσ hp9; show _ = (allB (uR M0, (M0.1 173 2, 400)) 1000 ((0, σ.2), 0)).1; omega), (by omega), (by omega), (by omega)⟩
        exfalso; omega
       refine jx_load c1 hm rfl rfl rfl rfl ?_
       refine jy_ic c1 hm rfl (by decide) ?_
       refine jx_load c1 hm rfl rfl rfl rfl ?_
       refine jy_mul c1 hm (4 * b35) rfl (by omega) ?_
       refine jv_i c3 hm rfl pj_X12_goBy rfl rfl ⟨_, _, _, rfl, sh_173⟩ rfl ((ct_X12_goBy_173 (X + b35 + b36) (by omega) M37 hH37 (4 * b35) ⟨by omega, by omega⟩ (by omega)).le (by decide)) (fun z101 M102 ⟨hH102, hR102, lz101, uz101⟩ => ?_)
       have hF102 := hF37.tr hR102 (by decide +kernel)
       refine jx_stor c1 hm (L' := [some (.inr (.inr (.inl 173))), some (.inl a0), some (.inl b35), some (.inl z101)]) rfl rfl rfl rfl rfl ?_
       refine jx_load c1 hm rfl rfl rfl rfl ?_
       refine jz_ne c1 hm 73 rfl rfl (fun h103 => ?_) (fun h103 => ?_)
       ·
        have k104 : M102.1 173 2 = z16 := (hR102 173 2 (by decide +kernel)).trans k39
        have k105 : M102.1 173 7 = z29 := (hR102 173 7 (by decide +kernel)).trans k41
        have k106 : M102.1 173 10 = z31 := (hR102 173 10 (by decide +kernel)).trans k43
        have k107 : M102.1 173 46 = b24 := (hR102 173 46 (by decide +kernel)).trans k45
        exact ihW47 b35 (by omega) z101 (by omega) M102 (hH102.mono (by omega) (by omega)) hF102 k104 k105 k106 k107 (by omega) (by omega)
       refine jx_iinc c1 hm (v := (b35 + 1)) (L' := [some (.inr (.inr (.inl 173))), some (.inl a0), some (.inl (b35 + 1)), some (.inl z101)]) rfl rfl (by omega) (by omega) rfl ?_
       refine jx_goto c1 hm 73 rfl rfl ?_
       have k108 : M102.1 173 2 = z16 := (hR102 173 2 (by decide +kernel)).trans k39
       have k109 : M102.1 173 7 = z29 := (hR102 173 7 (by decide +kernel)).trans k41
       have k110 : M102.1 173 10 = z31 := (hR102 173 10 (by decide +kernel)).trans k43
       have k111 : M102.1 173 46 = b24 := (hR102 173 46 (by decide +kernel)).trans k45
       exact ihW47 (b35 + 1) (by omega) z101 (by omega) M102 (hH102.mono (by omega) (by omega)) hF102 k108 k109 k110 k111 (by omega) (by omega)
     have k38 : M34.1 173 2 = z16 := (hR34 173 2 (by decide +kernel)).trans k23
     have k40 : M34.1 173 7 = z29 := (hR34 173 7 (by decide +kernel)).trans k30
     have k42 : M34.1 173 10 = z31 := (hR34 173 10 (by decide +kernel)).trans k32
     have k44 : M34.1 173 46 = b24 := (hR34 173 46 (by decide +kernel)).trans k25
     exact W47 (4200 - 100 * 0 - 0 + 1 : Int).toNat 0 (by omega) 0 (by omega) M34 (hH34.mono (by omega) (by omega)) hF34 k38 k40 k42 k44 (by omega) (by omega)
    refine jx_load c1 hm rfl rfl rfl rfl ?_
    refine jv_i c3 hm rfl pj_X12_readBookLine rfl rfl ⟨_, _, _, rfl, sh_173⟩ rfl ((ct_X12_readBookLine_173y X (by omega) M21 hH21 ).le (by decide)) (fun z112 M117 ⟨hH117, hR117, lz112, uz112, p113, p114, p115, p116⟩ => ?_)
    have hF117 := hF21.tr hR117 (by decide +kernel)
    have k118 : M117.1 173 46 = b24 := (hR117 173 46 (by decide +kernel)).trans k25
    refine jz_ne c1 hm 52 rfl rfl (fun h119 => ?_) (fun h119 => ?_)
    ·
     refine jx_load c1 hm rfl rfl rfl rfl ?_
     refine jx_dup c1 hm rfl rfl ?_
     refine jx_geti c1 hm rfl sh_173 rfl k118 ?_
     refine jy_ic c1 hm rfl (by decide) ?_
     refine jy_add c1 hm (b24 + 1) rfl (by omega) ?_
     obtain ⟨M120, e120, hH120, hF120, k120, n120, q120⟩ := mup hH117 hF117 (c := 173) (i := 46) (v := (b24 + 1)) (A := 0) (B := 40) (bs_28_20 _ _ (by omega) (by omega)) ⟨by omega, by omega⟩ (jin_of 13 rfl ⟨by omega, by omega⟩)
     refine jm_puti c1 hm rfl sh_173 rfl e120 ?_
     refine jx_goto c1 hm 30 rfl rfl ?_
     have k126 : M120.1 173 2 = z16 := (n120 173 2 (by decide)).trans ((hR117 173 2 (by decide +kernel)).trans k23)
     exact ihW27 M120 hH120 hF120 k126 (b24 + 1) (by omega) k120 (fun ha σ hσ hp9 => RBr.go (hrb ha σ hσ hp9) (by omega) (fun σ1 hσ1 => p113 _ σ1 hσ1) (by omega) (fun σ hσ => (CR.cg hσ (fun j => (n120 174 j (fun h => absurd h.1 (by decide)))) (fun j hj => (n120 173 j (fun e => absurd e.2 (by omega)))) ((q120 173 12)) ((n120 173 10 (by decide))) (fun j => (n120 175 j (fun h => absurd h.1 (by decide)))) (fun k => (q120 180 k)))) (by omega) (by omega)) (by omega)
    refine jy_bp c1 hm rfl (by decide) ?_
    refine jx_load c1 hm rfl rfl rfl rfl ?_
    obtain ⟨z121, k122, lz121, uz121⟩ := hH117.ld (c := 173) (i := 11) (A := 0) (B := 940) (bs_28_6 _ _ (by omega) (by omega))
    refine jx_geti c1 hm rfl sh_173 rfl k122 ?_
    refine jy_sub c1 hm (-z121 - 2) rfl (by omega) ?_
    have k123 : M117.1 173 2 = z16 := (hR117 173 2 (by decide +kernel)).trans k23
    obtain ⟨z124, k125, lz124, uz124⟩ := hH117.ld (c := 173) (i := 10) (A := (-2147483648)) (B := 2147483647) (bs_28_5 _ _ (by omega) (by omega))
    exact jx_reti c2 hm rfl rfl ⟨_, rfl, (hH117.mono (by omega) (by omega)), hF117, by omega, by omega, (fun ha σ hσ hp9 => RBr.no (hrb ha σ hσ hp9) (by omega) (fun σ1 hσ1 => p113 _ σ1 hσ1) (by omega)), (by omega), (by omega), (by omega)⟩
  have k22 : M20.1 173 2 = z16 := (n20 173 2 (by decide)).trans k17
  exact W27 (40 + 1 : Int).toNat M20 hH20 hF20 k22 0 (by omega) k20 (fun ha σ hσ hp9 => RBr.start (CR.cg (CR.zero4 (rtx_cg p11 (fun j => (n5 174 j (fun h => absurd h.1 (by decide)))) (n5 173 2 (by decide))) p13 ⟨by omega, by omega⟩ hσ hp9 (fun j => ((hR15 175 j rfl).trans (n5 175 j (fun h => absurd h.1 (by decide))))) (fun k => ((p14 180 k rfl).trans (q5 180 k)))) (fun j => (n20 174 j (fun h => absurd h.1 (by decide)))) (fun j hj => (n20 173 j (fun e => absurd e.2 (by omega)))) ((q20 173 12)) ((n20 173 10 (by decide))) (fun j => (n20 175 j (fun h => absurd h.1 (by decide)))) (fun k => (q20 180 k))) (by omega)) (by omega)
 refine jy_sp c1 hm rfl (by decide) ?_
 have k127 : M5.1 173 2 = z1 := (n5 173 2 (by decide)).trans k2
 have k128 : M5.1 173 10 = z3 := (n5 173 10 (by decide)).trans k4
 exact jx_reti c2 hm rfl rfl ⟨_, rfl, (hH5.mono (by omega) (by omega)), hF5, by omega, by omega, (fun y => absurd y (by omega)), (by omega), (by omega), (by omega)⟩
