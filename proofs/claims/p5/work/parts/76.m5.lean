/-! Contracts of the reference (by wip/q/wlk.py). -/
theorem ct_X12_canDo_173 (X : Int) (hX : 0 ≤ X ∧ X ≤ 100000000) (M0 : JM) (hH0 : HI X M0) (a0 : Int) (ha0 : 0 ≤ a0 ∧ a0 ≤ 5) (a1 : Int) (ha1 : 0 ≤ a1 ∧ a1 ≤ 5) : JOk shp PJ 1 87 [.inr (.inr (.inl 173)), .inl a0, .inl a1] M0 (jRi (fun v M' => M0 = M' ∧ 0 ≤ v ∧ v ≤ 20 )) := by
 refine ⟨jr_X12_canDo, pj_X12_canDo, fun F c1 c2 c3 => ?_⟩
 have hm := pj_X12_canDo
 change F 0 [some (.inr (.inr (.inl 173))), some (.inl a0), some (.inl a1)] [] M0
 refine jx_load c1 hm rfl rfl rfl rfl ?_
 refine jx_getr c1 hm rfl sh_173 rfl ?_
 refine jy_bp c1 hm rfl (by decide) ?_
 refine jy_bp c1 hm rfl (by decide) ?_
 refine jx_load c1 hm rfl rfl rfl rfl ?_
 refine jy_mul c1 hm (6 * a0) rfl (by omega) ?_
 refine jy_add c1 hm (6 * a0 + 17) rfl (by omega) ?_
 refine jx_load c1 hm rfl rfl rfl rfl ?_
 refine jy_add c1 hm (6 * a0 + a1 + 17) rfl (by omega) ?_
 obtain ⟨z1, k2, lz1, uz1⟩ := hH0.ld (c := 175) (i := ((6 * a0 + a1 + 17)).toNat) (A := (-1)) (B := 20) (bs_11_4 _ _ (by omega) (by omega))
 refine jx_iald c1 hm rfl sh_175 ⟨by omega, by omega⟩ k2 ?_
 refine jz_ne c1 hm 21 rfl rfl (fun h3 => ?_) (fun h3 => ?_)
 ·
  refine jy_bp c1 hm rfl (by decide) ?_
  exact jx_reti c2 hm rfl rfl ⟨_, rfl, rfl, by omega, by omega⟩
 refine jy_ic c1 hm rfl (by decide) ?_
 refine jx_goto c1 hm 23 rfl rfl ?_
 exact jx_reti c2 hm rfl rfl ⟨_, rfl, rfl, by omega, by omega⟩
theorem ct_X12_oftenBy_173 (X : Int) (hX : 0 ≤ X ∧ X ≤ 100000000) (M0 : JM) (hH0 : HI X M0) (a0 : Int) (ha0 : 0 ≤ a0 ∧ a0 ≤ 5) (a1 : Int) (ha1 : 0 ≤ a1 ∧ a1 ≤ 5) (a2 : Int) (ha2 : 0 ≤ a2 ∧ a2 ≤ 99) : JOk shp PJ 4 140 [.inr (.inr (.inl 173)), .inl a0, .inl a1, .inl a2] M0 (jRi (fun v M' => M0 = M' ∧ 0 ≤ v ∧ v ≤ 100000 ∧ (v = 100000 ∨ OFX (pbv M0 a0 a1) M0 a1 a2 v))) := by
 refine ⟨jr_X12_oftenBy, pj_X12_oftenBy, fun F c1 c2 c3 => ?_⟩
 have hm := pj_X12_oftenBy
 change F 0 [some (.inr (.inr (.inl 173))), some (.inl a0), some (.inl a1), some (.inl a2), none, none, none] [] M0
 refine jx_ldcw c1 hm (v := 100000) rfl rfl (by decide) ?_
 refine jx_stor c1 hm (L' := [some (.inr (.inr (.inl 173))), some (.inl a0), some (.inl a1), some (.inl a2), some (.inl 100000), none, none]) rfl rfl rfl rfl rfl ?_
 refine jy_ic c1 hm rfl (by decide) ?_
 refine jx_stor c1 hm (L' := [some (.inr (.inr (.inl 173))), some (.inl a0), some (.inl a1), some (.inl a2), some (.inl 100000), some (.inl 0), none]) rfl rfl rfl rfl rfl ?_
 have W6 : ∀ (n7 : Nat) (b1 : Int) (hb1 : 0 ≤ b1 ∧ b1 ≤ 100000) (b2 : Int) (hb2 : 0 ≤ b2 ∧ b2 ≤ 21) (o3 : Option JV) (ho3 : o3 = none ∨ (∃ z, o3 = some (.inl z)) ∨ ∃ r, o3 = some (.inr (.inr r))) (ho : b1 = 100000 ∨ OFX (pbv M0 a0 a1) M0 a1 a2 b1) (h5 : 0 ≤ b1 ∧ b1 ≤ 100000), (-b2 + 21) < (n7 : Int) → F 8 [some (.inr (.inr (.inl 173))), some (.inl a0), some (.inl a1), some (.inl a2), some (.inl b1), some (.inl b2), o3] [] M0 := by
  intro n7
  induction n7 with
  | zero => intros; omega
  | succ n7 ihW6 =>
   intro b1 hb1 b2 hb2 o3 ho3 ho h5 hrW6
   refine jx_load c1 hm rfl rfl rfl rfl ?_
   refine jx_load c1 hm rfl rfl rfl rfl ?_
   refine jx_load c1 hm rfl rfl rfl rfl ?_
   refine jx_load c1 hm rfl rfl rfl rfl ?_
   refine jv_i c3 hm rfl pj_X12_canDo rfl rfl ⟨_, _, _, rfl, sh_173⟩ rfl ((ct_X12_canDo_173 X (by omega) M0 hH0 a0 ⟨by omega, by omega⟩ a1 ⟨by omega, by omega⟩).le (by decide)) (fun z8 _ ⟨rfl, lz8, uz8⟩ => ?_)
   refine jc_gt c1 hm 67 rfl rfl (fun h9 => ?_) (fun h9 => ?_)
   ·
    refine jx_load c1 hm rfl rfl rfl rfl ?_
    exact jx_reti c2 hm rfl rfl ⟨_, rfl, rfl, by omega, by omega, ho⟩
   refine jx_load c1 hm rfl rfl rfl rfl ?_
   refine jx_load c1 hm rfl rfl rfl rfl ?_
   refine jx_load c1 hm rfl rfl rfl rfl ?_
   refine jx_load c1 hm rfl rfl rfl rfl ?_
   refine jv_i c3 hm rfl pj_X12_paysBy rfl rfl ⟨_, _, _, rfl, sh_173⟩ rfl ((ct_X12_paysBy_173 X (by omega) M0 hH0 a0 ⟨by omega, by omega⟩ a1 ⟨by omega, by omega⟩ b2 ⟨by omega, by omega⟩).le (by decide)) (fun z10 _ ⟨rfl, lz10, uz10, p11⟩ => ?_)
   refine jx_stor c1 hm (L' := [some (.inr (.inr (.inl 173))), some (.inl a0), some (.inl a1), some (.inl a2), some (.inl b1), some (.inl b2), some (.inl z10)]) rfl rfl rfl rfl rfl ?_
   refine jx_load c1 hm rfl rfl rfl rfl ?_
   refine jx_load c1 hm rfl rfl rfl rfl ?_
   refine jc_gt c1 hm 61 rfl rfl (fun h12 => ?_) (fun h12 => ?_)
   ·
    refine jx_iinc c1 hm (v := (b2 + 1)) (L' := [some (.inr (.inr (.inl 173))), some (.inl a0), some (.inl a1), some (.inl a2), some (.inl b1), some (.inl (b2 + 1)), some (.inl z10)]) rfl rfl (by omega) (by omega) rfl ?_
    refine jx_goto c1 hm 8 rfl rfl ?_
    exact ihW6 b1 (by omega) (b2 + 1) (by omega) (some (.inl z10)) (Or.inr (Or.inl ⟨_, rfl⟩)) ho (by omega) (by omega)
   refine jx_load c1 hm rfl rfl rfl rfl ?_
   refine jx_load c1 hm rfl rfl rfl rfl ?_
   refine jx_load c1 hm rfl rfl rfl rfl ?_
   refine jx_getr c1 hm rfl sh_173 rfl ?_
   refine jy_bp c1 hm rfl (by decide) ?_
   refine jx_load c1 hm rfl rfl rfl rfl ?_
   refine jy_ic c1 hm rfl (by decide) ?_
   refine jy_add c1 hm (a1 + 1) rfl (by omega) ?_
   refine jy_mul c1 hm (100 * a1 + 100) rfl (by omega) ?_
   refine jx_load c1 hm rfl rfl rfl rfl ?_
   refine jy_add c1 hm (100 * a1 + a2 + 100) rfl (by omega) ?_
   refine jx_load c1 hm rfl rfl rfl rfl ?_
   refine jy_sub c1 hm (100 * a1 + a2 - z10 + 100) rfl (by omega) ?_
   obtain ⟨z13, k14, lz13, uz13⟩ := hH0.ld (c := 186) (i := ((100 * a1 + a2 - z10 + 100)).toNat) (A := 0) (B := 100000) rfl
   refine jx_iald c1 hm rfl sh_186 ⟨by omega, by omega⟩ k14 ?_
   refine jy_add c1 hm (b2 + z13) rfl (by omega) ?_
   refine jt_i c3 hm rfl rfl pj_X12_least rfl rfl rfl ((ct_X12_least X (by omega) M0 hH0 b1 ⟨by omega, by omega⟩ (b2 + z13) ⟨by omega, by omega⟩).le (by decide)) (fun z15 _ ⟨rfl, lz15, uz15, p16, p17⟩ => ?_)
   refine jx_stor c1 hm (L' := [some (.inr (.inr (.inl 173))), some (.inl a0), some (.inl a1), some (.inl a2), some (.inl z15), some (.inl b2), some (.inl z10)]) rfl rfl rfl rfl rfl ?_
   refine jx_iinc c1 hm (v := (b2 + 1)) (L' := [some (.inr (.inr (.inl 173))), some (.inl a0), some (.inl a1), some (.inl a2), some (.inl z15), some (.inl (b2 + 1)), some (.inl z10)]) rfl rfl (by omega) (by omega) rfl ?_
   refine jx_goto c1 hm 8 rfl rfl ?_
   exact ihW6 z15 (by omega) (b2 + 1) (by omega) (some (.inl z10)) (Or.inr (Or.inl ⟨_, rfl⟩)) (Or.elim p17 (fun e => by rw [e]; exact ho) (fun e => Or.inr ⟨b2, by omega, by omega, by rw [← p11]; omega, by rw [← p11]; omega, by rw [← p11, show (100 * a1 + 100 + a2 - z10).toNat = ((100 * a1 + a2 - z10 + 100)).toNat by omega, k14]; omega⟩)) (by omega) (by omega)
 exact W6 (21 + 1 : Int).toNat 100000 (by omega) 0 (by omega) none (Or.inl rfl) (Or.inl rfl) (by omega) (by omega)
def md_X12_plan_173 : List (Nat × (Nat × Nat)) := [(173, (0, 0)), (173, (31, 31)), (173, (32, 32)), (186, (0, 699)), (187, (0, 5))]
theorem ct_X12_plan_173 (X : Int) (hX : 0 ≤ X ∧ X ≤ 100000000) (M0 : JM) (hH0 : HI X M0) (a0 : Int) (ha0 : (-2147483648) ≤ a0 ∧ a0 ≤ 2147483647) (a1 : Int) (ha1 : (-2147483648) ≤ a1 ∧ a1 ≤ 2147483647) : JOk shp PJ 5 148 [.inr (.inr (.inl 173)), .inl a0, .inl a1] M0 (jRi (fun v M' => HI X M' ∧ Fr md_X12_plan_173 M0 M' ∧ (-1) ≤ v ∧ v ≤ 99 )) := by
 refine ⟨jr_X12_plan, pj_X12_plan, fun F c1 c2 c3 => ?_⟩
 have hm := pj_X12_plan
 change F 0 [some (.inr (.inr (.inl 173))), some (.inl a0), some (.inl a1), none, none, none, none, none] [] M0
 have hF0 : Fr md_X12_plan_173 M0 M0 := Fr.rf _ _
 refine jx_load c1 hm rfl rfl rfl rfl ?_
 refine jy_ic c1 hm rfl (by decide) ?_
 obtain ⟨M1, e1, hH1, hF1, k1, n1, q1⟩ := mup hH0 hF0 (c := 173) (i := 0) (v := 0) (A := (-2147483648)) (B := 2147483647) (bs_28_0 _ _ (by omega) (by omega)) ⟨by omega, by omega⟩ (jin_of 0 rfl ⟨by omega, by omega⟩)
 refine jm_puti c1 hm rfl sh_173 rfl e1 ?_
 refine jx_load c1 hm rfl rfl rfl rfl ?_
 refine jx_load c1 hm rfl rfl rfl rfl ?_
 refine jv_i c3 hm rfl pj_X12_isMan rfl rfl ⟨_, _, _, rfl, sh_173⟩ rfl ((ct_X12_isMan_173 X (by omega) M1 hH1 a0 ⟨by omega, by omega⟩).le (by decide)) (fun z2 _ ⟨rfl, lz2, uz2, p3⟩ => ?_)
 refine jz_eq c1 hm 24 rfl rfl (fun h4 => ?_) (fun h4 => ?_)
 ·
  refine jy_ic c1 hm rfl (by decide) ?_
  exact jx_reti c2 hm rfl rfl ⟨_, rfl, hH1, hF1, by omega, by omega⟩
 refine jx_load c1 hm rfl rfl rfl rfl ?_
 refine jy_ic c1 hm rfl (by decide) ?_
 refine jy_sp c1 hm rfl (by decide) ?_
 refine jt_i c3 hm rfl rfl pj_X12_isIn rfl rfl rfl ((ct_X12_isIn X (by omega) M1 hH1 a1 ⟨by omega, by omega⟩ 0 ⟨by omega, by omega⟩ 200 ⟨by omega, by omega⟩).le (by decide)) (fun z5 _ ⟨rfl, lz5, uz5, p6⟩ => ?_)
 refine jz_ne c1 hm 26 rfl rfl (fun h7 => ?_) (fun h7 => ?_)
 ·
  refine jx_load c1 hm rfl rfl rfl rfl ?_
  refine jx_getr c1 hm rfl sh_173 rfl ?_
  refine jy_ic c1 hm rfl (by decide) ?_
  obtain ⟨z8, k9, lz8, uz8⟩ := hH1.ld (c := 175) (i := 1) (A := 0) (B := 6) (bs_11_0 _ _ (by omega) (by omega))
  refine jx_iald c1 hm rfl sh_175 ⟨by omega, by omega⟩ k9 ?_
  refine jx_stor c1 hm (L' := [some (.inr (.inr (.inl 173))), some (.inl a0), some (.inl a1), some (.inl z8), none, none, none, none]) rfl rfl rfl rfl rfl ?_
  refine jy_ic c1 hm rfl (by decide) ?_
  refine jx_stor c1 hm (L' := [some (.inr (.inr (.inl 173))), some (.inl a0), some (.inl a1), some (.inl z8), some (.inl 0), none, none, none]) rfl rfl rfl rfl rfl ?_
  have W14 : ∀ (n15 : Nat) (b10 : Int) (hb10 : 0 ≤ b10 ∧ b10 ≤ 100) (M11 : JM) (hH11 : HI (X) M11) (hF11 : Fr md_X12_plan_173 M0 M11) (k12 : M11.1 173 0 = 0) (k13 : M11.1 175 1 = z8), (-b10 + 100) < (n15 : Int) → F 36 [some (.inr (.inr (.inl 173))), some (.inl a0), some (.inl a1), some (.inl z8), some (.inl b10), none, none, none] [] M11 := by
   intro n15
   induction n15 with
   | zero => intros; omega
   | succ n15 ihW14 =>
    intro b10 hb10 M11 hH11 hF11 k12 k13 hrW14
    refine jx_load c1 hm rfl rfl rfl rfl ?_
    refine jy_bp c1 hm rfl (by decide) ?_
    refine jc_ge c1 hm 73 rfl rfl (fun h16 => ?_) (fun h16 => ?_)
    ·
     refine jx_load c1 hm rfl rfl rfl rfl ?_
     refine jy_ic c1 hm rfl (by decide) ?_
     refine jy_sub c1 hm (z8 - 1) rfl (by omega) ?_
     refine jx_stor c1 hm (L' := [some (.inr (.inr (.inl 173))), some (.inl a0), some (.inl a1), some (.inl z8), some (.inl (z8 - 1)), none, none, none]) rfl rfl rfl rfl rfl ?_
     have W27 : ∀ (n28 : Nat) (b21 : Int) (hb21 : (-1) ≤ b21 ∧ b21 ≤ 5) (o22 : Option JV) (ho22 : o22 = none ∨ (∃ z, o22 = some (.inl z)) ∨ ∃ r, o22 = some (.inr (.inr r))) (M23 : JM) (hH23 : HI (X) M23) (hF23 : Fr md_X12_plan_173 M0 M23) (k24 : M23.1 173 0 = 0) (k25 : M23.1 175 1 = z8) (hTB : PTB (pbv M0 a0) M23 z8 (M0.1 175 (a0 + 102).toNat) (b21 + 1)), (b21 + 1) < (n28 : Int) → F 78 [some (.inr (.inr (.inl 173))), some (.inl a0), some (.inl a1), some (.inl z8), some (.inl b21), o22, none, none] [] M23 := by
      intro n28
      induction n28 with
      | zero => intros; omega
      | succ n28 ihW27 =>
       intro b21 hb21 o22 ho22 M23 hH23 hF23 k24 k25 hTB hrW27
       refine jx_load c1 hm rfl rfl rfl rfl ?_
       skip
       refine jz_lt c1 hm 140 rfl rfl (fun h29 => ?_) (fun h29 => ?_)
       ·
        refine jx_load c1 hm rfl rfl rfl rfl ?_
        refine jx_stor c1 hm (L' := [some (.inr (.inr (.inl 173))), some (.inl a0), some (.inl a1), some (.inl z8), some (.inl a1), o22, none, none]) rfl rfl rfl rfl rfl ?_
        have W50 : ∀ (n51 : Nat) (b49 : Int) (hb49 : 0 ≤ b49 ∧ b49 ≤ 200), (-b49 + 200) < (n51 : Int) → F 143 [some (.inr (.inr (.inl 173))), some (.inl a0), some (.inl a1), some (.inl z8), some (.inl b49), o22, none, none] [] M23 := by
         intro n51
         induction n51 with
         | zero => intros; omega
         | succ n51 ihW50 =>
          intro b49 hb49 hrW50
          refine jx_load c1 hm rfl rfl rfl rfl ?_
          refine jx_load c1 hm rfl rfl rfl rfl ?_
          refine jx_getr c1 hm rfl sh_173 rfl ?_
          refine jy_bp c1 hm rfl (by decide) ?_
          refine jx_load c1 hm rfl rfl rfl rfl ?_
          refine jy_add c1 hm (a0 + 102) rfl (by omega) ?_
          obtain ⟨z52, k53, lz52, uz52⟩ := hH23.ld (c := 175) (i := ((a0 + 102)).toNat) (A := (-20) * X) (B := 99) (bs_11_8 _ _ (by omega) (by omega))
          refine jx_iald c1 hm rfl sh_175 ⟨by omega, by omega⟩ k53 ?_
          have hPz52 : z52 = M0.1 175 (a0 + 102).toNat := k53.symm.trans (hF23 175 _ rfl)
          have J59 : ∀ (hor : (M0.1 175 (a0 + 102).toNat) < b49 ∨ M23.1 186 (b49).toNat < 100000), F 176 [some (.inr (.inr (.inl 173))), some (.inl a0), some (.inl a1), some (.inl z8), some (.inl b49), o22, none, none] [] M23 := by
           intro hor
           refine jx_load c1 hm rfl rfl rfl rfl ?_
           refine jx_load c1 hm rfl rfl rfl rfl ?_
           refine jx_getr c1 hm rfl sh_173 rfl ?_
           refine jy_bp c1 hm rfl (by decide) ?_
           refine jx_load c1 hm rfl rfl rfl rfl ?_
           refine jy_add c1 hm (a0 + 102) rfl (by omega) ?_
           obtain ⟨z60, k61, lz60, uz60⟩ := hH23.ld (c := 175) (i := ((a0 + 102)).toNat) (A := (-20) * X) (B := 99) (bs_11_8 _ _ (by omega) (by omega))
           refine jx_iald c1 hm rfl sh_175 ⟨by omega, by omega⟩ k61 ?_
           have hPz60 : z60 = M0.1 175 (a0 + 102).toNat := k61.symm.trans (hF23 175 _ rfl)
           refine jc_le c1 hm 192 rfl rfl (fun h62 => ?_) (fun h62 => ?_)
           ·
            refine jx_load c1 hm rfl rfl rfl rfl ?_
            refine jx_stor c1 hm (L' := [some (.inr (.inr (.inl 173))), some (.inl a0), some (.inl a1), some (.inl z8), some (.inl b49), some (.inl b49), none, none]) rfl rfl rfl rfl rfl ?_
            refine jy_ic c1 hm rfl (by decide) ?_
            refine jx_stor c1 hm (L' := [some (.inr (.inr (.inl 173))), some (.inl a0), some (.inl a1), some (.inl z8), some (.inl b49), some (.inl b49), some (.inl 0), none]) rfl rfl rfl rfl rfl ?_
            have W70 : ∀ (n71 : Nat) (b63 : Int) (hb63 : 0 ≤ b63 ∧ b63 ≤ 6) (M64 : JM) (hH64 : HI (X) M64) (hF64 : Fr md_X12_plan_173 M0 M64) (k65 : M64.1 173 0 = 0) (k66 : M64.1 175 1 = z8) (hTB : PTB (pbv M0 a0) M64 z8 (M0.1 175 (a0 + 102).toNat) 0) (hlt : M64.1 186 (b49).toNat < 100000) (h69 : 0 ≤ b49 ∧ b49 ≤ (M0.1 175 (a0 + 102).toNat)), (-b63 + 6) < (n71 : Int) → F 199 [some (.inr (.inr (.inl 173))), some (.inl a0), some (.inl a1), some (.inl z8), some (.inl b49), some (.inl b49), some (.inl b63), none] [] M64 := by
             intro n71
             induction n71 with
             | zero => intros; omega
             | succ n71 ihW70 =>
              intro b63 hb63 M64 hH64 hF64 k65 k66 hTB hlt h69 hrW70
              refine jx_load c1 hm rfl rfl rfl rfl ?_
              refine jy_bp c1 hm rfl (by decide) ?_
              refine jc_ge c1 hm 220 rfl rfl (fun h72 => ?_) (fun h72 => ?_)
              ·
               refine jy_ic c1 hm rfl (by decide) ?_
               refine jx_stor c1 hm (L' := [some (.inr (.inr (.inl 173))), some (.inl a0), some (.inl a1), some (.inl z8), some (.inl b49), some (.inl b49), some (.inl 0), none]) rfl rfl rfl rfl rfl ?_
               have W84 : ∀ (n85 : Nat) (b74 : Int) (hb74 : (-2147483648) ≤ b74 ∧ b74 ≤ 99) (b75 : Int) (hb75 : 0 ≤ b75 ∧ b75 ≤ 6) (o76 : Option JV) (ho76 : o76 = none ∨ (∃ z, o76 = some (.inl z)) ∨ ∃ r, o76 = some (.inr (.inr r))) (M77 : JM) (hH77 : HI (X) M77) (hF77 : Fr md_X12_plan_173 M0 M77) (k78 : M77.1 173 0 = 0) (k79 : M77.1 175 1 = z8) (hTB : PTB (pbv M0 a0) M77 z8 (M0.1 175 (a0 + 102).toNat) 0) (hlt : b75 < z8 → M77.1 186 (100 * b75 + b74).toNat < 100000) (h82 : 0 ≤ b74 ∧ b74 ≤ (M0.1 175 (a0 + 102).toNat)) (h83 : 0 ≤ b75), (-b75 + 6) < (n85 : Int) → F 223 [some (.inr (.inr (.inl 173))), some (.inl a0), some (.inl a1), some (.inl z8), some (.inl b49), some (.inl b74), some (.inl b75), o76] [] M77 := by
                intro n85
                induction n85 with
                | zero => intros; omega
                | succ n85 ihW84 =>
                 intro b74 hb74 b75 hb75 o76 ho76 M77 hH77 hF77 k78 k79 hTB hlt h82 h83 hrW84
                 refine jx_load c1 hm rfl rfl rfl rfl ?_
                 refine jx_load c1 hm rfl rfl rfl rfl ?_
                 refine jc_ge c1 hm 325 rfl rfl (fun h86 => ?_) (fun h86 => ?_)
                 ·
                  refine jx_load c1 hm rfl rfl rfl rfl ?_
                  refine jx_load c1 hm rfl rfl rfl rfl ?_
                  obtain ⟨M105, e105, hH105, hF105, k105, n105, q105⟩ := mup hH77 hF77 (c := 173) (i := 31) (v := z8) (A := 0) (B := 6) (bs_28_13 _ _ (by omega) (by omega)) ⟨by omega, by omega⟩ (jin_of 1 rfl ⟨by omega, by omega⟩)
                  refine jm_puti c1 hm rfl sh_173 rfl e105 ?_
                  refine jx_load c1 hm rfl rfl rfl rfl ?_
                  refine jy_ic c1 hm rfl (by decide) ?_
                  obtain ⟨M106, e106, hH106, hF106, k106, n106, q106⟩ := mup hH105 hF105 (c := 173) (i := 32) (v := 1) (A := 0) (B := 1) (bs_28_14 _ _ (by omega) (by omega)) ⟨by omega, by omega⟩ (jin_of 2 rfl ⟨by omega, by omega⟩)
                  refine jm_putz c1 hm rfl sh_173 rfl ⟨by omega, by omega⟩ e106 ?_
                  refine jx_load c1 hm rfl rfl rfl rfl ?_
                  exact jx_reti c2 hm rfl rfl ⟨_, rfl, hH106, hF106, by omega, by omega⟩
                 refine jy_ic c1 hm rfl (by decide) ?_
                 refine jx_stor c1 hm (L' := [some (.inr (.inr (.inl 173))), some (.inl a0), some (.inl a1), some (.inl z8), some (.inl b49), some (.inl b74), some (.inl b75), some (.inl 0)]) rfl rfl rfl rfl rfl ?_
                 obtain ⟨ks, y1, y2, y3, y4, y5⟩ := (hTB b75 b74 (by omega) (by omega) (by omega) (by omega)).resolve_left (by have := hlt (by omega); omega)
                 have W89 : ∀ (n90 : Nat) (b87 : Int) (hb87 : 0 ≤ b87 ∧ b87 ≤ 101) (h88 : b87 ≤ ks ∧ 0 ≤ b87), ks - b87 < (n90 : Int) → F 232 [some (.inr (.inr (.inl 173))), some (.inl a0), some (.inl a1), some (.inl z8), some (.inl b49), some (.inl b74), some (.inl b75), some (.inl b87)] [] M77 := by
                  intro n90
                  induction n90 with
                  | zero => intros; omega
                  | succ n90 ihW89 =>
                   intro b87 hb87 h88 hrW89
                   refine jx_load c1 hm rfl rfl rfl rfl ?_
                   refine jx_load c1 hm rfl rfl rfl rfl ?_
                   refine jx_load c1 hm rfl rfl rfl rfl ?_
                   refine jx_load c1 hm rfl rfl rfl rfl ?_
                   have t91 : 0 ≤ b87 ∧ b87 ≤ 100 := by omega
                   refine jv_i c3 hm rfl pj_X12_paysBy rfl rfl ⟨_, _, _, rfl, sh_173⟩ rfl ((ct_X12_paysBy_173 X (by omega) M77 hH77 a0 ⟨by omega, by omega⟩ b75 ⟨by omega, by omega⟩ b87 ⟨by omega, by omega⟩).le (by decide)) (fun z92 _ ⟨rfl, lz92, uz92, p93⟩ => ?_)
                   have hk1 : b87 = ks → z92 = pbv M0 a0 b75 ks.toNat := fun e => by rw [p93, e]; exact pbv_cg (fun j => hF77 175 j rfl) _ _ _
                   refine jx_load c1 hm rfl rfl rfl rfl ?_
                   refine jc_gt c1 hm 290 rfl rfl (fun h94 => ?_) (fun h94 => ?_)
                   ·
                    refine jx_iinc c1 hm (v := (b87 + 1)) (L' := [some (.inr (.inr (.inl 173))), some (.inl a0), some (.inl a1), some (.inl z8), some (.inl b49), some (.inl b74), some (.inl b75), some (.inl (b87 + 1))]) rfl rfl (by omega) (by omega) rfl ?_
                    refine jx_goto c1 hm 232 rfl rfl ?_
                    exact ihW89 (b87 + 1) (by omega) (by omega) (by omega)
                   refine jx_load c1 hm rfl rfl rfl rfl ?_
                   refine jx_load c1 hm rfl rfl rfl rfl ?_
                   refine jx_getr c1 hm rfl sh_173 rfl ?_
                   refine jy_bp c1 hm rfl (by decide) ?_
                   refine jx_load c1 hm rfl rfl rfl rfl ?_
                   refine jy_ic c1 hm rfl (by decide) ?_
                   refine jy_add c1 hm (b75 + 1) rfl (by omega) ?_
                   refine jy_mul c1 hm (100 * b75 + 100) rfl (by omega) ?_
                   refine jx_load c1 hm rfl rfl rfl rfl ?_
                   refine jy_add c1 hm (b74 + 100 * b75 + 100) rfl (by omega) ?_
                   refine jx_load c1 hm rfl rfl rfl rfl ?_
                   refine jx_load c1 hm rfl rfl rfl rfl ?_
                   refine jx_load c1 hm rfl rfl rfl rfl ?_
                   refine jx_load c1 hm rfl rfl rfl rfl ?_
                   refine jv_i c3 hm rfl pj_X12_paysBy rfl rfl ⟨_, _, _, rfl, sh_173⟩ rfl ((ct_X12_paysBy_173 X (by omega) M77 hH77 a0 ⟨by omega, by omega⟩ b75 ⟨by omega, by omega⟩ b87 ⟨by omega, by omega⟩).le (by decide)) (fun z95 _ ⟨rfl, lz95, uz95, p96⟩ => ?_)
                   obtain rfl : z92 = z95 := by omega
                   refine jy_sub c1 hm (b74 + 100 * b75 - z92 + 100) rfl (by omega) ?_
                   obtain ⟨z97, k98, lz97, uz97⟩ := hH77.ld (c := 186) (i := ((b74 + 100 * b75 - z92 + 100)).toNat) (A := 0) (B := 100000) rfl
                   refine jx_iald c1 hm rfl sh_186 ⟨by omega, by omega⟩ k98 ?_
                   refine jy_add c1 hm (b87 + z97) rfl (by omega) ?_
                   refine jx_load c1 hm rfl rfl rfl rfl ?_
                   refine jx_getr c1 hm rfl sh_173 rfl ?_
                   refine jy_bp c1 hm rfl (by decide) ?_
                   refine jx_load c1 hm rfl rfl rfl rfl ?_
                   refine jy_mul c1 hm (100 * b75) rfl (by omega) ?_
                   refine jx_load c1 hm rfl rfl rfl rfl ?_
                   refine jy_add c1 hm (b74 + 100 * b75) rfl (by omega) ?_
                   obtain ⟨z99, k100, lz99, uz99⟩ := hH77.ld (c := 186) (i := ((b74 + 100 * b75)).toNat) (A := 0) (B := 100000) rfl
                   refine jx_iald c1 hm rfl sh_186 ⟨by omega, by omega⟩ k100 ?_
                   have hk2 : b87 = ks → b87 + z97 = z99 := fun e => by have e1 := hk1 e; have y := y5; rw [← e1, show (100 * b75 + 100 + b74 - z92).toNat = ((b74 + 100 * b75 - z92 + 100)).toNat by omega, k98, show (100 * b75 + b74).toNat = ((b74 + 100 * b75)).toNat by omega, k100] at y; omega
                   refine jc_eq c1 hm 296 rfl rfl (fun h101 => ?_) (fun h101 => ?_)
                   ·
                    refine jx_load c1 hm rfl rfl rfl rfl ?_
                    refine jx_getr c1 hm rfl sh_173 rfl ?_
                    refine jx_load c1 hm rfl rfl rfl rfl ?_
                    refine jx_load c1 hm rfl rfl rfl rfl ?_
                    obtain ⟨M102, e102, hH102, hF102, k102, n102, q102⟩ := mup hH77 hF77 (c := 187) (i := (b75).toNat) (v := b87) (A := (-2147483648)) (B := 2147483647) rfl ⟨by omega, by omega⟩ (jin_of 4 rfl ⟨by omega, by omega⟩)
                    refine jm_iast c1 hm rfl sh_187 ⟨by omega, by omega⟩ e102 ?_
                    refine jx_load c1 hm rfl rfl rfl rfl ?_
                    refine jx_load c1 hm rfl rfl rfl rfl ?_
                    refine jx_load c1 hm rfl rfl rfl rfl ?_
                    refine jx_load c1 hm rfl rfl rfl rfl ?_
                    refine jx_load c1 hm rfl rfl rfl rfl ?_
                    refine jv_i c3 hm rfl pj_X12_paysBy rfl rfl ⟨_, _, _, rfl, sh_173⟩ rfl ((ct_X12_paysBy_173 X (by omega) M102 hH102 a0 ⟨by omega, by omega⟩ b75 ⟨by omega, by omega⟩ b87 ⟨by omega, by omega⟩).le (by decide)) (fun z103 _ ⟨rfl, lz103, uz103, p104⟩ => ?_)
                    have hz313 : z103 = z92 := by rw [p104, p93]; exact pbv_cg (fun j => n102 175 j (fun h => absurd h.1 (by decide))) _ _ _
                    refine jy_sub c1 hm (b74 - z103) rfl (by omega) ?_
                    refine jx_stor c1 hm (L' := [some (.inr (.inr (.inl 173))), some (.inl a0), some (.inl a1), some (.inl z8), some (.inl b49), some (.inl (b74 - z103)), some (.inl b75), some (.inl b87)]) rfl rfl rfl rfl rfl ?_
                    refine jx_iinc c1 hm (v := (b75 + 1)) (L' := [some (.inr (.inr (.inl 173))), some (.inl a0), some (.inl a1), some (.inl z8), some (.inl b49), some (.inl (b74 - z103)), some (.inl (b75 + 1)), some (.inl b87)]) rfl rfl (by omega) (by omega) rfl ?_
                    refine jx_goto c1 hm 223 rfl rfl ?_
                    have k107 : M102.1 173 0 = 0 := (n102 173 0 (fun h => absurd h.1 (by decide))).trans k78
                    have k108 : M102.1 175 1 = z8 := (n102 175 1 (fun h => absurd h.1 (by decide))).trans k79
                    exact ihW84 (b74 - z103) (by omega) (b75 + 1) (by omega) (some (.inl b87)) (Or.inr (Or.inl ⟨_, rfl⟩)) M102 hH102 hF102 k107 k108 (TB_cg hTB (by omega) (fun j => (n102 186 _ (fun h => absurd h.1 (by decide))))) (fun _ => by rw [show (100 * (b75 + 1) + (b74 - z103)).toNat = ((b74 + 100 * b75 - z92 + 100)).toNat by omega, n102 186 _ (fun h => absurd h.1 (by decide)), k98]; have y := hlt (by omega); rw [show (100 * b75 + b74).toNat = ((b74 + 100 * b75)).toNat by omega, k100] at y; omega) (by omega) (by omega) (by omega)
                   refine jx_iinc c1 hm (v := (b87 + 1)) (L' := [some (.inr (.inr (.inl 173))), some (.inl a0), some (.inl a1), some (.inl z8), some (.inl b49), some (.inl b74), some (.inl b75), some (.inl (b87 + 1))]) rfl rfl (by omega) (by omega) rfl ?_
                   refine jx_goto c1 hm 232 rfl rfl ?_
                   exact ihW89 (b87 + 1) (by omega) (by omega) (by omega)
                 exact W89 (ks - 0 + 1 : Int).toNat 0 (by omega) (by omega) (by omega)
               exact W84 (6 + 1 : Int).toNat b49 (by omega) 0 (by omega) none (Or.inl rfl) M64 hH64 hF64 k65 k66 hTB (fun _ => by rw [show (100 * 0 + b49).toNat = (b49).toNat by omega]; exact hlt) (by omega) (by omega) (by omega)
              refine jx_load c1 hm rfl rfl rfl rfl ?_
              refine jx_getr c1 hm rfl sh_173 rfl ?_
              refine jx_load c1 hm rfl rfl rfl rfl ?_
              refine jy_ic c1 hm rfl (by decide) ?_
              obtain ⟨M73, e73, hH73, hF73, k73, n73, q73⟩ := mup hH64 hF64 (c := 187) (i := (b63).toNat) (v := 0) (A := (-2147483648)) (B := 2147483647) rfl ⟨by omega, by omega⟩ (jin_of 4 rfl ⟨by omega, by omega⟩)
              refine jm_iast c1 hm rfl sh_187 ⟨by omega, by omega⟩ e73 ?_
              refine jx_iinc c1 hm (v := (b63 + 1)) (L' := [some (.inr (.inr (.inl 173))), some (.inl a0), some (.inl a1), some (.inl z8), some (.inl b49), some (.inl b49), some (.inl (b63 + 1)), none]) rfl rfl (by omega) (by omega) rfl ?_
              refine jx_goto c1 hm 199 rfl rfl ?_
              have k109 : M73.1 173 0 = 0 := (n73 173 0 (fun h => absurd h.1 (by decide))).trans k65
              have k110 : M73.1 175 1 = z8 := (n73 175 1 (fun h => absurd h.1 (by decide))).trans k66
              exact ihW70 (b63 + 1) (by omega) M73 hH73 hF73 k109 k110 (TB_cg hTB (by omega) (fun j => (n73 186 _ (fun h => absurd h.1 (by decide))))) (by rw [(n73 186 _ (fun h => absurd h.1 (by decide)))]; exact hlt) (by omega) (by omega)
            exact W70 (6 + 1 : Int).toNat 0 (by omega) M23 hH23 hF23 k24 k25 (TB_cg (TB_le hTB (by omega)) (by omega) (fun j => rfl)) (hor.resolve_left (by omega)) (by omega) (by omega)
           refine jy_ic c1 hm rfl (by decide) ?_
           exact jx_reti c2 hm rfl rfl ⟨_, rfl, hH23, hF23, by omega, by omega⟩
          refine jc_gt c1 hm 176 rfl rfl (fun h54 => ?_) (fun h54 => ?_)
          ·
           exact J59 (by first | exact Or.inl (by omega) | exact Or.inr (by rw [k56]; omega))
          refine jx_load c1 hm rfl rfl rfl rfl ?_
          refine jx_getr c1 hm rfl sh_173 rfl ?_
          refine jx_load c1 hm rfl rfl rfl rfl ?_
          obtain ⟨z55, k56, lz55, uz55⟩ := hH23.ld (c := 186) (i := (b49).toNat) (A := 0) (B := 100000) rfl
          refine jx_iald c1 hm rfl sh_186 ⟨by omega, by omega⟩ k56 ?_
          refine jx_ldcw c1 hm (v := 100000) rfl rfl (by decide) ?_
          refine jc_lt c1 hm 176 rfl rfl (fun h57 => ?_) (fun h57 => ?_)
          ·
           exact J59 (by first | exact Or.inl (by omega) | exact Or.inr (by rw [k56]; omega))
          refine jx_iinc c1 hm (v := (b49 + 1)) (L' := [some (.inr (.inr (.inl 173))), some (.inl a0), some (.inl a1), some (.inl z8), some (.inl (b49 + 1)), o22, none, none]) rfl rfl (by omega) (by omega) rfl ?_
          refine jx_goto c1 hm 143 rfl rfl ?_
          exact ihW50 (b49 + 1) (by omega) (by omega)
        exact W50 ((-a1 + 200) + 1 : Int).toNat a1 (by omega) (by omega)
       refine jy_ic c1 hm rfl (by decide) ?_
       refine jx_stor c1 hm (L' := [some (.inr (.inr (.inl 173))), some (.inl a0), some (.inl a1), some (.inl z8), some (.inl b21), some (.inl 0), none, none]) rfl rfl rfl rfl rfl ?_
       have W36 : ∀ (n37 : Nat) (b30 : Int) (hb30 : 0 ≤ b30 ∧ b30 ≤ 100) (M31 : JM) (hH31 : HI (X) M31) (hF31 : Fr md_X12_plan_173 M0 M31) (k32 : M31.1 173 0 = 0) (k33 : M31.1 175 1 = z8) (hTB : PTB (pbv M0 a0) M31 z8 (M0.1 175 (a0 + 102).toNat) (b21 + 1)) (hPR : PRW (pbv M0 a0 b21) M31 b21 b30), (-b30 + 100) < (n37 : Int) → F 86 [some (.inr (.inr (.inl 173))), some (.inl a0), some (.inl a1), some (.inl z8), some (.inl b21), some (.inl b30), none, none] [] M31 := by
        intro n37
        induction n37 with
        | zero => intros; omega
        | succ n37 ihW36 =>
         intro b30 hb30 M31 hH31 hF31 k32 k33 hTB hPR hrW36
         refine jx_load c1 hm rfl rfl rfl rfl ?_
         refine jx_load c1 hm rfl rfl rfl rfl ?_
         refine jx_getr c1 hm rfl sh_173 rfl ?_
         refine jy_bp c1 hm rfl (by decide) ?_
         refine jx_load c1 hm rfl rfl rfl rfl ?_
         refine jy_add c1 hm (a0 + 102) rfl (by omega) ?_
         obtain ⟨z38, k39, lz38, uz38⟩ := hH31.ld (c := 175) (i := ((a0 + 102)).toNat) (A := (-20) * X) (B := 99) (bs_11_8 _ _ (by omega) (by omega))
         refine jx_iald c1 hm rfl sh_175 ⟨by omega, by omega⟩ k39 ?_
         have hPz38 : z38 = M0.1 175 (a0 + 102).toNat := k39.symm.trans (hF31 175 _ rfl)
         refine jc_gt c1 hm 134 rfl rfl (fun h40 => ?_) (fun h40 => ?_)
         ·
          refine jx_iinc c1 hm (v := (b21 - 1)) (L' := [some (.inr (.inr (.inl 173))), some (.inl a0), some (.inl a1), some (.inl z8), some (.inl (b21 - 1)), some (.inl b30), none, none]) rfl rfl (by omega) (by omega) rfl ?_
          refine jx_goto c1 hm 78 rfl rfl ?_
          exact ihW27 (b21 - 1) (by omega) (some (.inl b30)) (Or.inr (Or.inl ⟨_, rfl⟩)) M31 hH31 hF31 k32 k33 (by rw [show (b21 - 1) + 1 = b21 by omega]; exact TB_row hTB hPR (by omega)) (by omega)
         refine jx_load c1 hm rfl rfl rfl rfl ?_
         refine jx_getr c1 hm rfl sh_173 rfl ?_
         refine jy_bp c1 hm rfl (by decide) ?_
         refine jx_load c1 hm rfl rfl rfl rfl ?_
         refine jy_mul c1 hm (100 * b21) rfl (by omega) ?_
         refine jx_load c1 hm rfl rfl rfl rfl ?_
         refine jy_add c1 hm (100 * b21 + b30) rfl (by omega) ?_
         refine jx_ldcw c1 hm (v := 100000) rfl rfl (by decide) ?_
         refine jx_load c1 hm rfl rfl rfl rfl ?_
         refine jx_load c1 hm rfl rfl rfl rfl ?_
         refine jx_load c1 hm rfl rfl rfl rfl ?_
         refine jx_load c1 hm rfl rfl rfl rfl ?_
         refine jv_i c3 hm rfl pj_X12_oftenBy rfl rfl ⟨_, _, _, rfl, sh_173⟩ rfl ((ct_X12_oftenBy_173 X (by omega) M31 hH31 a0 ⟨by omega, by omega⟩ b21 ⟨by omega, by omega⟩ b30 ⟨by omega, by omega⟩).le (by decide)) (fun z41 _ ⟨rfl, lz41, uz41, p42⟩ => ?_)
         refine jt_i c3 hm rfl rfl pj_X12_least rfl rfl rfl ((ct_X12_least X (by omega) M31 hH31 100000 ⟨by omega, by omega⟩ z41 ⟨by omega, by omega⟩).le (by decide)) (fun z43 _ ⟨rfl, lz43, uz43, p44, p45⟩ => ?_)
         obtain ⟨M46, e46, hH46, hF46, k46, n46, q46⟩ := mup hH31 hF31 (c := 186) (i := ((100 * b21 + b30)).toNat) (v := z43) (A := 0) (B := 100000) rfl ⟨by omega, by omega⟩ (jin_of 3 rfl ⟨by omega, by omega⟩)
         refine jm_iast c1 hm rfl sh_186 ⟨by omega, by omega⟩ e46 ?_
         refine jx_iinc c1 hm (v := (b30 + 1)) (L' := [some (.inr (.inr (.inl 173))), some (.inl a0), some (.inl a1), some (.inl z8), some (.inl b21), some (.inl (b30 + 1)), none, none]) rfl rfl (by omega) (by omega) rfl ?_
         refine jx_goto c1 hm 86 rfl rfl ?_
         have k47 : M46.1 173 0 = 0 := (n46 173 0 (fun h => absurd h.1 (by decide))).trans k32
         have k48 : M46.1 175 1 = z8 := (n46 175 1 (fun h => absurd h.1 (by decide))).trans k33
         exact ihW36 (b30 + 1) (by omega) M46 hH46 hF46 k47 k48 (TB_keep hTB (by omega) (fun j hj => n46 186 j (by omega))) (PRW_s hPR (by omega) (Or.elim p45 (fun e => Or.inl e) (fun e => by rw [e]; exact Or.imp id (fun y => y.cg (by omega) (fun k => (pbv_cg (fun j => hF31 175 j rfl) _ _ k).symm) (fun _ _ => rfl)) p42)) (by rw [show (100 * b21 + b30).toNat = ((100 * b21 + b30)).toNat by omega]; exact k46) (fun j hj => n46 186 j (by omega))) (by omega)
       exact W36 (100 + 1 : Int).toNat 0 (by omega) M23 hH23 hF23 k24 k25 hTB (fun s h1 h2 => by omega) (by omega)
     exact W27 (z8 + 1 : Int).toNat (z8 - 1) (by omega) none (Or.inl rfl) M11 hH11 hF11 k12 k13 (fun f s h1 h2 => by omega) (by omega)
    refine jx_load c1 hm rfl rfl rfl rfl ?_
    refine jx_getr c1 hm rfl sh_173 rfl ?_
    refine jy_bp c1 hm rfl (by decide) ?_
    refine jx_load c1 hm rfl rfl rfl rfl ?_
    refine jy_mul c1 hm (100 * z8) rfl (by omega) ?_
    refine jx_load c1 hm rfl rfl rfl rfl ?_
    refine jy_add c1 hm (b10 + 100 * z8) rfl (by omega) ?_
    refine jx_load c1 hm rfl rfl rfl rfl ?_
    have J19 : ∀ (b18 : Int) (hb18 : 0 ≤ b18 ∧ b18 ≤ 100000), F 66 [some (.inr (.inr (.inl 173))), some (.inl a0), some (.inl a1), some (.inl z8), some (.inl b10), none, none, none] [.inl b18, .inl (b10 + 100 * z8), .inr (.inr (.inl 186))] M11 := by
     intro b18 hb18
     obtain ⟨M20, e20, hH20, hF20, k20, n20, q20⟩ := mup hH11 hF11 (c := 186) (i := ((b10 + 100 * z8)).toNat) (v := b18) (A := 0) (B := 100000) rfl ⟨by omega, by omega⟩ (jin_of 3 rfl ⟨by omega, by omega⟩)
     refine jm_iast c1 hm rfl sh_186 ⟨by omega, by omega⟩ e20 ?_
     refine jx_iinc c1 hm (v := (b10 + 1)) (L' := [some (.inr (.inr (.inl 173))), some (.inl a0), some (.inl a1), some (.inl z8), some (.inl (b10 + 1)), none, none, none]) rfl rfl (by omega) (by omega) rfl ?_
     refine jx_goto c1 hm 36 rfl rfl ?_
     have k111 : M20.1 173 0 = 0 := (n20 173 0 (fun h => absurd h.1 (by decide))).trans k12
     have k112 : M20.1 175 1 = z8 := (n20 175 1 (fun h => absurd h.1 (by decide))).trans k13
     exact ihW14 (b10 + 1) (by omega) M20 hH20 hF20 k111 k112 (by omega)
    refine jz_ne c1 hm 63 rfl rfl (fun h17 => ?_) (fun h17 => ?_)
    ·
     refine jx_ldcw c1 hm (v := 100000) rfl rfl (by decide) ?_
     exact J19 100000 (by omega)
    refine jy_ic c1 hm rfl (by decide) ?_
    refine jx_goto c1 hm 66 rfl rfl ?_
    exact J19 0 (by omega)
  exact W14 (100 + 1 : Int).toNat 0 (by omega) M1 hH1 hF1 k1 k9 (by omega)
 refine jy_ic c1 hm rfl (by decide) ?_
 exact jx_reti c2 hm rfl rfl ⟨_, rfl, hH1, hF1, by omega, by omega⟩
