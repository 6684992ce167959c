/-! Contracts of the reference (by wip/q/wlk.py). -/
def md_X12_goesRound_173 : List (Nat × (Nat × Nat)) := [(184, (0, 5))]
def ST_X12_goesRound_173 (n : Nat) : Prop := ∀ (X : Int) (hX : 0 ≤ X ∧ X ≤ 100000000) (M0 : JM) (hH0 : HI X M0) (a0 : Int) (ha0 : 1 ≤ a0 ∧ a0 ≤ 6) (a1 : Int) (ha1 : 2 ≤ a1 ∧ a1 ≤ 6) (hp0 : a0 ≤ a1) (hp1 : PX M0 a0 (gof M0)) (hr : a1 - a0 < (n : Int)), JOk shp PJ (1 * n + 2) 109 [.inr (.inr (.inl 173)), .inl a0, .inl a1] M0 (jRi (fun v M' => HI X M' ∧ Fr md_X12_goesRound_173 M0 M' ∧ 0 ≤ v ∧ v ≤ 1 ∧ (∀ i : Nat, (i : Int) < a0 → M'.1 184 i = M0.1 184 i) ∧ (v = 1 ∨ NOR M0 a0 a1 (gof M0)) ∧ (v = 0 ∨ ∃ g, RG M0 a1 g)))
theorem ct_X12_goesRound_173 : ∀ n : Nat, ST_X12_goesRound_173 n := by
 intro n
 induction n with
 | zero =>
  unfold ST_X12_goesRound_173
  intros; omega
 | succ n ih =>
  unfold ST_X12_goesRound_173
  intro X hX M0 hH0 a0 ha0 a1 ha1 hp0 hp1 hr
  refine ⟨jr_X12_goesRound, pj_X12_goesRound, fun F c1 c2 c3 => ?_⟩
  have hm := pj_X12_goesRound
  change F 0 [some (.inr (.inr (.inl 173))), some (.inl a0), some (.inl a1), none, none, none] [] M0
  have hF0 : Fr md_X12_goesRound_173 M0 M0 := Fr.rf _ _
  obtain ⟨z1, k2, lz1, uz1⟩ := hH0.ld (c := 175) (i := 0) (A := 0) (B := 6) (bs_11_0 _ _ (by omega) (by omega))
  obtain ⟨z3, k4, lz3, uz3⟩ := hH0.ld (c := 184) (i := 0) (A := 0) (B := 5) rfl
  refine jx_load c1 hm rfl rfl rfl rfl ?_
  refine jx_load c1 hm rfl rfl rfl rfl ?_
  refine jc_ne c1 hm 32 rfl rfl (fun h5 => ?_) (fun h5 => ?_)
  ·
   refine jx_load c1 hm rfl rfl rfl rfl ?_
   refine jx_getr c1 hm rfl sh_173 rfl ?_
   refine jy_ic c1 hm rfl (by decide) ?_
   refine jx_iald c1 hm rfl sh_184 ⟨by omega, by omega⟩ k4 ?_
   refine jy_ic c1 hm rfl (by decide) ?_
   refine jy_add c1 hm (z3 + 1) rfl (by omega) ?_
   refine jx_stor c1 hm (L' := [some (.inr (.inr (.inl 173))), some (.inl a0), some (.inl a1), some (.inl (z3 + 1)), none, none]) rfl rfl rfl rfl rfl ?_
   have W14 : ∀ (n15 : Nat) (b6 : Int) (hb6 : 1 ≤ b6 ∧ b6 ≤ 6) (o7 : Option JV) (ho7 : o7 = none ∨ (∃ z, o7 = some (.inl z)) ∨ ∃ r, o7 = some (.inr (.inr r))) (o8 : Option JV) (ho8 : o8 = none ∨ (∃ z, o8 = some (.inl z)) ∨ ∃ r, o8 = some (.inr (.inr r))) (M9 : JM) (hH9 : HI (X) M9) (hF9 : Fr md_X12_goesRound_173 M0 M9) (k10 : M9.1 175 0 = z1) (hg1 : ∀ i : Nat, (i : Int) < a0 → M9.1 184 i = M0.1 184 i) (hg2 : AFT M0 a0 a1 (gof M0) b6) (h13 : M0.1 184 0 + 1 ≤ b6), (-b6 + 6) < (n15 : Int) → F 41 [some (.inr (.inr (.inl 173))), some (.inl a0), some (.inl a1), some (.inl b6), o7, o8] [] M9 := by
    intro n15
    induction n15 with
    | zero => intros; omega
    | succ n15 ihW14 =>
     intro b6 hb6 o7 ho7 o8 ho8 M9 hH9 hF9 k10 hg1 hg2 h13 hrW14
     refine jx_load c1 hm rfl rfl rfl rfl ?_
     refine jx_load c1 hm rfl rfl rfl rfl ?_
     refine jx_getr c1 hm rfl sh_173 rfl ?_
     refine jy_ic c1 hm rfl (by decide) ?_
     refine jx_iald c1 hm rfl sh_175 ⟨by omega, by omega⟩ k10 ?_
     refine jc_ge c1 hm 145 rfl rfl (fun h16 => ?_) (fun h16 => ?_)
     ·
      refine jy_ic c1 hm rfl (by decide) ?_
      exact jx_retz c2 hm rfl rfl ⟨by omega, by omega⟩ ⟨_, rfl, hH9, hF9, by omega, by omega, hg1, (Or.inr (af_end hg2 (by omega) (by omega))), (Or.inl rfl)⟩
     refine jx_load c1 hm rfl rfl rfl rfl ?_
     refine jx_load c1 hm rfl rfl rfl rfl ?_
     refine jx_getr c1 hm rfl sh_173 rfl ?_
     refine jx_load c1 hm rfl rfl rfl rfl ?_
     refine jy_ic c1 hm rfl (by decide) ?_
     refine jy_sub c1 hm (a0 - 1) rfl (by omega) ?_
     obtain ⟨z17, k18, lz17, uz17⟩ := hH9.ld (c := 184) (i := ((a0 - 1)).toNat) (A := 0) (B := 5) rfl
     refine jx_iald c1 hm rfl sh_184 ⟨by omega, by omega⟩ k18 ?_
     refine jx_load c1 hm rfl rfl rfl rfl ?_
     refine jv_i c3 hm rfl pj_X12_owesOf rfl rfl ⟨_, _, _, rfl, sh_173⟩ rfl ((ct_X12_owesOf_173 X (by omega) M9 hH9 z17 ⟨by omega, by omega⟩ b6 ⟨by omega, by omega⟩).le (by omega)) (fun z19 _ ⟨rfl, lz19, uz19, p20⟩ => ?_)
     refine jz_ne c1 hm 70 rfl rfl (fun h21 => ?_) (fun h21 => ?_)
     ·
      refine jy_ic c1 hm rfl (by decide) ?_
      refine jx_stor c1 hm (L' := [some (.inr (.inr (.inl 173))), some (.inl a0), some (.inl a1), some (.inl b6), some (.inl 0), o8]) rfl rfl rfl rfl rfl ?_
      refine jy_ic c1 hm rfl (by decide) ?_
      refine jx_stor c1 hm (L' := [some (.inr (.inr (.inl 173))), some (.inl a0), some (.inl a1), some (.inl b6), some (.inl 0), some (.inl 1)]) rfl rfl rfl rfl rfl ?_
      have W26 : ∀ (n27 : Nat) (b22 : Int) (hb22 : 0 ≤ b22 ∧ b22 ≤ 1) (b23 : Int) (hb23 : 1 ≤ b23 ∧ b23 ≤ 6) (hd1 : b22 = 0 ∨ HAD M9 a0 b6) (hd2 : b22 = 1 ∨ ∀ i : Nat, 1 ≤ i → (i : Int) < b23 → M9.1 184 i ≠ b6), (-b23 + 6) < (n27 : Int) → F 76 [some (.inr (.inr (.inl 173))), some (.inl a0), some (.inl a1), some (.inl b6), some (.inl b22), some (.inl b23)] [] M9 := by
       intro n27
       induction n27 with
       | zero => intros; omega
       | succ n27 ihW26 =>
        intro b22 hb22 b23 hb23 hd1 hd2 hrW26
        refine jx_load c1 hm rfl rfl rfl rfl ?_
        refine jx_load c1 hm rfl rfl rfl rfl ?_
        refine jc_ge c1 hm 111 rfl rfl (fun h28 => ?_) (fun h28 => ?_)
        ·
         refine jx_load c1 hm rfl rfl rfl rfl ?_
         refine jz_eq c1 hm 119 rfl rfl (fun h33 => ?_) (fun h33 => ?_)
         ·
          refine jx_load c1 hm rfl rfl rfl rfl ?_
          refine jx_getr c1 hm rfl sh_173 rfl ?_
          refine jx_load c1 hm rfl rfl rfl rfl ?_
          refine jx_load c1 hm rfl rfl rfl rfl ?_
          have t34 : 0 ≤ a0 ∧ a0 ≤ 5 := by omega
          obtain ⟨M35, e35, hH35, hF35, k35, n35, q35⟩ := mup hH9 hF9 (c := 184) (i := (a0).toNat) (v := b6) (A := 0) (B := 5) rfl ⟨by omega, by omega⟩ (jin_of 0 rfl ⟨by omega, by omega⟩)
          refine jm_iast c1 hm rfl sh_184 ⟨by omega, by omega⟩ e35 ?_
          refine jx_load c1 hm rfl rfl rfl rfl ?_
          refine jx_load c1 hm rfl rfl rfl rfl ?_
          refine jy_ic c1 hm rfl (by decide) ?_
          refine jy_add c1 hm (a0 + 1) rfl (by omega) ?_
          refine jx_load c1 hm rfl rfl rfl rfl ?_
          refine jv_i c3 hm rfl pj_X12_goesRound rfl rfl ⟨_, _, _, rfl, sh_173⟩ rfl ((ih X (by omega) M35 hH35 (a0 + 1) ⟨by omega, by omega⟩ a1 ⟨by omega, by omega⟩ (by omega) (px_s hp1 (by omega) (fun x => hF35 175 x rfl) (fun i hi => (n35 184 i (by omega)).trans (hg1 i hi)) k35 (by omega) k4 (by omega) (fun i x1 x2 => by have y := (hd2.resolve_left (by omega)) i x1 (by omega); rw [hg1 i x2] at y; exact y) ((hg1 _ (by omega)).symm.trans k18) (p20.trans (hF9 175 _ rfl)) (by omega)) (by omega)).le (by omega)) (fun z36 M40 ⟨hH40, hR40, lz36, uz36, p37, p38, p39⟩ => ?_)
          have hF40 := hF35.tr hR40 (by decide +kernel)
          refine jz_eq c1 hm 139 rfl rfl (fun h41 => ?_) (fun h41 => ?_)
          ·
           refine jx_iinc c1 hm (v := (b6 + 1)) (L' := [some (.inr (.inr (.inl 173))), some (.inl a0), some (.inl a1), some (.inl (b6 + 1)), some (.inl b22), some (.inl b23)]) rfl rfl (by omega) (by omega) rfl ?_
           refine jx_goto c1 hm 41 rfl rfl ?_
           have k42 : M40.1 175 0 = z1 := (hR40 175 0 (by decide +kernel)).trans ((n35 175 0 (fun h => absurd h.1 (by decide))).trans k10)
           exact ihW14 (b6 + 1) (by omega) (some (.inl b22)) (Or.inr (Or.inl ⟨_, rfl⟩)) (some (.inl b23)) (Or.inr (Or.inl ⟨_, rfl⟩)) M40 hH40 hF40 k42 (fun i hi => (p37 i (by omega)).trans ((n35 184 i (by omega)).trans (hg1 i hi))) (af_s2 (G' := gof M35) hg2 (by omega) (p38.resolve_left (by omega)) (fun x => hF35 175 x rfl) (fun i hi => (n35 184 i (by omega)).trans (hg1 i hi)) k35) (by omega) (by omega)
          refine jy_ic c1 hm rfl (by decide) ?_
          exact jx_retz c2 hm rfl rfl ⟨by omega, by omega⟩ ⟨_, rfl, hH40, hF40, by omega, by omega, (fun i hi => (p37 i (by omega)).trans ((n35 184 i (by omega)).trans (hg1 i hi))), (Or.inl rfl), (Or.inr (by obtain ⟨g, hg⟩ := p39.resolve_left (by omega); exact ⟨g, hg.cg (fun x => (hF35 175 x rfl).symm)⟩))⟩
         refine jx_goto c1 hm 139 rfl rfl ?_
         refine jx_iinc c1 hm (v := (b6 + 1)) (L' := [some (.inr (.inr (.inl 173))), some (.inl a0), some (.inl a1), some (.inl (b6 + 1)), some (.inl b22), some (.inl b23)]) rfl rfl (by omega) (by omega) rfl ?_
         refine jx_goto c1 hm 41 rfl rfl ?_
         exact ihW14 (b6 + 1) (by omega) (some (.inl b22)) (Or.inr (Or.inl ⟨_, rfl⟩)) (some (.inl b23)) (Or.inr (Or.inl ⟨_, rfl⟩)) M9 hH9 hF9 k10 hg1 (af_s1 hg2 (by omega) (by obtain ⟨i, x1, x2, x3⟩ := hd1.resolve_left (by omega); exact ⟨i, x1, x2, (hg1 i x2).symm.trans x3⟩)) (by omega) (by omega)
        refine jx_load c1 hm rfl rfl rfl rfl ?_
        refine jz_ne c1 hm 98 rfl rfl (fun h29 => ?_) (fun h29 => ?_)
        ·
         refine jy_ic c1 hm rfl (by decide) ?_
         refine jx_goto c1 hm 103 rfl rfl ?_
         refine jx_stor c1 hm (L' := [some (.inr (.inr (.inl 173))), some (.inl a0), some (.inl a1), some (.inl b6), some (.inl 1), some (.inl b23)]) rfl rfl rfl rfl rfl ?_
         refine jx_iinc c1 hm (v := (b23 + 1)) (L' := [some (.inr (.inr (.inl 173))), some (.inl a0), some (.inl a1), some (.inl b6), some (.inl 1), some (.inl (b23 + 1))]) rfl rfl (by omega) (by omega) rfl ?_
         refine jx_goto c1 hm 76 rfl rfl ?_
         exact ihW26 1 (by omega) (b23 + 1) (by omega) (by first | exact Or.inl rfl | exact Or.inr (hd1.resolve_left (by omega)) | exact Or.inr (HAD.mk (b23).toNat (by omega) (by omega) (by omega))) (by first | exact Or.inl rfl | exact Or.inr (fun i x1 x2 => if c : (i : Int) < b23 then (hd2.resolve_left (by omega)) i x1 c else (by have e : i = (b23).toNat := (by omega); subst e; omega))) (by omega)
        refine jx_load c1 hm rfl rfl rfl rfl ?_
        refine jx_getr c1 hm rfl sh_173 rfl ?_
        refine jx_load c1 hm rfl rfl rfl rfl ?_
        obtain ⟨z30, k31, lz30, uz30⟩ := hH9.ld (c := 184) (i := (b23).toNat) (A := 0) (B := 5) rfl
        refine jx_iald c1 hm rfl sh_184 ⟨by omega, by omega⟩ k31 ?_
        refine jx_load c1 hm rfl rfl rfl rfl ?_
        refine jc_ne c1 hm 102 rfl rfl (fun h32 => ?_) (fun h32 => ?_)
        ·
         refine jy_ic c1 hm rfl (by decide) ?_
         refine jx_stor c1 hm (L' := [some (.inr (.inr (.inl 173))), some (.inl a0), some (.inl a1), some (.inl b6), some (.inl 0), some (.inl b23)]) rfl rfl rfl rfl rfl ?_
         refine jx_iinc c1 hm (v := (b23 + 1)) (L' := [some (.inr (.inr (.inl 173))), some (.inl a0), some (.inl a1), some (.inl b6), some (.inl 0), some (.inl (b23 + 1))]) rfl rfl (by omega) (by omega) rfl ?_
         refine jx_goto c1 hm 76 rfl rfl ?_
         exact ihW26 0 (by omega) (b23 + 1) (by omega) (by first | exact Or.inl rfl | exact Or.inr (hd1.resolve_left (by omega)) | exact Or.inr (HAD.mk (b23).toNat (by omega) (by omega) (by omega))) (by first | exact Or.inl rfl | exact Or.inr (fun i x1 x2 => if c : (i : Int) < b23 then (hd2.resolve_left (by omega)) i x1 c else (by have e : i = (b23).toNat := (by omega); subst e; omega))) (by omega)
        refine jy_ic c1 hm rfl (by decide) ?_
        refine jx_goto c1 hm 103 rfl rfl ?_
        refine jx_stor c1 hm (L' := [some (.inr (.inr (.inl 173))), some (.inl a0), some (.inl a1), some (.inl b6), some (.inl 1), some (.inl b23)]) rfl rfl rfl rfl rfl ?_
        refine jx_iinc c1 hm (v := (b23 + 1)) (L' := [some (.inr (.inr (.inl 173))), some (.inl a0), some (.inl a1), some (.inl b6), some (.inl 1), some (.inl (b23 + 1))]) rfl rfl (by omega) (by omega) rfl ?_
        refine jx_goto c1 hm 76 rfl rfl ?_
        exact ihW26 1 (by omega) (b23 + 1) (by omega) (by first | exact Or.inl rfl | exact Or.inr (hd1.resolve_left (by omega)) | exact Or.inr (HAD.mk (b23).toNat (by omega) (by omega) (by omega))) (by first | exact Or.inl rfl | exact Or.inr (fun i x1 x2 => if c : (i : Int) < b23 then (hd2.resolve_left (by omega)) i x1 c else (by have e : i = (b23).toNat := (by omega); subst e; omega))) (by omega)
      exact W26 (5 + 1 : Int).toNat 0 (by omega) 1 (by omega) (Or.inl rfl) (Or.inr (fun i x1 x2 => by omega)) (by omega)
     refine jx_goto c1 hm 139 rfl rfl ?_
     refine jx_iinc c1 hm (v := (b6 + 1)) (L' := [some (.inr (.inr (.inl 173))), some (.inl a0), some (.inl a1), some (.inl (b6 + 1)), o7, o8]) rfl rfl (by omega) (by omega) rfl ?_
     refine jx_goto c1 hm 41 rfl rfl ?_
     exact ihW14 (b6 + 1) (by omega) o7 ho7 o8 ho8 M9 hH9 hF9 k10 hg1 (af_s0 hg2 (by omega) ((hg1 _ (by omega)).symm.trans k18) (p20.trans (hF9 175 _ rfl)) (by omega)) (by omega) (by omega)
   exact W14 ((-z3 + 5) + 1 : Int).toNat (z3 + 1) (by omega) none (Or.inl rfl) none (Or.inl rfl) M0 hH0 hF0 k2 (fun _ _ => rfl) (af_0 (by omega) k4) (by omega) (by omega)
  refine jx_load c1 hm rfl rfl rfl rfl ?_
  refine jx_load c1 hm rfl rfl rfl rfl ?_
  refine jx_getr c1 hm rfl sh_173 rfl ?_
  refine jx_load c1 hm rfl rfl rfl rfl ?_
  refine jy_ic c1 hm rfl (by decide) ?_
  refine jy_sub c1 hm (a1 - 1) rfl (by omega) ?_
  obtain ⟨z43, k44, lz43, uz43⟩ := hH0.ld (c := 184) (i := ((a1 - 1)).toNat) (A := 0) (B := 5) rfl
  refine jx_iald c1 hm rfl sh_184 ⟨by omega, by omega⟩ k44 ?_
  refine jx_load c1 hm rfl rfl rfl rfl ?_
  refine jx_getr c1 hm rfl sh_173 rfl ?_
  refine jy_ic c1 hm rfl (by decide) ?_
  refine jx_iald c1 hm rfl sh_184 ⟨by omega, by omega⟩ k4 ?_
  refine jv_i c3 hm rfl pj_X12_owesOf rfl rfl ⟨_, _, _, rfl, sh_173⟩ rfl ((ct_X12_owesOf_173 X (by omega) M0 hH0 z43 ⟨by omega, by omega⟩ z3 ⟨by omega, by omega⟩).le (by omega)) (fun z45 _ ⟨rfl, lz45, uz45, p46⟩ => ?_)
  refine jz_le c1 hm 30 rfl rfl (fun h47 => ?_) (fun h47 => ?_)
  ·
   refine jy_ic c1 hm rfl (by decide) ?_
   exact jx_retz c2 hm rfl rfl ⟨by omega, by omega⟩ ⟨_, rfl, hH0, hF0, by omega, by omega, (fun _ _ => rfl), (Or.inr (nr_eq (by omega) (by omega) k44 k4 p46 (by omega))), (Or.inl rfl)⟩
  refine jy_ic c1 hm rfl (by decide) ?_
  refine jx_goto c1 hm 31 rfl rfl ?_
  exact jx_retz c2 hm rfl rfl ⟨by omega, by omega⟩ ⟨_, rfl, hH0, hF0, by omega, by omega, (fun _ _ => rfl), (Or.inl rfl), (Or.inr (rg_eq hp1 (by omega) k44 k4 p46 (by omega)))⟩
def md_X12_layRing_173 : List (Nat × (Nat × Nat)) := [(184, (0, 5))]
theorem ct_X12_layRing_173 (X : Int) (hX : 0 ≤ X ∧ X ≤ 100000000) (M0 : JM) (hH0 : HI X M0)  : JOk shp PJ 9 130 [.inr (.inr (.inl 173))] M0 (jRi (fun v M' => HI X M' ∧ Fr md_X12_layRing_173 M0 M' ∧ 0 ≤ v ∧ v ≤ 6 ∧ (v = 0 ∨ RNG M0) ∧ (v ≠ 0 ∨ ¬ RNG M0) ∧ (v = 0 ∨ 2 ≤ v))) := by
 refine ⟨jr_X12_layRing, pj_X12_layRing, fun F c1 c2 c3 => ?_⟩
 have hm := pj_X12_layRing
 change F 0 [some (.inr (.inr (.inl 173))), none, none] [] M0
 have hF0 : Fr md_X12_layRing_173 M0 M0 := Fr.rf _ _
 obtain ⟨z1, k2, lz1, uz1⟩ := hH0.ld (c := 175) (i := 0) (A := 0) (B := 6) (bs_11_0 _ _ (by omega) (by omega))
 refine jy_ic c1 hm rfl (by decide) ?_
 refine jx_stor c1 hm (L' := [some (.inr (.inr (.inl 173))), some (.inl 2), none]) rfl rfl rfl rfl rfl ?_
 have W9 : ∀ (n10 : Nat) (b3 : Int) (hb3 : 2 ≤ b3 ∧ b3 ≤ 7) (o4 : Option JV) (ho4 : o4 = none ∨ (∃ z, o4 = some (.inl z)) ∨ ∃ r, o4 = some (.inr (.inr r))) (M5 : JM) (hH5 : HI (X) M5) (hF5 : Fr md_X12_layRing_173 M0 M5) (k6 : M5.1 175 0 = z1) (hl1 : ∀ (n' : Int) (g : Nat → Int), 2 ≤ n' → n' < b3 → ¬ RG M0 n' g) (h8 : 2 ≤ b3), (-b3 + 7) < (n10 : Int) → F 2 [some (.inr (.inr (.inl 173))), some (.inl b3), o4] [] M5 := by
  intro n10
  induction n10 with
  | zero => intros; omega
  | succ n10 ihW9 =>
   intro b3 hb3 o4 ho4 M5 hH5 hF5 k6 hl1 h8 hrW9
   refine jx_load c1 hm rfl rfl rfl rfl ?_
   refine jx_load c1 hm rfl rfl rfl rfl ?_
   refine jx_getr c1 hm rfl sh_173 rfl ?_
   refine jy_ic c1 hm rfl (by decide) ?_
   refine jx_iald c1 hm rfl sh_175 ⟨by omega, by omega⟩ k6 ?_
   refine jc_gt c1 hm 54 rfl rfl (fun h11 => ?_) (fun h11 => ?_)
   ·
    refine jy_ic c1 hm rfl (by decide) ?_
    exact jx_reti c2 hm rfl rfl ⟨_, rfl, hH5, hF5, by omega, by omega, (Or.inl rfl), (Or.inr (lr_e hl1 (by omega))), (by omega)⟩
   refine jy_ic c1 hm rfl (by decide) ?_
   refine jx_stor c1 hm (L' := [some (.inr (.inr (.inl 173))), some (.inl b3), some (.inl 0)]) rfl rfl rfl rfl rfl ?_
   have W16 : ∀ (n17 : Nat) (b12 : Int) (hb12 : 0 ≤ b12 ∧ b12 ≤ 6) (M13 : JM) (hH13 : HI (X) M13) (hF13 : Fr md_X12_layRing_173 M0 M13) (k14 : M13.1 175 0 = z1) (hl2 : ∀ g : Nat → Int, g 0 < b12 → ¬ RG M0 b3 g), (-b12 + 6) < (n17 : Int) → F 14 [some (.inr (.inr (.inl 173))), some (.inl b3), some (.inl b12)] [] M13 := by
    intro n17
    induction n17 with
    | zero => intros; omega
    | succ n17 ihW16 =>
     intro b12 hb12 M13 hH13 hF13 k14 hl2 hrW16
     refine jx_load c1 hm rfl rfl rfl rfl ?_
     refine jx_load c1 hm rfl rfl rfl rfl ?_
     refine jx_getr c1 hm rfl sh_173 rfl ?_
     refine jy_ic c1 hm rfl (by decide) ?_
     refine jx_iald c1 hm rfl sh_175 ⟨by omega, by omega⟩ k14 ?_
     refine jc_ge c1 hm 48 rfl rfl (fun h18 => ?_) (fun h18 => ?_)
     ·
      refine jx_iinc c1 hm (v := (b3 + 1)) (L' := [some (.inr (.inr (.inl 173))), some (.inl (b3 + 1)), some (.inl b12)]) rfl rfl (by omega) (by omega) rfl ?_
      refine jx_goto c1 hm 2 rfl rfl ?_
      exact ihW9 (b3 + 1) (by omega) (some (.inl b12)) (Or.inr (Or.inl ⟨_, rfl⟩)) M13 hH13 hF13 k14 (lr_n hl1 (by omega) hl2 (by omega)) (by omega) (by omega)
     refine jx_load c1 hm rfl rfl rfl rfl ?_
     refine jx_getr c1 hm rfl sh_173 rfl ?_
     refine jy_ic c1 hm rfl (by decide) ?_
     refine jx_load c1 hm rfl rfl rfl rfl ?_
     obtain ⟨M19, e19, hH19, hF19, k19, n19, q19⟩ := mup hH13 hF13 (c := 184) (i := 0) (v := b12) (A := 0) (B := 5) rfl ⟨by omega, by omega⟩ (jin_of 0 rfl ⟨by omega, by omega⟩)
     refine jm_iast c1 hm rfl sh_184 ⟨by omega, by omega⟩ e19 ?_
     refine jx_load c1 hm rfl rfl rfl rfl ?_
     refine jy_ic c1 hm rfl (by decide) ?_
     refine jx_load c1 hm rfl rfl rfl rfl ?_
     have k20 : M19.1 175 0 = z1 := (n19 175 0 (fun h => absurd h.1 (by decide))).trans k14
     refine jv_i c3 hm rfl pj_X12_goesRound rfl rfl ⟨_, _, _, rfl, sh_173⟩ rfl ((ct_X12_goesRound_173 6 X (by omega) M19 hH19 1 ⟨by omega, by omega⟩ b3 ⟨by omega, by omega⟩ (by omega) (px_1 k19 (by omega)) (by omega)).le (by decide)) (fun z21 M25 ⟨hH25, hR25, lz21, uz21, p22, p23, p24⟩ => ?_)
     have hF25 := hF19.tr hR25 (by decide +kernel)
     refine jz_eq c1 hm 42 rfl rfl (fun h26 => ?_) (fun h26 => ?_)
     ·
      refine jx_iinc c1 hm (v := (b12 + 1)) (L' := [some (.inr (.inr (.inl 173))), some (.inl b3), some (.inl (b12 + 1))]) rfl rfl (by omega) (by omega) rfl ?_
      refine jx_goto c1 hm 14 rfl rfl ?_
      have k27 : M25.1 175 0 = z1 := (hR25 175 0 (by decide +kernel)).trans k20
      exact ihW16 (b12 + 1) (by omega) M25 hH25 hF25 k27 (lr_s hl2 (p23.resolve_left (by omega)) k19 (fun x => hF19 175 x rfl)) (by omega)
     refine jx_load c1 hm rfl rfl rfl rfl ?_
     exact jx_reti c2 hm rfl rfl ⟨_, rfl, hH25, hF25, by omega, by omega, (Or.inr (by obtain ⟨g, hg⟩ := p24.resolve_left (by omega); exact ⟨_, g, by omega, by omega, hg.cg (fun x => (hF19 175 x rfl).symm)⟩)), (by omega), (by omega)⟩
   exact W16 (6 + 1 : Int).toNat 0 (by omega) M5 hH5 hF5 k6 (fun g a hr => by have := (hr.1 0 (by omega)).1; omega) (by omega)
 exact W9 (5 + 1 : Int).toNat 2 (by omega) none (Or.inl rfl) M0 hH0 hF0 k2 (fun n g a b => by omega) (by omega) (by omega)
def md_X12_ring_173 : List (Nat × (Nat × Nat)) := [(173, (0, 0)), (173, (28, 28)), (184, (0, 5)), (185, (0, 5))]
theorem ct_X12_ring_173 (X : Int) (hX : 0 ≤ X ∧ X ≤ 100000000) (M0 : JM) (hH0 : HI X M0)  : JOk shp PJ 10 176 [.inr (.inr (.inl 173))] M0 (jRi (fun v M' => HI X M' ∧ Fr md_X12_ring_173 M0 M' ∧ (-1) ≤ v ∧ v ≤ 6 )) := by
 refine ⟨jr_X12_ring, pj_X12_ring, fun F c1 c2 c3 => ?_⟩
 have hm := pj_X12_ring
 change F 0 [some (.inr (.inr (.inl 173))), none, none] [] M0
 have hF0 : Fr md_X12_ring_173 M0 M0 := Fr.rf _ _
 refine jx_load c1 hm rfl rfl rfl rfl ?_
 refine jy_ic c1 hm rfl (by decide) ?_
 obtain ⟨M1, e1, hH1, hF1, k1, n1, q1⟩ := mup hH0 hF0 (c := 173) (i := 0) (v := 0) (A := (-2147483648)) (B := 2147483647) (bs_28_0 _ _ (by omega) (by omega)) ⟨by omega, by omega⟩ (jin_of 0 rfl ⟨by omega, by omega⟩)
 refine jm_puti c1 hm rfl sh_173 rfl e1 ?_
 refine jx_load c1 hm rfl rfl rfl rfl ?_
 refine jv_i c3 hm rfl pj_X12_layRing rfl rfl ⟨_, _, _, rfl, sh_173⟩ rfl ((ct_X12_layRing_173 X (by omega) M1 hH1 ).le (by decide)) (fun z2 M6 ⟨hH6, hR6, lz2, uz2, p3, p4, p5⟩ => ?_)
 have hF6 := hF1.tr hR6 (by decide +kernel)
 refine jx_stor c1 hm (L' := [some (.inr (.inr (.inl 173))), some (.inl z2), none]) rfl rfl rfl rfl rfl ?_
 refine jx_load c1 hm rfl rfl rfl rfl ?_
 refine jz_ne c1 hm 16 rfl rfl (fun h7 => ?_) (fun h7 => ?_)
 ·
  refine jx_load c1 hm rfl rfl rfl rfl ?_
  refine jx_load c1 hm rfl rfl rfl rfl ?_
  obtain ⟨M8, e8, hH8, hF8, k8, n8, q8⟩ := mup hH6 hF6 (c := 173) (i := 28) (v := z2) (A := 0) (B := 6) (bs_28_11 _ _ (by omega) (by omega)) ⟨by omega, by omega⟩ (jin_of 1 rfl ⟨by omega, by omega⟩)
  refine jm_puti c1 hm rfl sh_173 rfl e8 ?_
  refine jy_ic c1 hm rfl (by decide) ?_
  refine jx_stor c1 hm (L' := [some (.inr (.inr (.inl 173))), some (.inl z2), some (.inl 0)]) rfl rfl rfl rfl rfl ?_
  have W14 : ∀ (n15 : Nat) (b9 : Int) (hb9 : 0 ≤ b9 ∧ b9 ≤ 6) (M10 : JM) (hH10 : HI (X) M10) (hF10 : Fr md_X12_ring_173 M0 M10) (k12 : M10.1 173 0 = 0) (k13 : M10.1 173 28 = z2), (-b9 + 6) < (n15 : Int) → F 23 [some (.inr (.inr (.inl 173))), some (.inl z2), some (.inl b9)] [] M10 := by
   intro n15
   induction n15 with
   | zero => intros; omega
   | succ n15 ihW14 =>
    intro b9 hb9 M10 hH10 hF10 k12 k13 hrW14
    refine jx_load c1 hm rfl rfl rfl rfl ?_
    refine jx_load c1 hm rfl rfl rfl rfl ?_
    refine jc_ge c1 hm 46 rfl rfl (fun h16 => ?_) (fun h16 => ?_)
    ·
     refine jx_load c1 hm rfl rfl rfl rfl ?_
     exact jx_reti c2 hm rfl rfl ⟨_, rfl, hH10, hF10, by omega, by omega⟩
    refine jx_load c1 hm rfl rfl rfl rfl ?_
    refine jx_getr c1 hm rfl sh_173 rfl ?_
    refine jx_load c1 hm rfl rfl rfl rfl ?_
    refine jx_load c1 hm rfl rfl rfl rfl ?_
    refine jx_getr c1 hm rfl sh_173 rfl ?_
    refine jx_load c1 hm rfl rfl rfl rfl ?_
    obtain ⟨z17, k18, lz17, uz17⟩ := hH10.ld (c := 184) (i := (b9).toNat) (A := 0) (B := 5) rfl
    refine jx_iald c1 hm rfl sh_184 ⟨by omega, by omega⟩ k18 ?_
    obtain ⟨M19, e19, hH19, hF19, k19, n19, q19⟩ := mup hH10 hF10 (c := 185) (i := (b9).toNat) (v := z17) (A := 0) (B := 5) rfl ⟨by omega, by omega⟩ (jin_of 3 rfl ⟨by omega, by omega⟩)
    refine jm_iast c1 hm rfl sh_185 ⟨by omega, by omega⟩ e19 ?_
    refine jx_iinc c1 hm (v := (b9 + 1)) (L' := [some (.inr (.inr (.inl 173))), some (.inl z2), some (.inl (b9 + 1))]) rfl rfl (by omega) (by omega) rfl ?_
    refine jx_goto c1 hm 23 rfl rfl ?_
    have k20 : M19.1 173 0 = 0 := (n19 173 0 (fun h => absurd h.1 (by decide))).trans k12
    have k21 : M19.1 173 28 = z2 := (n19 173 28 (fun h => absurd h.1 (by decide))).trans k13
    exact ihW14 (b9 + 1) (by omega) M19 hH19 hF19 k20 k21 (by omega)
  have k11 : M8.1 173 0 = 0 := (n8 173 0 (by decide)).trans ((hR6 173 0 (by decide +kernel)).trans k1)
  exact W14 (6 + 1 : Int).toNat 0 (by omega) M8 hH8 hF8 k11 k8 (by omega)
 refine jy_ic c1 hm rfl (by decide) ?_
 exact jx_reti c2 hm rfl rfl ⟨_, rfl, hH6, hF6, by omega, by omega⟩
def md_X12_doStrike_173 : List (Nat × (Nat × Nat)) := [(175, (120, 155)), (184, (0, 5))]
theorem ct_X12_doStrike_173 (X : Int) (hX : 0 ≤ X ∧ X ≤ 100000000) (M0 : JM) (hH0 : HI X M0) (hp0 : RNG M0) : JOk shp PJ 10 95 [.inr (.inr (.inl 173))] M0 (jRi (fun v M' => HI X M' ∧ Fr md_X12_doStrike_173 M0 M' ∧ (-2147483648) ≤ v ∧ v ≤ 2147483647 )) := by
 refine ⟨jr_X12_doStrike, pj_X12_doStrike, fun F c1 c2 c3 => ?_⟩
 have hm := pj_X12_doStrike
 change F 0 [some (.inr (.inr (.inl 173))), none, none, none] [] M0
 have hF0 : Fr md_X12_doStrike_173 M0 M0 := Fr.rf _ _
 refine jx_load c1 hm rfl rfl rfl rfl ?_
 refine jv_i c3 hm rfl pj_X12_layRing rfl rfl ⟨_, _, _, rfl, sh_173⟩ rfl ((ct_X12_layRing_173 X (by omega) M0 hH0 ).le (by decide)) (fun z1 M5 ⟨hH5, hR5, lz1, uz1, p2, p3, p4⟩ => ?_)
 have hF5 := hF0.tr hR5 (by decide +kernel)
 have hnz : z1 ≠ 0 := fun h => (p3.resolve_left (by omega)) hp0
 refine jx_stor c1 hm (L' := [some (.inr (.inr (.inl 173))), some (.inl z1), none, none]) rfl rfl rfl rfl rfl ?_
 refine jx_load c1 hm rfl rfl rfl rfl ?_
 refine jx_load c1 hm rfl rfl rfl rfl ?_
 refine jx_getr c1 hm rfl sh_173 rfl ?_
 refine jx_load c1 hm rfl rfl rfl rfl ?_
 refine jy_ic c1 hm rfl (by decide) ?_
 refine jy_sub c1 hm (z1 - 1) rfl (by omega) ?_
 obtain ⟨z6, k7, lz6, uz6⟩ := hH5.ld (c := 184) (i := ((z1 - 1)).toNat) (A := 0) (B := 5) rfl
 refine jx_iald c1 hm rfl sh_184 ⟨by omega, by omega⟩ k7 ?_
 refine jx_load c1 hm rfl rfl rfl rfl ?_
 refine jx_getr c1 hm rfl sh_173 rfl ?_
 refine jy_ic c1 hm rfl (by decide) ?_
 obtain ⟨z8, k9, lz8, uz8⟩ := hH5.ld (c := 184) (i := 0) (A := 0) (B := 5) rfl
 refine jx_iald c1 hm rfl sh_184 ⟨by omega, by omega⟩ k9 ?_
 refine jv_i c3 hm rfl pj_X12_owesOf rfl rfl ⟨_, _, _, rfl, sh_173⟩ rfl ((ct_X12_owesOf_173 X (by omega) M5 hH5 z6 ⟨by omega, by omega⟩ z8 ⟨by omega, by omega⟩).le (by decide)) (fun z10 _ ⟨rfl, lz10, uz10, p11⟩ => ?_)
 refine jx_stor c1 hm (L' := [some (.inr (.inr (.inl 173))), some (.inl z1), some (.inl z10), none]) rfl rfl rfl rfl rfl ?_
 refine jy_ic c1 hm rfl (by decide) ?_
 refine jx_stor c1 hm (L' := [some (.inr (.inr (.inl 173))), some (.inl z1), some (.inl z10), some (.inl 1)]) rfl rfl rfl rfl rfl ?_
 have W14 : ∀ (n15 : Nat) (b12 : Int) (hb12 : (-2147483648) ≤ b12 ∧ b12 ≤ 2147483647) (b13 : Int) (hb13 : 1 ≤ b13 ∧ b13 ≤ 6), (-b13 + 6) < (n15 : Int) → F 26 [some (.inr (.inr (.inl 173))), some (.inl z1), some (.inl b12), some (.inl b13)] [] M5 := by
  intro n15
  induction n15 with
  | zero => intros; omega
  | succ n15 ihW14 =>
   intro b12 hb12 b13 hb13 hrW14
   refine jx_load c1 hm rfl rfl rfl rfl ?_
   refine jx_load c1 hm rfl rfl rfl rfl ?_
   refine jc_ge c1 hm 60 rfl rfl (fun h16 => ?_) (fun h16 => ?_)
   ·
    refine jy_ic c1 hm rfl (by decide) ?_
    refine jx_stor c1 hm (L' := [some (.inr (.inr (.inl 173))), some (.inl z1), some (.inl b12), some (.inl 0)]) rfl rfl rfl rfl rfl ?_
    have W28 : ∀ (n29 : Nat) (b26 : Int) (hb26 : 0 ≤ b26 ∧ b26 ≤ 6) (M27 : JM) (hH27 : HI (X) M27) (hF27 : Fr md_X12_doStrike_173 M0 M27), (-b26 + 6) < (n29 : Int) → F 62 [some (.inr (.inr (.inl 173))), some (.inl z1), some (.inl b12), some (.inl b26)] [] M27 := by
     intro n29
     induction n29 with
     | zero => intros; omega
     | succ n29 ihW28 =>
      intro b26 hb26 M27 hH27 hF27 hrW28
      refine jx_load c1 hm rfl rfl rfl rfl ?_
      refine jx_load c1 hm rfl rfl rfl rfl ?_
      refine jc_ge c1 hm 105 rfl rfl (fun h30 => ?_) (fun h30 => ?_)
      ·
       refine jx_load c1 hm rfl rfl rfl rfl ?_
       exact jx_reti c2 hm rfl rfl ⟨_, rfl, hH27, hF27, by omega, by omega⟩
      refine jx_load c1 hm rfl rfl rfl rfl ?_
      refine jx_getr c1 hm rfl sh_173 rfl ?_
      refine jy_bp c1 hm rfl (by decide) ?_
      refine jy_bp c1 hm rfl (by decide) ?_
      refine jx_load c1 hm rfl rfl rfl rfl ?_
      refine jx_getr c1 hm rfl sh_173 rfl ?_
      refine jx_load c1 hm rfl rfl rfl rfl ?_
      obtain ⟨z31, k32, lz31, uz31⟩ := hH27.ld (c := 184) (i := (b26).toNat) (A := 0) (B := 5) rfl
      refine jx_iald c1 hm rfl sh_184 ⟨by omega, by omega⟩ k32 ?_
      refine jy_mul c1 hm (6 * z31) rfl (by omega) ?_
      refine jy_add c1 hm (6 * z31 + 120) rfl (by omega) ?_
      refine jx_load c1 hm rfl rfl rfl rfl ?_
      refine jx_getr c1 hm rfl sh_173 rfl ?_
      refine jx_load c1 hm rfl rfl rfl rfl ?_
      refine jy_ic c1 hm rfl (by decide) ?_
      refine jy_add c1 hm (b26 + 1) rfl (by omega) ?_
      refine jx_load c1 hm rfl rfl rfl rfl ?_
      refine jy_rem c1 hm rfl ⟨by omega, by omega, by omega, by omega⟩ (fun z33 ez33 lz33 uz33 => ?_)
      clear ez33
      obtain ⟨z34, k35, lz34, uz34⟩ := hH27.ld (c := 184) (i := (z33).toNat) (A := 0) (B := 5) rfl
      refine jx_iald c1 hm rfl sh_184 ⟨by omega, by omega⟩ k35 ?_
      refine jy_add c1 hm (6 * z31 + z34 + 120) rfl (by omega) ?_
      refine jx_dup2 c1 hm rfl rfl rfl ?_
      obtain ⟨z36, k37, lz36, uz36⟩ := hH27.ld (c := 175) (i := ((6 * z31 + z34 + 120)).toNat) (A := (-2147483648)) (B := 2147483647) (bs_11_9 _ _ (by omega) (by omega))
      refine jx_iald c1 hm rfl sh_175 ⟨by omega, by omega⟩ k37 ?_
      refine jx_load c1 hm rfl rfl rfl rfl ?_
      refine jx_iopw c1 hm rfl rfl (fun z38 lz38 uz38 => ?_)
      obtain ⟨M39, e39, hH39, hF39, k39, n39, q39⟩ := mup hH27 hF27 (c := 175) (i := ((6 * z31 + z34 + 120)).toNat) (v := z38) (A := (-2147483648)) (B := 2147483647) (bs_11_9 _ _ (by omega) (by omega)) ⟨by omega, by omega⟩ (jin_of 0 rfl ⟨by omega, by omega⟩)
      refine jm_iast c1 hm rfl sh_175 ⟨by omega, by omega⟩ e39 ?_
      refine jx_iinc c1 hm (v := (b26 + 1)) (L' := [some (.inr (.inr (.inl 173))), some (.inl z1), some (.inl b12), some (.inl (b26 + 1))]) rfl rfl (by omega) (by omega) rfl ?_
      refine jx_goto c1 hm 62 rfl rfl ?_
      exact ihW28 (b26 + 1) (by omega) M39 hH39 hF39 (by omega)
    exact W28 (6 + 1 : Int).toNat 0 (by omega) M5 hH5 hF5 (by omega)
   refine jx_load c1 hm rfl rfl rfl rfl ?_
   refine jx_load c1 hm rfl rfl rfl rfl ?_
   refine jx_load c1 hm rfl rfl rfl rfl ?_
   refine jx_getr c1 hm rfl sh_173 rfl ?_
   refine jx_load c1 hm rfl rfl rfl rfl ?_
   refine jy_ic c1 hm rfl (by decide) ?_
   refine jy_sub c1 hm (b13 - 1) rfl (by omega) ?_
   obtain ⟨z17, k18, lz17, uz17⟩ := hH5.ld (c := 184) (i := ((b13 - 1)).toNat) (A := 0) (B := 5) rfl
   refine jx_iald c1 hm rfl sh_184 ⟨by omega, by omega⟩ k18 ?_
   refine jx_load c1 hm rfl rfl rfl rfl ?_
   refine jx_getr c1 hm rfl sh_173 rfl ?_
   refine jx_load c1 hm rfl rfl rfl rfl ?_
   obtain ⟨z19, k20, lz19, uz19⟩ := hH5.ld (c := 184) (i := (b13).toNat) (A := 0) (B := 5) rfl
   refine jx_iald c1 hm rfl sh_184 ⟨by omega, by omega⟩ k20 ?_
   refine jv_i c3 hm rfl pj_X12_owesOf rfl rfl ⟨_, _, _, rfl, sh_173⟩ rfl ((ct_X12_owesOf_173 X (by omega) M5 hH5 z17 ⟨by omega, by omega⟩ z19 ⟨by omega, by omega⟩).le (by decide)) (fun z21 _ ⟨rfl, lz21, uz21, p22⟩ => ?_)
   refine jt_i c3 hm rfl rfl pj_X12_least rfl rfl rfl ((ct_X12_least X (by omega) M5 hH5 b12 ⟨by omega, by omega⟩ z21 ⟨by omega, by omega⟩).le (by decide)) (fun z23 _ ⟨rfl, lz23, uz23, p24, p25⟩ => ?_)
   refine jx_stor c1 hm (L' := [some (.inr (.inr (.inl 173))), some (.inl z1), some (.inl z23), some (.inl b13)]) rfl rfl rfl rfl rfl ?_
   refine jx_iinc c1 hm (v := (b13 + 1)) (L' := [some (.inr (.inr (.inl 173))), some (.inl z1), some (.inl z23), some (.inl (b13 + 1))]) rfl rfl (by omega) (by omega) rfl ?_
   refine jx_goto c1 hm 26 rfl rfl ?_
   exact ihW14 z23 (by omega) (b13 + 1) (by omega) (by omega)
 exact W14 (5 + 1 : Int).toNat z10 (by omega) 1 (by omega) (by omega)
def md_X12_strike_173 : List (Nat × (Nat × Nat)) := [(173, (0, 0)), (173, (23, 23)), (175, (120, 155)), (178, (0, 1063)), (184, (0, 5))]
theorem ct_X12_strike_173 (X : Int) (hX : 0 ≤ X ∧ X ≤ 100000000) (M0 : JM) (hH0 : HI X M0)  : JOk shp PJ 11 186 [.inr (.inr (.inl 173))] M0 (jRi (fun v M' => HI X M' ∧ Fr md_X12_strike_173 M0 M' ∧ (-2147483648) ≤ v ∧ v ≤ 2147483647 )) := by
 refine ⟨jr_X12_strike, pj_X12_strike, fun F c1 c2 c3 => ?_⟩
 have hm := pj_X12_strike
 change F 0 [some (.inr (.inr (.inl 173)))] [] M0
 have hF0 : Fr md_X12_strike_173 M0 M0 := Fr.rf _ _
 obtain ⟨z1, k2, lz1, uz1⟩ := hH0.ld (c := 175) (i := 0) (A := 0) (B := 6) (bs_11_0 _ _ (by omega) (by omega))
 refine jx_load c1 hm rfl rfl rfl rfl ?_
 refine jy_ic c1 hm rfl (by decide) ?_
 obtain ⟨M3, e3, hH3, hF3, k3, n3, q3⟩ := mup hH0 hF0 (c := 173) (i := 0) (v := 0) (A := (-2147483648)) (B := 2147483647) (bs_28_0 _ _ (by omega) (by omega)) ⟨by omega, by omega⟩ (jin_of 0 rfl ⟨by omega, by omega⟩)
 refine jm_puti c1 hm rfl sh_173 rfl e3 ?_
 refine jx_load c1 hm rfl rfl rfl rfl ?_
 refine jv_i c3 hm rfl pj_X12_layRing rfl rfl ⟨_, _, _, rfl, sh_173⟩ rfl ((ct_X12_layRing_173 X (by omega) M3 hH3 ).le (by decide)) (fun z4 M8 ⟨hH8, hR8, lz4, uz4, p5, p6, p7⟩ => ?_)
 have hF8 := hF3.tr hR8 (by decide +kernel)
 refine jz_ne c1 hm 14 rfl rfl (fun h9 => ?_) (fun h9 => ?_)
 ·
  refine jx_load c1 hm rfl rfl rfl rfl ?_
  refine jv_v c3 hm rfl pj_X12_snap rfl rfl ⟨_, _, _, rfl, sh_173⟩ rfl ((ct_X12_snap_173 X (by omega) M8 hH8 ).le (by decide)) (fun M10 ⟨hH10, hR10⟩ => ?_)
  have hF10 := hF8.tr hR10 (by decide +kernel)
  refine jx_load c1 hm rfl rfl rfl rfl ?_
  refine jv_i c3 hm rfl pj_X12_doStrike rfl rfl ⟨_, _, _, rfl, sh_173⟩ rfl ((ct_X12_doStrike_173 X (by omega) M10 hH10 ((p5.resolve_left (by omega)).cg (men6 hH3) (fun x hx => ((hR10 175 x rfl).trans (hR8 175 x rfl))))).le (by decide)) (fun z11 M12 ⟨hH12, hR12, lz11, uz11⟩ => ?_)
  have hF12 := hF10.tr hR12 (by decide +kernel)
  exact jx_reti c2 hm rfl rfl ⟨_, rfl, hH12, hF12, by omega, by omega⟩
 refine jy_ic c1 hm rfl (by decide) ?_
 exact jx_reti c2 hm rfl rfl ⟨_, rfl, hH8, hF8, by omega, by omega⟩
def md_X12_why_173 : List (Nat × (Nat × Nat)) := [(184, (0, 5))]
theorem ct_X12_why_173 (X : Int) (hX : 0 ≤ X ∧ X ≤ 100000000) (M0 : JM) (hH0 : HI X M0) (a0 : Int) (ha0 : 0 ≤ a0 ∧ a0 ≤ 4) (a1 : Int) (ha1 : 0 ≤ a1 ∧ a1 ≤ 5) (a2 : Int) (ha2 : 0 ≤ a2 ∧ a2 ≤ 5) (a3 : Int) (ha3 : (-2147483648) ≤ a3 ∧ a3 ≤ 2147483647) : JOk shp PJ 10 200 [.inr (.inr (.inl 173)), .inl a0, .inl a1, .inl a2, .inl a3] M0 (jRi (fun v M' => HI X M' ∧ Fr md_X12_why_173 M0 M' ∧ 0 ≤ v ∧ v ≤ 2 ∧ (a0 ≠ 4 ∨ v ≠ 0 ∨ RNG M0))) := by
 refine ⟨jr_X12_why, pj_X12_why, fun F c1 c2 c3 => ?_⟩
 have hm := pj_X12_why
 change F 0 [some (.inr (.inr (.inl 173))), some (.inl a0), some (.inl a1), some (.inl a2), some (.inl a3)] [] M0
 have hF0 : Fr md_X12_why_173 M0 M0 := Fr.rf _ _
 obtain ⟨z1, k2, lz1, uz1⟩ := hH0.ld (c := 175) (i := 0) (A := 0) (B := 6) (bs_11_0 _ _ (by omega) (by omega))
 refine jx_load c1 hm rfl rfl rfl rfl ?_
 by_cases h3 : a0 = 0
 ·
  refine jx_tswI c1 hm 32 rfl ⟨by omega, by omega⟩ (by rw [h3] <;> rfl) rfl ?_
  refine jx_load c1 hm rfl rfl rfl rfl ?_
  refine jx_load c1 hm rfl rfl rfl rfl ?_
  refine jx_load c1 hm rfl rfl rfl rfl ?_
  refine jv_i c3 hm rfl pj_X12_costOf rfl rfl ⟨_, _, _, rfl, sh_173⟩ rfl ((ct_X12_costOf_173 X (by omega) M0 hH0 a1 ⟨by omega, by omega⟩ a2 ⟨by omega, by omega⟩).le (by decide)) (fun z4 _ ⟨rfl, lz4, uz4, p5⟩ => ?_)
  refine jz_ne c1 hm 45 rfl rfl (fun h6 => ?_) (fun h6 => ?_)
  ·
   refine jx_load c1 hm rfl rfl rfl rfl ?_
   refine jx_getr c1 hm rfl sh_173 rfl ?_
   refine jy_bp c1 hm rfl (by decide) ?_
   refine jx_load c1 hm rfl rfl rfl rfl ?_
   refine jy_add c1 hm (a1 + 102) rfl (by omega) ?_
   obtain ⟨z7, k8, lz7, uz7⟩ := hH0.ld (c := 175) (i := ((a1 + 102)).toNat) (A := (-20) * X) (B := 99) (bs_11_8 _ _ (by omega) (by omega))
   refine jx_iald c1 hm rfl sh_175 ⟨by omega, by omega⟩ k8 ?_
   refine jx_load c1 hm rfl rfl rfl rfl ?_
   refine jx_load c1 hm rfl rfl rfl rfl ?_
   refine jx_load c1 hm rfl rfl rfl rfl ?_
   refine jv_i c3 hm rfl pj_X12_costOf rfl rfl ⟨_, _, _, rfl, sh_173⟩ rfl ((ct_X12_costOf_173 X (by omega) M0 hH0 a1 ⟨by omega, by omega⟩ a2 ⟨by omega, by omega⟩).le (by decide)) (fun z9 _ ⟨rfl, lz9, uz9, p10⟩ => ?_)
   obtain rfl : z4 = z9 := by omega
   refine jc_ge c1 hm 67 rfl rfl (fun h11 => ?_) (fun h11 => ?_)
   ·
    refine jy_ic c1 hm rfl (by decide) ?_
    exact jx_reti c2 hm rfl rfl ⟨_, rfl, hH0, hF0, by omega, by omega, (by omega)⟩
   refine jy_ic c1 hm rfl (by decide) ?_
   refine jx_goto c1 hm 68 rfl rfl ?_
   exact jx_reti c2 hm rfl rfl ⟨_, rfl, hH0, hF0, by omega, by omega, (by omega)⟩
  refine jy_ic c1 hm rfl (by decide) ?_
  refine jx_goto c1 hm 68 rfl rfl ?_
  exact jx_reti c2 hm rfl rfl ⟨_, rfl, hH0, hF0, by omega, by omega, (by omega)⟩
 by_cases h12 : a0 = 1
 ·
  refine jx_tswI c1 hm 69 rfl ⟨by omega, by omega⟩ (by rw [h12] <;> rfl) rfl ?_
  refine jx_load c1 hm rfl rfl rfl rfl ?_
  refine jx_getr c1 hm rfl sh_173 rfl ?_
  refine jy_bp c1 hm rfl (by decide) ?_
  refine jx_load c1 hm rfl rfl rfl rfl ?_
  refine jy_add c1 hm (a2 + 114) rfl (by omega) ?_
  obtain ⟨z13, k14, lz13, uz13⟩ := hH0.ld (c := 175) (i := ((a2 + 114)).toNat) (A := (-2147483648)) (B := 2147483647) (bs_11_9 _ _ (by omega) (by omega))
  refine jx_iald c1 hm rfl sh_175 ⟨by omega, by omega⟩ k14 ?_
  refine jz_ne c1 hm 85 rfl rfl (fun h15 => ?_) (fun h15 => ?_)
  ·
   refine jx_load c1 hm rfl rfl rfl rfl ?_
   refine jx_getr c1 hm rfl sh_173 rfl ?_
   refine jy_bp c1 hm rfl (by decide) ?_
   refine jx_load c1 hm rfl rfl rfl rfl ?_
   refine jy_add c1 hm (a1 + 108) rfl (by omega) ?_
   obtain ⟨z16, k17, lz16, uz16⟩ := hH0.ld (c := 175) (i := ((a1 + 108)).toNat) (A := (-2147483648)) (B := 2147483647) (bs_11_9 _ _ (by omega) (by omega))
   refine jx_iald c1 hm rfl sh_175 ⟨by omega, by omega⟩ k17 ?_
   refine jx_load c1 hm rfl rfl rfl rfl ?_
   refine jx_getr c1 hm rfl sh_173 rfl ?_
   refine jy_bp c1 hm rfl (by decide) ?_
   refine jx_load c1 hm rfl rfl rfl rfl ?_
   refine jy_add c1 hm (a2 + 53) rfl (by omega) ?_
   obtain ⟨z18, k19, lz18, uz18⟩ := hH0.ld (c := 175) (i := ((a2 + 53)).toNat) (A := 0) (B := 99) (bs_11_5 _ _ (by omega) (by omega))
   refine jx_iald c1 hm rfl sh_175 ⟨by omega, by omega⟩ k19 ?_
   refine jc_ge c1 hm 110 rfl rfl (fun h20 => ?_) (fun h20 => ?_)
   ·
    refine jy_ic c1 hm rfl (by decide) ?_
    exact jx_reti c2 hm rfl rfl ⟨_, rfl, hH0, hF0, by omega, by omega, (by omega)⟩
   refine jy_ic c1 hm rfl (by decide) ?_
   refine jx_goto c1 hm 111 rfl rfl ?_
   exact jx_reti c2 hm rfl rfl ⟨_, rfl, hH0, hF0, by omega, by omega, (by omega)⟩
  refine jy_ic c1 hm rfl (by decide) ?_
  refine jx_goto c1 hm 111 rfl rfl ?_
  exact jx_reti c2 hm rfl rfl ⟨_, rfl, hH0, hF0, by omega, by omega, (by omega)⟩
 by_cases h21 : a0 = 2
 ·
  refine jx_tswI c1 hm 112 rfl ⟨by omega, by omega⟩ (by rw [h21] <;> rfl) rfl ?_
  refine jx_load c1 hm rfl rfl rfl rfl ?_
  refine jx_load c1 hm rfl rfl rfl rfl ?_
  refine jc_ne c1 hm 121 rfl rfl (fun h22 => ?_) (fun h22 => ?_)
  ·
   refine jx_load c1 hm rfl rfl rfl rfl ?_
   refine jx_getr c1 hm rfl sh_173 rfl ?_
   refine jy_bp c1 hm rfl (by decide) ?_
   refine jx_load c1 hm rfl rfl rfl rfl ?_
   refine jy_add c1 hm (a1 + 108) rfl (by omega) ?_
   obtain ⟨z23, k24, lz23, uz23⟩ := hH0.ld (c := 175) (i := ((a1 + 108)).toNat) (A := (-2147483648)) (B := 2147483647) (bs_11_9 _ _ (by omega) (by omega))
   refine jx_iald c1 hm rfl sh_175 ⟨by omega, by omega⟩ k24 ?_
   refine jx_load c1 hm rfl rfl rfl rfl ?_
   refine jc_ge c1 hm 139 rfl rfl (fun h25 => ?_) (fun h25 => ?_)
   ·
    refine jy_ic c1 hm rfl (by decide) ?_
    exact jx_reti c2 hm rfl rfl ⟨_, rfl, hH0, hF0, by omega, by omega, (by omega)⟩
   refine jy_ic c1 hm rfl (by decide) ?_
   refine jx_goto c1 hm 140 rfl rfl ?_
   exact jx_reti c2 hm rfl rfl ⟨_, rfl, hH0, hF0, by omega, by omega, (by omega)⟩
  refine jy_ic c1 hm rfl (by decide) ?_
  refine jx_goto c1 hm 140 rfl rfl ?_
  exact jx_reti c2 hm rfl rfl ⟨_, rfl, hH0, hF0, by omega, by omega, (by omega)⟩
 by_cases h26 : a0 = 3
 ·
  refine jx_tswI c1 hm 141 rfl ⟨by omega, by omega⟩ (by rw [h26] <;> rfl) rfl ?_
  refine jx_load c1 hm rfl rfl rfl rfl ?_
  refine jx_load c1 hm rfl rfl rfl rfl ?_
  refine jx_load c1 hm rfl rfl rfl rfl ?_
  refine jv_i c3 hm rfl pj_X12_owesOf rfl rfl ⟨_, _, _, rfl, sh_173⟩ rfl ((ct_X12_owesOf_173 X (by omega) M0 hH0 a1 ⟨by omega, by omega⟩ a2 ⟨by omega, by omega⟩).le (by decide)) (fun z27 _ ⟨rfl, lz27, uz27, p28⟩ => ?_)
  refine jx_load c1 hm rfl rfl rfl rfl ?_
  refine jc_ge c1 hm 156 rfl rfl (fun h29 => ?_) (fun h29 => ?_)
  ·
   refine jx_load c1 hm rfl rfl rfl rfl ?_
   refine jx_getr c1 hm rfl sh_173 rfl ?_
   refine jy_bp c1 hm rfl (by decide) ?_
   refine jx_load c1 hm rfl rfl rfl rfl ?_
   refine jy_add c1 hm (a1 + 108) rfl (by omega) ?_
   obtain ⟨z30, k31, lz30, uz30⟩ := hH0.ld (c := 175) (i := ((a1 + 108)).toNat) (A := (-2147483648)) (B := 2147483647) (bs_11_9 _ _ (by omega) (by omega))
   refine jx_iald c1 hm rfl sh_175 ⟨by omega, by omega⟩ k31 ?_
   refine jx_load c1 hm rfl rfl rfl rfl ?_
   refine jc_ge c1 hm 174 rfl rfl (fun h32 => ?_) (fun h32 => ?_)
   ·
    refine jy_ic c1 hm rfl (by decide) ?_
    exact jx_reti c2 hm rfl rfl ⟨_, rfl, hH0, hF0, by omega, by omega, (by omega)⟩
   refine jy_ic c1 hm rfl (by decide) ?_
   refine jx_goto c1 hm 175 rfl rfl ?_
   exact jx_reti c2 hm rfl rfl ⟨_, rfl, hH0, hF0, by omega, by omega, (by omega)⟩
  refine jy_ic c1 hm rfl (by decide) ?_
  refine jx_goto c1 hm 175 rfl rfl ?_
  exact jx_reti c2 hm rfl rfl ⟨_, rfl, hH0, hF0, by omega, by omega, (by omega)⟩
 refine jx_tswO c1 hm 176 rfl (by omega) rfl ?_
 refine jx_load c1 hm rfl rfl rfl rfl ?_
 refine jv_i c3 hm rfl pj_X12_layRing rfl rfl ⟨_, _, _, rfl, sh_173⟩ rfl ((ct_X12_layRing_173 X (by omega) M0 hH0 ).le (by decide)) (fun z33 M37 ⟨hH37, hR37, lz33, uz33, p34, p35, p36⟩ => ?_)
 have hF37 := hF0.tr hR37 (by decide +kernel)
 refine jz_ne c1 hm 187 rfl rfl (fun h38 => ?_) (fun h38 => ?_)
 ·
  refine jy_ic c1 hm rfl (by decide) ?_
  exact jx_reti c2 hm rfl rfl ⟨_, rfl, hH37, hF37, by omega, by omega, (Or.inr (Or.inr (p34.resolve_left (by omega))))⟩
 refine jy_ic c1 hm rfl (by decide) ?_
 refine jx_goto c1 hm 188 rfl rfl ?_
 exact jx_reti c2 hm rfl rfl ⟨_, rfl, hH37, hF37, by omega, by omega, (Or.inr (Or.inl (by omega)))⟩
def md_X12_doForfeit_173 : List (Nat × (Nat × Nat)) := [(175, (102, 107)), (175, (108, 113)), (175, (156, 191)), (175, (228, 233))]
theorem ct_X12_doForfeit_173 (X : Int) (hX : 0 ≤ X ∧ X ≤ 99999999) (M0 : JM) (hH0 : HI X M0) (a0 : Int) (ha0 : 0 ≤ a0 ∧ a0 ≤ 5) (a1 : Int) (ha1 : 0 ≤ a1 ∧ a1 ≤ 5) : JOk shp PJ 4 93 [.inr (.inr (.inl 173)), .inl a0, .inl a1] M0 (jRi (fun v M' => HI (X + 1) M' ∧ Fr md_X12_doForfeit_173 M0 M' ∧ 0 ≤ v ∧ v ≤ 20 )) := by
 refine ⟨jr_X12_doForfeit, pj_X12_doForfeit, fun F c1 c2 c3 => ?_⟩
 have hm := pj_X12_doForfeit
 change F 0 [some (.inr (.inr (.inl 173))), some (.inl a0), some (.inl a1), none] [] M0
 have hF0 : Fr md_X12_doForfeit_173 M0 M0 := Fr.rf _ _
 have hG0 := hH0
 replace hH0 := hH0.mono (by omega) (show X ≤ X + 1 by omega)
 refine jx_load c1 hm rfl rfl rfl rfl ?_
 refine jx_load c1 hm rfl rfl rfl rfl ?_
 refine jx_load c1 hm rfl rfl rfl rfl ?_
 refine jv_i c3 hm rfl pj_X12_costOf rfl rfl ⟨_, _, _, rfl, sh_173⟩ rfl ((ct_X12_costOf_173 (X + 1) (by omega) M0 hH0 a0 ⟨by omega, by omega⟩ a1 ⟨by omega, by omega⟩).le (by decide)) (fun z1 _ ⟨rfl, lz1, uz1, p2⟩ => ?_)
 refine jx_stor c1 hm (L' := [some (.inr (.inr (.inl 173))), some (.inl a0), some (.inl a1), some (.inl z1)]) rfl rfl rfl rfl rfl ?_
 refine jx_load c1 hm rfl rfl rfl rfl ?_
 refine jx_getr c1 hm rfl sh_173 rfl ?_
 refine jy_bp c1 hm rfl (by decide) ?_
 refine jx_load c1 hm rfl rfl rfl rfl ?_
 refine jy_add c1 hm (a0 + 102) rfl (by omega) ?_
 refine jx_dup2 c1 hm rfl rfl rfl ?_
 obtain ⟨z3, k4, lz3, uz3⟩ := hG0.ld (c := 175) (i := ((a0 + 102)).toNat) (A := (-20) * X) (B := 99) (bs_11_8 _ _ (by omega) (by omega))
 have k5 : M0.1 175 ((a0 + 102)).toNat = z3 := k4
 refine jx_iald c1 hm rfl sh_175 ⟨by omega, by omega⟩ k5 ?_
 refine jx_load c1 hm rfl rfl rfl rfl ?_
 refine jy_sub c1 hm (-z1 + z3) rfl (by omega) ?_
 obtain ⟨M6, e6, hH6, hF6, k6, n6, q6⟩ := mup hH0 hF0 (c := 175) (i := ((a0 + 102)).toNat) (v := (-z1 + z3)) (A := (-20) * (X + 1)) (B := 99) (bs_11_8 _ _ (by omega) (by omega)) ⟨by omega, by omega⟩ (jin_of 0 rfl ⟨by omega, by omega⟩)
 refine jm_iast c1 hm rfl sh_175 ⟨by omega, by omega⟩ e6 ?_
 refine jx_load c1 hm rfl rfl rfl rfl ?_
 refine jx_getr c1 hm rfl sh_173 rfl ?_
 refine jy_bp c1 hm rfl (by decide) ?_
 refine jx_load c1 hm rfl rfl rfl rfl ?_
 refine jy_add c1 hm (a0 + 108) rfl (by omega) ?_
 refine jx_dup2 c1 hm rfl rfl rfl ?_
 obtain ⟨z7, k8, lz7, uz7⟩ := hG0.ld (c := 175) (i := ((a0 + 108)).toNat) (A := (-2147483648)) (B := 2147483647) (bs_11_9 _ _ (by omega) (by omega))
 have k9 : M6.1 175 ((a0 + 108)).toNat = z7 := (n6 175 ((a0 + 108)).toNat (by omega)).trans k8
 refine jx_iald c1 hm rfl sh_175 ⟨by omega, by omega⟩ k9 ?_
 refine jx_load c1 hm rfl rfl rfl rfl ?_
 refine jx_iopw c1 hm rfl rfl (fun z10 lz10 uz10 => ?_)
 obtain ⟨M11, e11, hH11, hF11, k11, n11, q11⟩ := mup hH6 hF6 (c := 175) (i := ((a0 + 108)).toNat) (v := z10) (A := (-2147483648)) (B := 2147483647) (bs_11_9 _ _ (by omega) (by omega)) ⟨by omega, by omega⟩ (jin_of 1 rfl ⟨by omega, by omega⟩)
 refine jm_iast c1 hm rfl sh_175 ⟨by omega, by omega⟩ e11 ?_
 refine jx_load c1 hm rfl rfl rfl rfl ?_
 refine jx_getr c1 hm rfl sh_173 rfl ?_
 refine jy_sp c1 hm rfl (by decide) ?_
 refine jx_load c1 hm rfl rfl rfl rfl ?_
 refine jy_add c1 hm (a0 + 228) rfl (by omega) ?_
 refine jx_dup2 c1 hm rfl rfl rfl ?_
 obtain ⟨z12, k13, lz12, uz12⟩ := hG0.ld (c := 175) (i := ((a0 + 228)).toNat) (A := (-2147483648)) (B := 2147483647) (bs_11_11 _ _ (by omega) (by omega))
 have k14 : M11.1 175 ((a0 + 228)).toNat = z12 := (n11 175 ((a0 + 228)).toNat (by omega)).trans ((n6 175 ((a0 + 228)).toNat (by omega)).trans k13)
 refine jx_iald c1 hm rfl sh_175 ⟨by omega, by omega⟩ k14 ?_
 refine jx_load c1 hm rfl rfl rfl rfl ?_
 refine jx_iopw c1 hm rfl rfl (fun z15 lz15 uz15 => ?_)
 obtain ⟨M16, e16, hH16, hF16, k16, n16, q16⟩ := mup hH11 hF11 (c := 175) (i := ((a0 + 228)).toNat) (v := z15) (A := (-2147483648)) (B := 2147483647) (bs_11_11 _ _ (by omega) (by omega)) ⟨by omega, by omega⟩ (jin_of 3 rfl ⟨by omega, by omega⟩)
 refine jm_iast c1 hm rfl sh_175 ⟨by omega, by omega⟩ e16 ?_
 refine jx_load c1 hm rfl rfl rfl rfl ?_
 refine jx_getr c1 hm rfl sh_173 rfl ?_
 refine jy_sp c1 hm rfl (by decide) ?_
 refine jy_bp c1 hm rfl (by decide) ?_
 refine jx_load c1 hm rfl rfl rfl rfl ?_
 refine jy_mul c1 hm (6 * a0) rfl (by omega) ?_
 refine jy_add c1 hm (6 * a0 + 156) rfl (by omega) ?_
 refine jx_load c1 hm rfl rfl rfl rfl ?_
 refine jy_add c1 hm (6 * a0 + a1 + 156) rfl (by omega) ?_
 refine jx_dup2 c1 hm rfl rfl rfl ?_
 obtain ⟨z17, k18, lz17, uz17⟩ := hG0.ld (c := 175) (i := ((6 * a0 + a1 + 156)).toNat) (A := 0) (B := 1 * X) (bs_11_10 _ _ (by omega) (by omega))
 have k19 : M16.1 175 ((6 * a0 + a1 + 156)).toNat = z17 := (n16 175 ((6 * a0 + a1 + 156)).toNat (by omega)).trans ((n11 175 ((6 * a0 + a1 + 156)).toNat (by omega)).trans ((n6 175 ((6 * a0 + a1 + 156)).toNat (by omega)).trans k18))
 refine jx_iald c1 hm rfl sh_175 ⟨by omega, by omega⟩ k19 ?_
 refine jy_ic c1 hm rfl (by decide) ?_
 refine jy_add c1 hm (z17 + 1) rfl (by omega) ?_
 obtain ⟨M20, e20, hH20, hF20, k20, n20, q20⟩ := mup hH16 hF16 (c := 175) (i := ((6 * a0 + a1 + 156)).toNat) (v := (z17 + 1)) (A := 0) (B := 1 * (X + 1)) (bs_11_10 _ _ (by omega) (by omega)) ⟨by omega, by omega⟩ (jin_of 2 rfl ⟨by omega, by omega⟩)
 refine jm_iast c1 hm rfl sh_175 ⟨by omega, by omega⟩ e20 ?_
 refine jx_load c1 hm rfl rfl rfl rfl ?_
 exact jx_reti c2 hm rfl rfl ⟨_, rfl, hH20, hF20, by omega, by omega⟩
def md_X12_forfeit_173 : List (Nat × (Nat × Nat)) := [(173, (0, 0)), (173, (23, 23)), (175, (102, 107)), (175, (108, 113)), (175, (156, 191)), (175, (228, 233)), (178, (0, 1063)), (184, (0, 5))]
theorem ct_X12_forfeit_173 (X : Int) (hX : 0 ≤ X ∧ X ≤ 99999999) (M0 : JM) (hH0 : HI X M0) (a0 : Int) (ha0 : (-2147483648) ≤ a0 ∧ a0 ≤ 2147483647) (a1 : Int) (ha1 : (-2147483648) ≤ a1 ∧ a1 ≤ 2147483647) : JOk shp PJ 11 106 [.inr (.inr (.inl 173)), .inl a0, .inl a1] M0 (jRi (fun v M' => HI (X + 1) M' ∧ Fr md_X12_forfeit_173 M0 M' ∧ (-3) ≤ v ∧ v ≤ 20 )) := by
 refine ⟨jr_X12_forfeit, pj_X12_forfeit, fun F c1 c2 c3 => ?_⟩
 have hm := pj_X12_forfeit
 change F 0 [some (.inr (.inr (.inl 173))), some (.inl a0), some (.inl a1), none] [] M0
 have hF0 : Fr md_X12_forfeit_173 M0 M0 := Fr.rf _ _
 refine jx_load c1 hm rfl rfl rfl rfl ?_
 refine jy_ic c1 hm rfl (by decide) ?_
 obtain ⟨M1, e1, hH1, hF1, k1, n1, q1⟩ := mup hH0 hF0 (c := 173) (i := 0) (v := 0) (A := (-2147483648)) (B := 2147483647) (bs_28_0 _ _ (by omega) (by omega)) ⟨by omega, by omega⟩ (jin_of 0 rfl ⟨by omega, by omega⟩)
 refine jm_puti c1 hm rfl sh_173 rfl e1 ?_
 refine jx_load c1 hm rfl rfl rfl rfl ?_
 refine jx_load c1 hm rfl rfl rfl rfl ?_
 refine jv_i c3 hm rfl pj_X12_isMan rfl rfl ⟨_, _, _, rfl, sh_173⟩ rfl ((ct_X12_isMan_173 X (by omega) M1 hH1 a0 ⟨by omega, by omega⟩).le (by decide)) (fun z2 _ ⟨rfl, lz2, uz2, p3⟩ => ?_)
 refine jz_eq c1 hm 21 rfl rfl (fun h4 => ?_) (fun h4 => ?_)
 ·
  refine jy_ic c1 hm rfl (by decide) ?_
  exact jx_reti c2 hm rfl rfl ⟨_, rfl, (hH1.mono (by omega) (by omega)), hF1, by omega, by omega⟩
 refine jx_load c1 hm rfl rfl rfl rfl ?_
 refine jx_load c1 hm rfl rfl rfl rfl ?_
 refine jv_i c3 hm rfl pj_X12_isForfeit rfl rfl ⟨_, _, _, rfl, sh_173⟩ rfl ((ct_X12_isForfeit_173 X (by omega) M1 hH1 a1 ⟨by omega, by omega⟩).le (by decide)) (fun z5 _ ⟨rfl, lz5, uz5, p6⟩ => ?_)
 refine jz_ne c1 hm 23 rfl rfl (fun h7 => ?_) (fun h7 => ?_)
 ·
  refine jx_load c1 hm rfl rfl rfl rfl ?_
  refine jy_ic c1 hm rfl (by decide) ?_
  refine jx_load c1 hm rfl rfl rfl rfl ?_
  refine jx_load c1 hm rfl rfl rfl rfl ?_
  refine jy_ic c1 hm rfl (by decide) ?_
  refine jv_i c3 hm rfl pj_X12_why rfl rfl ⟨_, _, _, rfl, sh_173⟩ rfl ((ct_X12_why_173 X (by omega) M1 hH1 0 ⟨by omega, by omega⟩ a0 ⟨by omega, by omega⟩ a1 ⟨by omega, by omega⟩ 0 ⟨by omega, by omega⟩).le (by decide)) (fun z8 M10 ⟨hH10, hR10, lz8, uz8, p9⟩ => ?_)
  have hF10 := hF1.tr hR10 (by decide +kernel)
  refine jx_stor c1 hm (L' := [some (.inr (.inr (.inl 173))), some (.inl a0), some (.inl a1), some (.inl z8)]) rfl rfl rfl rfl rfl ?_
  refine jx_load c1 hm rfl rfl rfl rfl ?_
  refine jz_eq c1 hm 40 rfl rfl (fun h11 => ?_) (fun h11 => ?_)
  ·
   refine jx_load c1 hm rfl rfl rfl rfl ?_
   refine jv_v c3 hm rfl pj_X12_snap rfl rfl ⟨_, _, _, rfl, sh_173⟩ rfl ((ct_X12_snap_173 X (by omega) M10 hH10 ).le (by decide)) (fun M12 ⟨hH12, hR12⟩ => ?_)
   have hF12 := hF10.tr hR12 (by decide +kernel)
   refine jx_load c1 hm rfl rfl rfl rfl ?_
   refine jx_load c1 hm rfl rfl rfl rfl ?_
   refine jx_load c1 hm rfl rfl rfl rfl ?_
   refine jv_i c3 hm rfl pj_X12_doForfeit rfl rfl ⟨_, _, _, rfl, sh_173⟩ rfl ((ct_X12_doForfeit_173 X (by omega) M12 hH12 a0 ⟨by omega, by omega⟩ a1 ⟨by omega, by omega⟩).le (by decide)) (fun z13 M14 ⟨hH14, hR14, lz13, uz13⟩ => ?_)
   have hF14 := hF12.tr hR14 (by decide +kernel)
   exact jx_reti c2 hm rfl rfl ⟨_, rfl, hH14, hF14, by omega, by omega⟩
  refine jy_ic c1 hm rfl (by decide) ?_
  refine jx_load c1 hm rfl rfl rfl rfl ?_
  refine jy_sub c1 hm (-z8 - 1) rfl (by omega) ?_
  exact jx_reti c2 hm rfl rfl ⟨_, rfl, (hH10.mono (by omega) (by omega)), hF10, by omega, by omega⟩
 refine jy_ic c1 hm rfl (by decide) ?_
 exact jx_reti c2 hm rfl rfl ⟨_, rfl, (hH1.mono (by omega) (by omega)), hF1, by omega, by omega⟩
def md_X12_doPay_173 : List (Nat × (Nat × Nat)) := [(175, (108, 113))]
theorem ct_X12_doPay_173 (X : Int) (hX : 0 ≤ X ∧ X ≤ 100000000) (M0 : JM) (hH0 : HI X M0) (a0 : Int) (ha0 : 0 ≤ a0 ∧ a0 ≤ 5) (a1 : Int) (ha1 : 0 ≤ a1 ∧ a1 ≤ 5) (a2 : Int) (ha2 : (-2147483648) ≤ a2 ∧ a2 ≤ 2147483647) : JOk shp PJ 1 94 [.inr (.inr (.inl 173)), .inl a0, .inl a1, .inl a2] M0 (jRv (fun M' => HI X M' ∧ Fr md_X12_doPay_173 M0 M' )) := by
 refine ⟨jr_X12_doPay, pj_X12_doPay, fun F c1 c2 c3 => ?_⟩
 have hm := pj_X12_doPay
 change F 0 [some (.inr (.inr (.inl 173))), some (.inl a0), some (.inl a1), some (.inl a2)] [] M0
 have hF0 : Fr md_X12_doPay_173 M0 M0 := Fr.rf _ _
 refine jx_load c1 hm rfl rfl rfl rfl ?_
 refine jx_getr c1 hm rfl sh_173 rfl ?_
 refine jy_bp c1 hm rfl (by decide) ?_
 refine jx_load c1 hm rfl rfl rfl rfl ?_
 refine jy_add c1 hm (a0 + 108) rfl (by omega) ?_
 refine jx_dup2 c1 hm rfl rfl rfl ?_
 obtain ⟨z1, k2, lz1, uz1⟩ := hH0.ld (c := 175) (i := ((a0 + 108)).toNat) (A := (-2147483648)) (B := 2147483647) (bs_11_9 _ _ (by omega) (by omega))
 refine jx_iald c1 hm rfl sh_175 ⟨by omega, by omega⟩ k2 ?_
 refine jx_load c1 hm rfl rfl rfl rfl ?_
 refine jx_iopw c1 hm rfl rfl (fun z3 lz3 uz3 => ?_)
 obtain ⟨M4, e4, hH4, hF4, k4, n4, q4⟩ := mup hH0 hF0 (c := 175) (i := ((a0 + 108)).toNat) (v := z3) (A := (-2147483648)) (B := 2147483647) (bs_11_9 _ _ (by omega) (by omega)) ⟨by omega, by omega⟩ (jin_of 0 rfl ⟨by omega, by omega⟩)
 refine jm_iast c1 hm rfl sh_175 ⟨by omega, by omega⟩ e4 ?_
 refine jx_load c1 hm rfl rfl rfl rfl ?_
 refine jx_getr c1 hm rfl sh_173 rfl ?_
 refine jy_bp c1 hm rfl (by decide) ?_
 refine jx_load c1 hm rfl rfl rfl rfl ?_
 refine jy_add c1 hm (a1 + 108) rfl (by omega) ?_
 refine jx_dup2 c1 hm rfl rfl rfl ?_
 obtain ⟨z5, k6, lz5, uz5⟩ := hH4.ld (c := 175) (i := ((a1 + 108)).toNat) (A := (-2147483648)) (B := 2147483647) (bs_11_9 _ _ (by omega) (by omega))
 refine jx_iald c1 hm rfl sh_175 ⟨by omega, by omega⟩ k6 ?_
 refine jx_load c1 hm rfl rfl rfl rfl ?_
 refine jx_iopw c1 hm rfl rfl (fun z7 lz7 uz7 => ?_)
 obtain ⟨M8, e8, hH8, hF8, k8, n8, q8⟩ := mup hH4 hF4 (c := 175) (i := ((a1 + 108)).toNat) (v := z7) (A := (-2147483648)) (B := 2147483647) (bs_11_9 _ _ (by omega) (by omega)) ⟨by omega, by omega⟩ (jin_of 0 rfl ⟨by omega, by omega⟩)
 refine jm_iast c1 hm rfl sh_175 ⟨by omega, by omega⟩ e8 ?_
 exact jx_retv c2 hm rfl rfl ⟨rfl, hH8, hF8⟩
def md_X12_live_173 : List (Nat × (Nat × Nat)) := [(175, (102, 107)), (175, (108, 113)), (175, (114, 119)), (175, (120, 155)), (175, (156, 191)), (175, (192, 227)), (175, (228, 233)), (184, (0, 5))]
theorem ct_X12_live_173 (X : Int) (hX : 0 ≤ X ∧ X ≤ 99999999) (M0 : JM) (hH0 : HI X M0) (a0 : Int) (ha0 : 0 ≤ a0 ∧ a0 ≤ 4) (a1 : Int) (ha1 : 0 ≤ a1 ∧ a1 ≤ 5) (a2 : Int) (ha2 : 0 ≤ a2 ∧ a2 ≤ 5) (a3 : Int) (ha3 : 0 ≤ a3 ∧ a3 ≤ 99) (hp0 : a0 ≠ 4 ∨ RNG M0) : JOk shp PJ 11 134 [.inr (.inr (.inl 173)), .inl a0, .inl a1, .inl a2, .inl a3] M0 (jRv (fun M' => HI (X + 1) M' ∧ Fr md_X12_live_173 M0 M' )) := by
 refine ⟨jr_X12_live, pj_X12_live, fun F c1 c2 c3 => ?_⟩
 have hm := pj_X12_live
 change F 0 [some (.inr (.inr (.inl 173))), some (.inl a0), some (.inl a1), some (.inl a2), some (.inl a3)] [] M0
 have hF0 : Fr md_X12_live_173 M0 M0 := Fr.rf _ _
 refine jx_load c1 hm rfl rfl rfl rfl ?_
 by_cases h1 : a0 = 0
 ·
  refine jx_tswI c1 hm 32 rfl ⟨by omega, by omega⟩ (by rw [h1] <;> rfl) rfl ?_
  refine jx_load c1 hm rfl rfl rfl rfl ?_
  refine jx_load c1 hm rfl rfl rfl rfl ?_
  refine jx_load c1 hm rfl rfl rfl rfl ?_
  refine jv_i c3 hm rfl pj_X12_doForfeit rfl rfl ⟨_, _, _, rfl, sh_173⟩ rfl ((ct_X12_doForfeit_173 X (by omega) M0 hH0 a1 ⟨by omega, by omega⟩ a2 ⟨by omega, by omega⟩).le (by decide)) (fun z2 M3 ⟨hH3, hR3, lz2, uz2⟩ => ?_)
  have hF3 := hF0.tr hR3 (by decide +kernel)
  refine jx_pop c1 hm rfl rfl ?_
  exact jx_retv c2 hm rfl rfl ⟨rfl, hH3, hF3⟩
 by_cases h4 : a0 = 1
 ·
  refine jx_tswI c1 hm 40 rfl ⟨by omega, by omega⟩ (by rw [h4] <;> rfl) rfl ?_
  refine jx_load c1 hm rfl rfl rfl rfl ?_
  refine jx_getr c1 hm rfl sh_173 rfl ?_
  refine jy_bp c1 hm rfl (by decide) ?_
  refine jx_load c1 hm rfl rfl rfl rfl ?_
  refine jy_add c1 hm (a1 + 108) rfl (by omega) ?_
  refine jx_dup2 c1 hm rfl rfl rfl ?_
  obtain ⟨z5, k6, lz5, uz5⟩ := hH0.ld (c := 175) (i := ((a1 + 108)).toNat) (A := (-2147483648)) (B := 2147483647) (bs_11_9 _ _ (by omega) (by omega))
  refine jx_iald c1 hm rfl sh_175 ⟨by omega, by omega⟩ k6 ?_
  refine jx_load c1 hm rfl rfl rfl rfl ?_
  refine jx_getr c1 hm rfl sh_173 rfl ?_
  refine jy_bp c1 hm rfl (by decide) ?_
  refine jx_load c1 hm rfl rfl rfl rfl ?_
  refine jy_add c1 hm (a2 + 53) rfl (by omega) ?_
  obtain ⟨z7, k8, lz7, uz7⟩ := hH0.ld (c := 175) (i := ((a2 + 53)).toNat) (A := 0) (B := 99) (bs_11_5 _ _ (by omega) (by omega))
  refine jx_iald c1 hm rfl sh_175 ⟨by omega, by omega⟩ k8 ?_
  refine jx_iopw c1 hm rfl rfl (fun z9 lz9 uz9 => ?_)
  obtain ⟨M10, e10, hH10, hF10, k10, n10, q10⟩ := mup hH0 hF0 (c := 175) (i := ((a1 + 108)).toNat) (v := z9) (A := (-2147483648)) (B := 2147483647) (bs_11_9 _ _ (by omega) (by omega)) ⟨by omega, by omega⟩ (jin_of 1 rfl ⟨by omega, by omega⟩)
  refine jm_iast c1 hm rfl sh_175 ⟨by omega, by omega⟩ e10 ?_
  refine jx_load c1 hm rfl rfl rfl rfl ?_
  refine jx_getr c1 hm rfl sh_173 rfl ?_
  refine jy_bp c1 hm rfl (by decide) ?_
  refine jx_load c1 hm rfl rfl rfl rfl ?_
  refine jy_add c1 hm (a2 + 114) rfl (by omega) ?_
  refine jx_dup2 c1 hm rfl rfl rfl ?_
  obtain ⟨z11, k12, lz11, uz11⟩ := hH10.ld (c := 175) (i := ((a2 + 114)).toNat) (A := (-2147483648)) (B := 2147483647) (bs_11_9 _ _ (by omega) (by omega))
  refine jx_iald c1 hm rfl sh_175 ⟨by omega, by omega⟩ k12 ?_
  refine jy_ic c1 hm rfl (by decide) ?_
  refine jx_iopw c1 hm rfl rfl (fun z13 lz13 uz13 => ?_)
  obtain ⟨M14, e14, hH14, hF14, k14, n14, q14⟩ := mup hH10 hF10 (c := 175) (i := ((a2 + 114)).toNat) (v := z13) (A := (-2147483648)) (B := 2147483647) (bs_11_9 _ _ (by omega) (by omega)) ⟨by omega, by omega⟩ (jin_of 2 rfl ⟨by omega, by omega⟩)
  refine jm_iast c1 hm rfl sh_175 ⟨by omega, by omega⟩ e14 ?_
  refine jx_load c1 hm rfl rfl rfl rfl ?_
  refine jx_getr c1 hm rfl sh_173 rfl ?_
  refine jy_sp c1 hm rfl (by decide) ?_
  refine jy_bp c1 hm rfl (by decide) ?_
  refine jx_load c1 hm rfl rfl rfl rfl ?_
  refine jy_mul c1 hm (6 * a1) rfl (by omega) ?_
  refine jy_add c1 hm (6 * a1 + 192) rfl (by omega) ?_
  refine jx_load c1 hm rfl rfl rfl rfl ?_
  refine jy_add c1 hm (6 * a1 + a2 + 192) rfl (by omega) ?_
  refine jx_dup2 c1 hm rfl rfl rfl ?_
  obtain ⟨z15, k16, lz15, uz15⟩ := hH14.ld (c := 175) (i := ((6 * a1 + a2 + 192)).toNat) (A := (-2147483648)) (B := 2147483647) (bs_11_11 _ _ (by omega) (by omega))
  refine jx_iald c1 hm rfl sh_175 ⟨by omega, by omega⟩ k16 ?_
  refine jy_ic c1 hm rfl (by decide) ?_
  refine jx_iopw c1 hm rfl rfl (fun z17 lz17 uz17 => ?_)
  obtain ⟨M18, e18, hH18, hF18, k18, n18, q18⟩ := mup hH14 hF14 (c := 175) (i := ((6 * a1 + a2 + 192)).toNat) (v := z17) (A := (-2147483648)) (B := 2147483647) (bs_11_11 _ _ (by omega) (by omega)) ⟨by omega, by omega⟩ (jin_of 5 rfl ⟨by omega, by omega⟩)
  refine jm_iast c1 hm rfl sh_175 ⟨by omega, by omega⟩ e18 ?_
  exact jx_retv c2 hm rfl rfl ⟨rfl, (hH18.mono (by omega) (by omega)), hF18⟩
 by_cases h19 : a0 = 2
 ·
  refine jx_tswI c1 hm 94 rfl ⟨by omega, by omega⟩ (by rw [h19] <;> rfl) rfl ?_
  refine jx_load c1 hm rfl rfl rfl rfl ?_
  refine jx_load c1 hm rfl rfl rfl rfl ?_
  refine jx_load c1 hm rfl rfl rfl rfl ?_
  refine jx_load c1 hm rfl rfl rfl rfl ?_
  refine jv_v c3 hm rfl pj_X12_doPay rfl rfl ⟨_, _, _, rfl, sh_173⟩ rfl ((ct_X12_doPay_173 X (by omega) M0 hH0 a1 ⟨by omega, by omega⟩ a2 ⟨by omega, by omega⟩ a3 ⟨by omega, by omega⟩).le (by decide)) (fun M20 ⟨hH20, hR20⟩ => ?_)
  have hF20 := hF0.tr hR20 (by decide +kernel)
  refine jx_load c1 hm rfl rfl rfl rfl ?_
  refine jx_getr c1 hm rfl sh_173 rfl ?_
  refine jy_bp c1 hm rfl (by decide) ?_
  refine jy_bp c1 hm rfl (by decide) ?_
  refine jx_load c1 hm rfl rfl rfl rfl ?_
  refine jy_mul c1 hm (6 * a2) rfl (by omega) ?_
  refine jy_add c1 hm (6 * a2 + 120) rfl (by omega) ?_
  refine jx_load c1 hm rfl rfl rfl rfl ?_
  refine jy_add c1 hm (a1 + 6 * a2 + 120) rfl (by omega) ?_
  refine jx_dup2 c1 hm rfl rfl rfl ?_
  obtain ⟨z21, k22, lz21, uz21⟩ := hH20.ld (c := 175) (i := ((a1 + 6 * a2 + 120)).toNat) (A := (-2147483648)) (B := 2147483647) (bs_11_9 _ _ (by omega) (by omega))
  refine jx_iald c1 hm rfl sh_175 ⟨by omega, by omega⟩ k22 ?_
  refine jx_load c1 hm rfl rfl rfl rfl ?_
  refine jx_iopw c1 hm rfl rfl (fun z23 lz23 uz23 => ?_)
  obtain ⟨M24, e24, hH24, hF24, k24, n24, q24⟩ := mup hH20 hF20 (c := 175) (i := ((a1 + 6 * a2 + 120)).toNat) (v := z23) (A := (-2147483648)) (B := 2147483647) (bs_11_9 _ _ (by omega) (by omega)) ⟨by omega, by omega⟩ (jin_of 3 rfl ⟨by omega, by omega⟩)
  refine jm_iast c1 hm rfl sh_175 ⟨by omega, by omega⟩ e24 ?_
  exact jx_retv c2 hm rfl rfl ⟨rfl, (hH24.mono (by omega) (by omega)), hF24⟩
 by_cases h25 : a0 = 3
 ·
  refine jx_tswI c1 hm 122 rfl ⟨by omega, by omega⟩ (by rw [h25] <;> rfl) rfl ?_
  refine jx_load c1 hm rfl rfl rfl rfl ?_
  refine jx_load c1 hm rfl rfl rfl rfl ?_
  refine jx_load c1 hm rfl rfl rfl rfl ?_
  refine jx_load c1 hm rfl rfl rfl rfl ?_
  refine jv_v c3 hm rfl pj_X12_doPay rfl rfl ⟨_, _, _, rfl, sh_173⟩ rfl ((ct_X12_doPay_173 X (by omega) M0 hH0 a1 ⟨by omega, by omega⟩ a2 ⟨by omega, by omega⟩ a3 ⟨by omega, by omega⟩).le (by decide)) (fun M26 ⟨hH26, hR26⟩ => ?_)
  have hF26 := hF0.tr hR26 (by decide +kernel)
  refine jx_load c1 hm rfl rfl rfl rfl ?_
  refine jx_getr c1 hm rfl sh_173 rfl ?_
  refine jy_bp c1 hm rfl (by decide) ?_
  refine jy_bp c1 hm rfl (by decide) ?_
  refine jx_load c1 hm rfl rfl rfl rfl ?_
  refine jy_mul c1 hm (6 * a1) rfl (by omega) ?_
  refine jy_add c1 hm (6 * a1 + 120) rfl (by omega) ?_
  refine jx_load c1 hm rfl rfl rfl rfl ?_
  refine jy_add c1 hm (6 * a1 + a2 + 120) rfl (by omega) ?_
  refine jx_dup2 c1 hm rfl rfl rfl ?_
  obtain ⟨z27, k28, lz27, uz27⟩ := hH26.ld (c := 175) (i := ((6 * a1 + a2 + 120)).toNat) (A := (-2147483648)) (B := 2147483647) (bs_11_9 _ _ (by omega) (by omega))
  refine jx_iald c1 hm rfl sh_175 ⟨by omega, by omega⟩ k28 ?_
  refine jx_load c1 hm rfl rfl rfl rfl ?_
  refine jx_iopw c1 hm rfl rfl (fun z29 lz29 uz29 => ?_)
  obtain ⟨M30, e30, hH30, hF30, k30, n30, q30⟩ := mup hH26 hF26 (c := 175) (i := ((6 * a1 + a2 + 120)).toNat) (v := z29) (A := (-2147483648)) (B := 2147483647) (bs_11_9 _ _ (by omega) (by omega)) ⟨by omega, by omega⟩ (jin_of 3 rfl ⟨by omega, by omega⟩)
  refine jm_iast c1 hm rfl sh_175 ⟨by omega, by omega⟩ e30 ?_
  exact jx_retv c2 hm rfl rfl ⟨rfl, (hH30.mono (by omega) (by omega)), hF30⟩
 refine jx_tswO c1 hm 150 rfl (by omega) rfl ?_
 refine jx_load c1 hm rfl rfl rfl rfl ?_
 refine jv_i c3 hm rfl pj_X12_doStrike rfl rfl ⟨_, _, _, rfl, sh_173⟩ rfl ((ct_X12_doStrike_173 X (by omega) M0 hH0 (hp0.resolve_left (by omega))).le (by decide)) (fun z31 M32 ⟨hH32, hR32, lz31, uz31⟩ => ?_)
 have hF32 := hF0.tr hR32 (by decide +kernel)
 refine jx_pop c1 hm rfl rfl ?_
 exact jx_retv c2 hm rfl rfl ⟨rfl, (hH32.mono (by omega) (by omega)), hF32⟩
def md_X12_act_173 : List (Nat × (Nat × Nat)) := [(173, (23, 23)), (175, (102, 107)), (175, (108, 113)), (175, (114, 119)), (175, (120, 155)), (175, (156, 191)), (175, (192, 227)), (175, (228, 233)), (178, (0, 1063)), (184, (0, 5))]
theorem ct_X12_act_173 (X : Int) (hX : 0 ≤ X ∧ X ≤ 99999999) (M0 : JM) (hH0 : HI X M0) (a0 : Int) (ha0 : 1 ≤ a0 ∧ a0 ≤ 3) (a1 : Int) (ha1 : 0 ≤ a1 ∧ a1 ≤ 5) (a2 : Int) (ha2 : 0 ≤ a2 ∧ a2 ≤ 5) (a3 : Int) (ha3 : 0 ≤ a3 ∧ a3 ≤ 99) : JOk shp PJ 12 80 [.inr (.inr (.inl 173)), .inl a0, .inl a1, .inl a2, .inl a3] M0 (jRi (fun v M' => HI (X + 1) M' ∧ Fr md_X12_act_173 M0 M' ∧ 0 ≤ v ∧ v ≤ 2 )) := by
 refine ⟨jr_X12_act, pj_X12_act, fun F c1 c2 c3 => ?_⟩
 have hm := pj_X12_act
 change F 0 [some (.inr (.inr (.inl 173))), some (.inl a0), some (.inl a1), some (.inl a2), some (.inl a3), none] [] M0
 have hF0 : Fr md_X12_act_173 M0 M0 := Fr.rf _ _
 refine jx_load c1 hm rfl rfl rfl rfl ?_
 refine jx_load c1 hm rfl rfl rfl rfl ?_
 refine jx_load c1 hm rfl rfl rfl rfl ?_
 refine jx_load c1 hm rfl rfl rfl rfl ?_
 refine jx_load c1 hm rfl rfl rfl rfl ?_
 refine jv_i c3 hm rfl pj_X12_why rfl rfl ⟨_, _, _, rfl, sh_173⟩ rfl ((ct_X12_why_173 X (by omega) M0 hH0 a0 ⟨by omega, by omega⟩ a1 ⟨by omega, by omega⟩ a2 ⟨by omega, by omega⟩ a3 ⟨by omega, by omega⟩).le (by decide)) (fun z1 M3 ⟨hH3, hR3, lz1, uz1, p2⟩ => ?_)
 have hF3 := hF0.tr hR3 (by decide +kernel)
 refine jx_stor c1 hm (L' := [some (.inr (.inr (.inl 173))), some (.inl a0), some (.inl a1), some (.inl a2), some (.inl a3), some (.inl z1)]) rfl rfl rfl rfl rfl ?_
 refine jx_load c1 hm rfl rfl rfl rfl ?_
 refine jz_eq c1 hm 19 rfl rfl (fun h4 => ?_) (fun h4 => ?_)
 ·
  refine jx_load c1 hm rfl rfl rfl rfl ?_
  refine jv_v c3 hm rfl pj_X12_snap rfl rfl ⟨_, _, _, rfl, sh_173⟩ rfl ((ct_X12_snap_173 X (by omega) M3 hH3 ).le (by decide)) (fun M5 ⟨hH5, hR5⟩ => ?_)
  have hF5 := hF3.tr hR5 (by decide +kernel)
  refine jx_load c1 hm rfl rfl rfl rfl ?_
  refine jx_load c1 hm rfl rfl rfl rfl ?_
  refine jx_load c1 hm rfl rfl rfl rfl ?_
  refine jx_load c1 hm rfl rfl rfl rfl ?_
  refine jx_load c1 hm rfl rfl rfl rfl ?_
  refine jv_v c3 hm rfl pj_X12_live rfl rfl ⟨_, _, _, rfl, sh_173⟩ rfl ((ct_X12_live_173 X (by omega) M5 hH5 a0 ⟨by omega, by omega⟩ a1 ⟨by omega, by omega⟩ a2 ⟨by omega, by omega⟩ a3 ⟨by omega, by omega⟩ (by omega)).le (by decide)) (fun M6 ⟨hH6, hR6⟩ => ?_)
  have hF6 := hF5.tr hR6 (by decide +kernel)
  refine jy_ic c1 hm rfl (by decide) ?_
  exact jx_reti c2 hm rfl rfl ⟨_, rfl, hH6, hF6, by omega, by omega⟩
 refine jx_load c1 hm rfl rfl rfl rfl ?_
 exact jx_reti c2 hm rfl rfl ⟨_, rfl, (hH3.mono (by omega) (by omega)), hF3, by omega, by omega⟩
def md_X12_buy_173 : List (Nat × (Nat × Nat)) := [(173, (0, 0)), (173, (23, 23)), (175, (102, 107)), (175, (108, 113)), (175, (114, 119)), (175, (120, 155)), (175, (156, 191)), (175, (192, 227)), (175, (228, 233)), (178, (0, 1063)), (184, (0, 5))]
theorem ct_X12_buy_173 (X : Int) (hX : 0 ≤ X ∧ X ≤ 99999999) (M0 : JM) (hH0 : HI X M0) (a0 : Int) (ha0 : (-2147483648) ≤ a0 ∧ a0 ≤ 2147483647) (a1 : Int) (ha1 : (-2147483648) ≤ a1 ∧ a1 ≤ 2147483647) : JOk shp PJ 13 85 [.inr (.inr (.inl 173)), .inl a0, .inl a1] M0 (jRi (fun v M' => HI (X + 1) M' ∧ Fr md_X12_buy_173 M0 M' ∧ (-1) ≤ v ∧ v ≤ 2 )) := by
 refine ⟨jr_X12_buy, pj_X12_buy, fun F c1 c2 c3 => ?_⟩
 have hm := pj_X12_buy
 change F 0 [some (.inr (.inr (.inl 173))), some (.inl a0), some (.inl a1)] [] M0
 have hF0 : Fr md_X12_buy_173 M0 M0 := Fr.rf _ _
 refine jx_load c1 hm rfl rfl rfl rfl ?_
 refine jy_ic c1 hm rfl (by decide) ?_
 obtain ⟨M1, e1, hH1, hF1, k1, n1, q1⟩ := mup hH0 hF0 (c := 173) (i := 0) (v := 0) (A := (-2147483648)) (B := 2147483647) (bs_28_0 _ _ (by omega) (by omega)) ⟨by omega, by omega⟩ (jin_of 0 rfl ⟨by omega, by omega⟩)
 refine jm_puti c1 hm rfl sh_173 rfl e1 ?_
 refine jx_load c1 hm rfl rfl rfl rfl ?_
 refine jx_load c1 hm rfl rfl rfl rfl ?_
 refine jv_i c3 hm rfl pj_X12_isMan rfl rfl ⟨_, _, _, rfl, sh_173⟩ rfl ((ct_X12_isMan_173 X (by omega) M1 hH1 a0 ⟨by omega, by omega⟩).le (by decide)) (fun z2 _ ⟨rfl, lz2, uz2, p3⟩ => ?_)
 refine jz_eq c1 hm 32 rfl rfl (fun h4 => ?_) (fun h4 => ?_)
 ·
  refine jy_ic c1 hm rfl (by decide) ?_
  exact jx_reti c2 hm rfl rfl ⟨_, rfl, (hH1.mono (by omega) (by omega)), hF1, by omega, by omega⟩
 refine jx_load c1 hm rfl rfl rfl rfl ?_
 refine jx_load c1 hm rfl rfl rfl rfl ?_
 refine jv_i c3 hm rfl pj_X12_isGood rfl rfl ⟨_, _, _, rfl, sh_173⟩ rfl ((ct_X12_isGood_173 X (by omega) M1 hH1 a1 ⟨by omega, by omega⟩).le (by decide)) (fun z5 _ ⟨rfl, lz5, uz5, p6⟩ => ?_)
 refine jz_eq c1 hm 32 rfl rfl (fun h7 => ?_) (fun h7 => ?_)
 ·
  refine jy_ic c1 hm rfl (by decide) ?_
  exact jx_reti c2 hm rfl rfl ⟨_, rfl, (hH1.mono (by omega) (by omega)), hF1, by omega, by omega⟩
 refine jx_load c1 hm rfl rfl rfl rfl ?_
 refine jy_ic c1 hm rfl (by decide) ?_
 refine jx_load c1 hm rfl rfl rfl rfl ?_
 refine jx_load c1 hm rfl rfl rfl rfl ?_
 refine jy_ic c1 hm rfl (by decide) ?_
 refine jv_i c3 hm rfl pj_X12_act rfl rfl ⟨_, _, _, rfl, sh_173⟩ rfl ((ct_X12_act_173 X (by omega) M1 hH1 1 ⟨by omega, by omega⟩ a0 ⟨by omega, by omega⟩ a1 ⟨by omega, by omega⟩ 0 ⟨by omega, by omega⟩).le (by decide)) (fun z8 M9 ⟨hH9, hR9, lz8, uz8⟩ => ?_)
 have hF9 := hF1.tr hR9 (by decide +kernel)
 refine jx_goto c1 hm 33 rfl rfl ?_
 exact jx_reti c2 hm rfl rfl ⟨_, rfl, hH9, hF9, by omega, by omega⟩
def md_X12_lend_173 : List (Nat × (Nat × Nat)) := [(173, (0, 0)), (173, (23, 23)), (175, (102, 107)), (175, (108, 113)), (175, (114, 119)), (175, (120, 155)), (175, (156, 191)), (175, (192, 227)), (175, (228, 233)), (178, (0, 1063)), (184, (0, 5))]
theorem ct_X12_lend_173 (X : Int) (hX : 0 ≤ X ∧ X ≤ 99999999) (M0 : JM) (hH0 : HI X M0) (a0 : Int) (ha0 : (-2147483648) ≤ a0 ∧ a0 ≤ 2147483647) (a1 : Int) (ha1 : (-2147483648) ≤ a1 ∧ a1 ≤ 2147483647) (a2 : Int) (ha2 : (-2147483648) ≤ a2 ∧ a2 ≤ 2147483647) : JOk shp PJ 13 132 [.inr (.inr (.inl 173)), .inl a0, .inl a1, .inl a2] M0 (jRi (fun v M' => HI (X + 1) M' ∧ Fr md_X12_lend_173 M0 M' ∧ (-1) ≤ v ∧ v ≤ 2 )) := by
 refine ⟨jr_X12_lend, pj_X12_lend, fun F c1 c2 c3 => ?_⟩
 have hm := pj_X12_lend
 change F 0 [some (.inr (.inr (.inl 173))), some (.inl a0), some (.inl a1), some (.inl a2)] [] M0
 have hF0 : Fr md_X12_lend_173 M0 M0 := Fr.rf _ _
 refine jx_load c1 hm rfl rfl rfl rfl ?_
 refine jy_ic c1 hm rfl (by decide) ?_
 obtain ⟨M1, e1, hH1, hF1, k1, n1, q1⟩ := mup hH0 hF0 (c := 173) (i := 0) (v := 0) (A := (-2147483648)) (B := 2147483647) (bs_28_0 _ _ (by omega) (by omega)) ⟨by omega, by omega⟩ (jin_of 0 rfl ⟨by omega, by omega⟩)
 refine jm_puti c1 hm rfl sh_173 rfl e1 ?_
 refine jx_load c1 hm rfl rfl rfl rfl ?_
 refine jx_load c1 hm rfl rfl rfl rfl ?_
 refine jv_i c3 hm rfl pj_X12_isMan rfl rfl ⟨_, _, _, rfl, sh_173⟩ rfl ((ct_X12_isMan_173 X (by omega) M1 hH1 a0 ⟨by omega, by omega⟩).le (by decide)) (fun z2 _ ⟨rfl, lz2, uz2, p3⟩ => ?_)
 refine jz_eq c1 hm 42 rfl rfl (fun h4 => ?_) (fun h4 => ?_)
 ·
  refine jy_ic c1 hm rfl (by decide) ?_
  exact jx_reti c2 hm rfl rfl ⟨_, rfl, (hH1.mono (by omega) (by omega)), hF1, by omega, by omega⟩
 refine jx_load c1 hm rfl rfl rfl rfl ?_
 refine jx_load c1 hm rfl rfl rfl rfl ?_
 refine jv_i c3 hm rfl pj_X12_isMan rfl rfl ⟨_, _, _, rfl, sh_173⟩ rfl ((ct_X12_isMan_173 X (by omega) M1 hH1 a1 ⟨by omega, by omega⟩).le (by decide)) (fun z5 _ ⟨rfl, lz5, uz5, p6⟩ => ?_)
 refine jz_eq c1 hm 42 rfl rfl (fun h7 => ?_) (fun h7 => ?_)
 ·
  refine jy_ic c1 hm rfl (by decide) ?_
  exact jx_reti c2 hm rfl rfl ⟨_, rfl, (hH1.mono (by omega) (by omega)), hF1, by omega, by omega⟩
 refine jx_load c1 hm rfl rfl rfl rfl ?_
 refine jy_ic c1 hm rfl (by decide) ?_
 refine jy_bp c1 hm rfl (by decide) ?_
 refine jt_i c3 hm rfl rfl pj_X12_isIn rfl rfl rfl ((ct_X12_isIn X (by omega) M1 hH1 a2 ⟨by omega, by omega⟩ 1 ⟨by omega, by omega⟩ 99 ⟨by omega, by omega⟩).le (by decide)) (fun z8 _ ⟨rfl, lz8, uz8, p9⟩ => ?_)
 refine jz_eq c1 hm 42 rfl rfl (fun h10 => ?_) (fun h10 => ?_)
 ·
  refine jy_ic c1 hm rfl (by decide) ?_
  exact jx_reti c2 hm rfl rfl ⟨_, rfl, (hH1.mono (by omega) (by omega)), hF1, by omega, by omega⟩
 refine jx_load c1 hm rfl rfl rfl rfl ?_
 refine jy_ic c1 hm rfl (by decide) ?_
 refine jx_load c1 hm rfl rfl rfl rfl ?_
 refine jx_load c1 hm rfl rfl rfl rfl ?_
 refine jx_load c1 hm rfl rfl rfl rfl ?_
 refine jv_i c3 hm rfl pj_X12_act rfl rfl ⟨_, _, _, rfl, sh_173⟩ rfl ((ct_X12_act_173 X (by omega) M1 hH1 2 ⟨by omega, by omega⟩ a0 ⟨by omega, by omega⟩ a1 ⟨by omega, by omega⟩ a2 ⟨by omega, by omega⟩).le (by decide)) (fun z11 M12 ⟨hH12, hR12, lz11, uz11⟩ => ?_)
 have hF12 := hF1.tr hR12 (by decide +kernel)
 refine jx_goto c1 hm 43 rfl rfl ?_
 exact jx_reti c2 hm rfl rfl ⟨_, rfl, hH12, hF12, by omega, by omega⟩
def md_X12_repay_173 : List (Nat × (Nat × Nat)) := [(173, (0, 0)), (173, (23, 23)), (175, (102, 107)), (175, (108, 113)), (175, (114, 119)), (175, (120, 155)), (175, (156, 191)), (175, (192, 227)), (175, (228, 233)), (178, (0, 1063)), (184, (0, 5))]
theorem ct_X12_repay_173 (X : Int) (hX : 0 ≤ X ∧ X ≤ 99999999) (M0 : JM) (hH0 : HI X M0) (a0 : Int) (ha0 : (-2147483648) ≤ a0 ∧ a0 ≤ 2147483647) (a1 : Int) (ha1 : (-2147483648) ≤ a1 ∧ a1 ≤ 2147483647) (a2 : Int) (ha2 : (-2147483648) ≤ a2 ∧ a2 ≤ 2147483647) : JOk shp PJ 13 174 [.inr (.inr (.inl 173)), .inl a0, .inl a1, .inl a2] M0 (jRi (fun v M' => HI (X + 1) M' ∧ Fr md_X12_repay_173 M0 M' ∧ (-1) ≤ v ∧ v ≤ 2 )) := by
 refine ⟨jr_X12_repay, pj_X12_repay, fun F c1 c2 c3 => ?_⟩
 have hm := pj_X12_repay
 change F 0 [some (.inr (.inr (.inl 173))), some (.inl a0), some (.inl a1), some (.inl a2)] [] M0
 have hF0 : Fr md_X12_repay_173 M0 M0 := Fr.rf _ _
 refine jx_load c1 hm rfl rfl rfl rfl ?_
 refine jy_ic c1 hm rfl (by decide) ?_
 obtain ⟨M1, e1, hH1, hF1, k1, n1, q1⟩ := mup hH0 hF0 (c := 173) (i := 0) (v := 0) (A := (-2147483648)) (B := 2147483647) (bs_28_0 _ _ (by omega) (by omega)) ⟨by omega, by omega⟩ (jin_of 0 rfl ⟨by omega, by omega⟩)
 refine jm_puti c1 hm rfl sh_173 rfl e1 ?_
 refine jx_load c1 hm rfl rfl rfl rfl ?_
 refine jx_load c1 hm rfl rfl rfl rfl ?_
 refine jv_i c3 hm rfl pj_X12_isMan rfl rfl ⟨_, _, _, rfl, sh_173⟩ rfl ((ct_X12_isMan_173 X (by omega) M1 hH1 a0 ⟨by omega, by omega⟩).le (by decide)) (fun z2 _ ⟨rfl, lz2, uz2, p3⟩ => ?_)
 refine jz_eq c1 hm 42 rfl rfl (fun h4 => ?_) (fun h4 => ?_)
 ·
  refine jy_ic c1 hm rfl (by decide) ?_
  exact jx_reti c2 hm rfl rfl ⟨_, rfl, (hH1.mono (by omega) (by omega)), hF1, by omega, by omega⟩
 refine jx_load c1 hm rfl rfl rfl rfl ?_
 refine jx_load c1 hm rfl rfl rfl rfl ?_
 refine jv_i c3 hm rfl pj_X12_isMan rfl rfl ⟨_, _, _, rfl, sh_173⟩ rfl ((ct_X12_isMan_173 X (by omega) M1 hH1 a1 ⟨by omega, by omega⟩).le (by decide)) (fun z5 _ ⟨rfl, lz5, uz5, p6⟩ => ?_)
 refine jz_eq c1 hm 42 rfl rfl (fun h7 => ?_) (fun h7 => ?_)
 ·
  refine jy_ic c1 hm rfl (by decide) ?_
  exact jx_reti c2 hm rfl rfl ⟨_, rfl, (hH1.mono (by omega) (by omega)), hF1, by omega, by omega⟩
 refine jx_load c1 hm rfl rfl rfl rfl ?_
 refine jy_ic c1 hm rfl (by decide) ?_
 refine jy_bp c1 hm rfl (by decide) ?_
 refine jt_i c3 hm rfl rfl pj_X12_isIn rfl rfl rfl ((ct_X12_isIn X (by omega) M1 hH1 a2 ⟨by omega, by omega⟩ 1 ⟨by omega, by omega⟩ 99 ⟨by omega, by omega⟩).le (by decide)) (fun z8 _ ⟨rfl, lz8, uz8, p9⟩ => ?_)
 refine jz_eq c1 hm 42 rfl rfl (fun h10 => ?_) (fun h10 => ?_)
 ·
  refine jy_ic c1 hm rfl (by decide) ?_
  exact jx_reti c2 hm rfl rfl ⟨_, rfl, (hH1.mono (by omega) (by omega)), hF1, by omega, by omega⟩
 refine jx_load c1 hm rfl rfl rfl rfl ?_
 refine jy_ic c1 hm rfl (by decide) ?_
 refine jx_load c1 hm rfl rfl rfl rfl ?_
 refine jx_load c1 hm rfl rfl rfl rfl ?_
 refine jx_load c1 hm rfl rfl rfl rfl ?_
 refine jv_i c3 hm rfl pj_X12_act rfl rfl ⟨_, _, _, rfl, sh_173⟩ rfl ((ct_X12_act_173 X (by omega) M1 hH1 3 ⟨by omega, by omega⟩ a0 ⟨by omega, by omega⟩ a1 ⟨by omega, by omega⟩ a2 ⟨by omega, by omega⟩).le (by decide)) (fun z11 M12 ⟨hH12, hR12, lz11, uz11⟩ => ?_)
 have hF12 := hF1.tr hR12 (by decide +kernel)
 refine jx_goto c1 hm 43 rfl rfl ?_
 exact jx_reti c2 hm rfl rfl ⟨_, rfl, hH12, hF12, by omega, by omega⟩
def md_X12_draw_173 : List (Nat × (Nat × Nat)) := [(173, (43, 43))]
theorem ct_X12_draw_173 (X : Int) (hX : 0 ≤ X ∧ X ≤ 100000000) (M0 : JM) (hH0 : HI X M0) (a0 : Int) (ha0 : 1 ≤ a0 ∧ a0 ≤ 6) : JOk shp PJ 1 96 [.inr (.inr (.inl 173)), .inl a0] M0 (jRi (fun v M' => HI X M' ∧ Fr md_X12_draw_173 M0 M' ∧ 0 ≤ v ∧ v ≤ 5 ∧ (v < a0))) := by
 refine ⟨jr_X12_draw, pj_X12_draw, fun F c1 c2 c3 => ?_⟩
 have hm := pj_X12_draw
 change F 0 [some (.inr (.inr (.inl 173))), some (.inl a0)] [] M0
 have hF0 : Fr md_X12_draw_173 M0 M0 := Fr.rf _ _
 refine jx_load c1 hm rfl rfl rfl rfl ?_
 refine jx_load c1 hm rfl rfl rfl rfl ?_
 obtain ⟨z1, k2, lz1, uz1⟩ := hH0.ld (c := 173) (i := 43) (A := (-2147483648)) (B := 2147483647) (bs_28_19 _ _ (by omega) (by omega))
 refine jx_geti c1 hm rfl sh_173 rfl k2 ?_
 refine jx_ldcw c1 hm (v := 1103515245) rfl rfl (by decide) ?_
 refine jx_iopw c1 hm rfl rfl (fun z3 lz3 uz3 => ?_)
 refine jy_sp c1 hm rfl (by decide) ?_
 refine jx_iopw c1 hm rfl rfl (fun z4 lz4 uz4 => ?_)
 obtain ⟨M5, e5, hH5, hF5, k5, n5, q5⟩ := mup hH0 hF0 (c := 173) (i := 43) (v := z4) (A := (-2147483648)) (B := 2147483647) (bs_28_19 _ _ (by omega) (by omega)) ⟨by omega, by omega⟩ (jin_of 0 rfl ⟨by omega, by omega⟩)
 refine jm_puti c1 hm rfl sh_173 rfl e5 ?_
 refine jx_load c1 hm rfl rfl rfl rfl ?_
 refine jx_geti c1 hm rfl sh_173 rfl k5 ?_
 refine jy_bp c1 hm rfl (by decide) ?_
 refine jy_ush c1 hm rfl (by omega) (fun z6 lz6 uz6 => ?_)
 refine jx_load c1 hm rfl rfl rfl rfl ?_
 refine jy_rem c1 hm rfl ⟨by omega, by omega, by omega, by omega⟩ (fun z7 ez7 lz7 uz7 => ?_)
 clear ez7
 exact jx_reti c2 hm rfl rfl ⟨_, rfl, hH5, hF5, by omega, by omega, (by omega)⟩
def md_X12_tryTo_173 : List (Nat × (Nat × Nat)) := [(175, (102, 107)), (175, (108, 113)), (175, (114, 119)), (175, (120, 155)), (175, (156, 191)), (175, (192, 227)), (175, (228, 233)), (184, (0, 5))]
theorem ct_X12_tryTo_173 (X : Int) (hX : 0 ≤ X ∧ X ≤ 99999999) (M0 : JM) (hH0 : HI X M0) (a0 : Int) (ha0 : 0 ≤ a0 ∧ a0 ≤ 3) (a1 : Int) (ha1 : 0 ≤ a1 ∧ a1 ≤ 5) (a2 : Int) (ha2 : 0 ≤ a2 ∧ a2 ≤ 5) : JOk shp PJ 12 197 [.inr (.inr (.inl 173)), .inl a0, .inl a1, .inl a2] M0 (jRv (fun M' => HI (X + 1) M' ∧ Fr md_X12_tryTo_173 M0 M' )) := by
 refine ⟨jr_X12_tryTo, pj_X12_tryTo, fun F c1 c2 c3 => ?_⟩
 have hm := pj_X12_tryTo
 change F 0 [some (.inr (.inr (.inl 173))), some (.inl a0), some (.inl a1), some (.inl a2)] [] M0
 have hF0 : Fr md_X12_tryTo_173 M0 M0 := Fr.rf _ _
 refine jx_load c1 hm rfl rfl rfl rfl ?_
 refine jx_load c1 hm rfl rfl rfl rfl ?_
 refine jx_load c1 hm rfl rfl rfl rfl ?_
 refine jx_load c1 hm rfl rfl rfl rfl ?_
 refine jy_ic c1 hm rfl (by decide) ?_
 refine jv_i c3 hm rfl pj_X12_why rfl rfl ⟨_, _, _, rfl, sh_173⟩ rfl ((ct_X12_why_173 X (by omega) M0 hH0 a0 ⟨by omega, by omega⟩ a1 ⟨by omega, by omega⟩ a2 ⟨by omega, by omega⟩ 1 ⟨by omega, by omega⟩).le (by decide)) (fun z1 M3 ⟨hH3, hR3, lz1, uz1, p2⟩ => ?_)
 have hF3 := hF0.tr hR3 (by decide +kernel)
 refine jz_ne c1 hm 19 rfl rfl (fun h4 => ?_) (fun h4 => ?_)
 ·
  exact jx_retv c2 hm rfl rfl ⟨rfl, (hH3.mono (by omega) (by omega)), hF3⟩
 refine jx_load c1 hm rfl rfl rfl rfl ?_
 refine jx_load c1 hm rfl rfl rfl rfl ?_
 refine jx_load c1 hm rfl rfl rfl rfl ?_
 refine jx_load c1 hm rfl rfl rfl rfl ?_
 refine jy_ic c1 hm rfl (by decide) ?_
 refine jv_v c3 hm rfl pj_X12_live rfl rfl ⟨_, _, _, rfl, sh_173⟩ rfl ((ct_X12_live_173 X (by omega) M3 hH3 a0 ⟨by omega, by omega⟩ a1 ⟨by omega, by omega⟩ a2 ⟨by omega, by omega⟩ 1 ⟨by omega, by omega⟩ (by omega)).le (by decide)) (fun M5 ⟨hH5, hR5⟩ => ?_)
 have hF5 := hF3.tr hR5 (by decide +kernel)
 exact jx_retv c2 hm rfl rfl ⟨rfl, hH5, hF5⟩
def md_X12_drawWeeks_173 : List (Nat × (Nat × Nat)) := [(173, (43, 43)), (175, (101, 101)), (175, (102, 107)), (175, (108, 113)), (175, (114, 119)), (175, (120, 155)), (175, (156, 191)), (175, (192, 227)), (175, (228, 233)), (184, (0, 5))]
theorem ct_X12_drawWeeks_173 (X : Int) (hX : 0 ≤ X ∧ X ≤ 99998920) (M0 : JM) (hH0 : HI X M0) (a0 : Int) (ha0 : 1 ≤ a0 ∧ a0 ≤ 60) (a1 : Int) (ha1 : (-2147483648) ≤ a1 ∧ a1 ≤ 2147483647) : JOk shp PJ 13 97 [.inr (.inr (.inl 173)), .inl a0, .inl a1] M0 (jRi (fun v M' => HI (X + 1080) M' ∧ Fr md_X12_drawWeeks_173 M0 M' ∧ (-2147483648) ≤ v ∧ v ≤ 60 )) := by
 refine ⟨jr_X12_drawWeeks, pj_X12_drawWeeks, fun F c1 c2 c3 => ?_⟩
 have hm := pj_X12_drawWeeks
 change F 0 [some (.inr (.inr (.inl 173))), some (.inl a0), some (.inl a1), none, none, none, none] [] M0
 have hF0 : Fr md_X12_drawWeeks_173 M0 M0 := Fr.rf _ _
 refine jx_load c1 hm rfl rfl rfl rfl ?_
 refine jx_load c1 hm rfl rfl rfl rfl ?_
 obtain ⟨M1, e1, hH1, hF1, k1, n1, q1⟩ := mup hH0 hF0 (c := 173) (i := 43) (v := a1) (A := (-2147483648)) (B := 2147483647) (bs_28_19 _ _ (by omega) (by omega)) ⟨by omega, by omega⟩ (jin_of 0 rfl ⟨by omega, by omega⟩)
 refine jm_puti c1 hm rfl sh_173 rfl e1 ?_
 refine jx_load c1 hm rfl rfl rfl rfl ?_
 refine jy_sp c1 hm rfl (by decide) ?_
 refine jx_load c1 hm rfl rfl rfl rfl ?_
 refine jx_getr c1 hm rfl sh_173 rfl ?_
 refine jy_bp c1 hm rfl (by decide) ?_
 obtain ⟨z2, k3, lz2, uz2⟩ := hH1.ld (c := 175) (i := 101) (A := (-2147483648)) (B := 2147483647) (bs_11_7 _ _ (by omega) (by omega))
 refine jx_iald c1 hm rfl sh_175 ⟨by omega, by omega⟩ k3 ?_
 refine jx_iopw c1 hm rfl rfl (fun z4 lz4 uz4 => ?_)
 refine jt_i c3 hm rfl rfl pj_X12_least rfl rfl rfl ((ct_X12_least X (by omega) M1 hH1 a0 ⟨by omega, by omega⟩ z4 ⟨by omega, by omega⟩).le (by decide)) (fun z5 _ ⟨rfl, lz5, uz5, p6, p7⟩ => ?_)
 refine jx_stor c1 hm (L' := [some (.inr (.inr (.inl 173))), some (.inl a0), some (.inl a1), some (.inl z5), none, none, none]) rfl rfl rfl rfl rfl ?_
 refine jy_ic c1 hm rfl (by decide) ?_
 refine jx_stor c1 hm (L' := [some (.inr (.inr (.inl 173))), some (.inl a0), some (.inl a1), some (.inl z5), some (.inl 0), none, none]) rfl rfl rfl rfl rfl ?_
 have W12 : ∀ (n13 : Nat) (b8 : Int) (hb8 : 0 ≤ b8 ∧ b8 ≤ 60) (o9 : Option JV) (ho9 : o9 = none ∨ (∃ z, o9 = some (.inl z)) ∨ ∃ r, o9 = some (.inr (.inr r))) (o10 : Option JV) (ho10 : o10 = none ∨ (∃ z, o10 = some (.inl z)) ∨ ∃ r, o10 = some (.inr (.inr r))) (M11 : JM) (hH11 : HI (X + 18 * b8) M11) (hF11 : Fr md_X12_drawWeeks_173 M0 M11), (-b8 + 60) < (n13 : Int) → F 24 [some (.inr (.inr (.inl 173))), some (.inl a0), some (.inl a1), some (.inl z5), some (.inl b8), o9, o10] [] M11 := by
  intro n13
  induction n13 with
  | zero => intros; omega
  | succ n13 ihW12 =>
   intro b8 hb8 o9 ho9 o10 ho10 M11 hH11 hF11 hrW12
   refine jx_load c1 hm rfl rfl rfl rfl ?_
   refine jx_load c1 hm rfl rfl rfl rfl ?_
   refine jc_ge c1 hm 154 rfl rfl (fun h14 => ?_) (fun h14 => ?_)
   ·
    refine jx_load c1 hm rfl rfl rfl rfl ?_
    exact jx_reti c2 hm rfl rfl ⟨_, rfl, (hH11.mono (by omega) (by omega)), hF11, by omega, by omega⟩
   refine jy_ic c1 hm rfl (by decide) ?_
   refine jx_stor c1 hm (L' := [some (.inr (.inr (.inl 173))), some (.inl a0), some (.inl a1), some (.inl z5), some (.inl b8), some (.inl 0), o10]) rfl rfl rfl rfl rfl ?_
   have W18 : ∀ (n19 : Nat) (b15 : Int) (hb15 : 0 ≤ b15 ∧ b15 ≤ 6) (o16 : Option JV) (ho16 : o16 = none ∨ (∃ z, o16 = some (.inl z)) ∨ ∃ r, o16 = some (.inr (.inr r))) (M17 : JM) (hH17 : HI (X + 18 * b8 + 3 * b15) M17) (hF17 : Fr md_X12_drawWeeks_173 M0 M17), (-b15 + 6) < (n19 : Int) → F 33 [some (.inr (.inr (.inl 173))), some (.inl a0), some (.inl a1), some (.inl z5), some (.inl b8), some (.inl b15), o16] [] M17 := by
    intro n19
    induction n19 with
    | zero => intros; omega
    | succ n19 ihW18 =>
     intro b15 hb15 o16 ho16 M17 hH17 hF17 hrW18
     refine jx_load c1 hm rfl rfl rfl rfl ?_
     refine jx_load c1 hm rfl rfl rfl rfl ?_
     refine jx_getr c1 hm rfl sh_173 rfl ?_
     refine jy_ic c1 hm rfl (by decide) ?_
     obtain ⟨z20, k21, lz20, uz20⟩ := hH17.ld (c := 175) (i := 0) (A := 0) (B := 6) (bs_11_0 _ _ (by omega) (by omega))
     refine jx_iald c1 hm rfl sh_175 ⟨by omega, by omega⟩ k21 ?_
     refine jc_ge c1 hm 144 rfl rfl (fun h22 => ?_) (fun h22 => ?_)
     ·
      refine jx_load c1 hm rfl rfl rfl rfl ?_
      refine jv_v c3 hm rfl pj_X12_oneWeek rfl rfl ⟨_, _, _, rfl, sh_173⟩ rfl ((ct_X12_oneWeek_173 (X + 18 * b8 + 3 * b15) (by omega) M17 hH17 ).le (by decide)) (fun M61 ⟨hH61, hR61⟩ => ?_)
      have hF61 := hF17.tr hR61 (by decide +kernel)
      refine jx_iinc c1 hm (v := (b8 + 1)) (L' := [some (.inr (.inr (.inl 173))), some (.inl a0), some (.inl a1), some (.inl z5), some (.inl (b8 + 1)), some (.inl b15), o16]) rfl rfl (by omega) (by omega) rfl ?_
      refine jx_goto c1 hm 24 rfl rfl ?_
      exact ihW12 (b8 + 1) (by omega) (some (.inl b15)) (Or.inr (Or.inl ⟨_, rfl⟩)) o16 ho16 M61 (hH61.mono (by omega) (by omega)) hF61 (by omega)
     refine jx_load c1 hm rfl rfl rfl rfl ?_
     refine jy_ic c1 hm rfl (by decide) ?_
     refine jv_i c3 hm rfl pj_X12_draw rfl rfl ⟨_, _, _, rfl, sh_173⟩ rfl ((ct_X12_draw_173 (X + 18 * b8 + 3 * b15) (by omega) M17 hH17 4 ⟨by omega, by omega⟩).le (by decide)) (fun z23 M25 ⟨hH25, hR25, lz23, uz23, p24⟩ => ?_)
     have hF25 := hF17.tr hR25 (by decide +kernel)
     refine jx_stor c1 hm (L' := [some (.inr (.inr (.inl 173))), some (.inl a0), some (.inl a1), some (.inl z5), some (.inl b8), some (.inl b15), some (.inl z23)]) rfl rfl rfl rfl rfl ?_
     refine jx_load c1 hm rfl rfl rfl rfl ?_
     refine jy_ic c1 hm rfl (by decide) ?_
     have J39 : ∀ (M34 : JM) (hH34 : HI (X + 18 * b8 + 3 * b15 + 1) M34) (hF34 : Fr md_X12_drawWeeks_173 M0 M34) (k38 : M34.1 175 0 = z20), F 83 [some (.inr (.inr (.inl 173))), some (.inl a0), some (.inl a1), some (.inl z5), some (.inl b8), some (.inl b15), some (.inl z23)] [] M34 := by
      intro M34 hH34 hF34 k38
      refine jx_load c1 hm rfl rfl rfl rfl ?_
      refine jy_ic c1 hm rfl (by decide) ?_
      have J51 : ∀ (M48 : JM) (hH48 : HI (X + 18 * b8 + 3 * b15 + 2) M48) (hF48 : Fr md_X12_drawWeeks_173 M0 M48) (k50 : M48.1 175 0 = z20), F 115 [some (.inr (.inr (.inl 173))), some (.inl a0), some (.inl a1), some (.inl z5), some (.inl b8), some (.inl b15), some (.inl z23)] [] M48 := by
       intro M48 hH48 hF48 k50
       refine jx_load c1 hm rfl rfl rfl rfl ?_
       refine jy_ic c1 hm rfl (by decide) ?_
       have J60 : ∀ (M57 : JM) (hH57 : HI (X + 18 * b8 + 3 * b15 + 3) M57) (hF57 : Fr md_X12_drawWeeks_173 M0 M57) (k59 : M57.1 175 0 = z20), F 138 [some (.inr (.inr (.inl 173))), some (.inl a0), some (.inl a1), some (.inl z5), some (.inl b8), some (.inl b15), some (.inl z23)] [] M57 := by
        intro M57 hH57 hF57 k59
        refine jx_iinc c1 hm (v := (b15 + 1)) (L' := [some (.inr (.inr (.inl 173))), some (.inl a0), some (.inl a1), some (.inl z5), some (.inl b8), some (.inl (b15 + 1)), some (.inl z23)]) rfl rfl (by omega) (by omega) rfl ?_
        refine jx_goto c1 hm 33 rfl rfl ?_
        exact ihW18 (b15 + 1) (by omega) (some (.inl z23)) (Or.inr (Or.inl ⟨_, rfl⟩)) M57 (hH57.mono (by omega) (by omega)) hF57 (by omega)
       refine jc_ne c1 hm 138 rfl rfl (fun h52 => ?_) (fun h52 => ?_)
       ·
        exact J60 M48 (hH48.mono (by omega) (by omega)) hF48 k50
       refine jx_load c1 hm rfl rfl rfl rfl ?_
       refine jy_ic c1 hm rfl (by decide) ?_
       refine jx_load c1 hm rfl rfl rfl rfl ?_
       refine jx_load c1 hm rfl rfl rfl rfl ?_
       refine jx_load c1 hm rfl rfl rfl rfl ?_
       refine jx_getr c1 hm rfl sh_173 rfl ?_
       refine jy_ic c1 hm rfl (by decide) ?_
       refine jx_iald c1 hm rfl sh_175 ⟨by omega, by omega⟩ k50 ?_
       refine jv_i c3 hm rfl pj_X12_draw rfl rfl ⟨_, _, _, rfl, sh_173⟩ rfl ((ct_X12_draw_173 (X + 18 * b8 + 3 * b15 + 2) (by omega) M48 hH48 z20 ⟨by omega, by omega⟩).le (by decide)) (fun z53 M55 ⟨hH55, hR55, lz53, uz53, p54⟩ => ?_)
       have hF55 := hF48.tr hR55 (by decide +kernel)
       refine jv_v c3 hm rfl pj_X12_tryTo rfl rfl ⟨_, _, _, rfl, sh_173⟩ rfl ((ct_X12_tryTo_173 (X + 18 * b8 + 3 * b15 + 2) (by omega) M55 hH55 3 ⟨by omega, by omega⟩ b15 ⟨by omega, by omega⟩ z53 ⟨by omega, by omega⟩).le (by decide)) (fun M56 ⟨hH56, hR56⟩ => ?_)
       have hF56 := hF55.tr hR56 (by decide +kernel)
       rw [show X + 18 * b8 + 3 * b15 + 2 + 1 = X + 18 * b8 + 3 * b15 + 3 by omega] at hH56
       have k58 : M56.1 175 0 = z20 := (hR56 175 0 (by decide +kernel)).trans ((hR55 175 0 (by decide +kernel)).trans k50)
       exact J60 M56 hH56 hF56 k58
      refine jc_ne c1 hm 115 rfl rfl (fun h40 => ?_) (fun h40 => ?_)
      ·
       exact J51 M34 (hH34.mono (by omega) (by omega)) hF34 k38
      refine jx_load c1 hm rfl rfl rfl rfl ?_
      refine jx_getr c1 hm rfl sh_173 rfl ?_
      refine jy_ic c1 hm rfl (by decide) ?_
      obtain ⟨z41, k42, lz41, uz41⟩ := hH34.ld (c := 175) (i := 2) (A := 0) (B := 6) (bs_11_0 _ _ (by omega) (by omega))
      refine jx_iald c1 hm rfl sh_175 ⟨by omega, by omega⟩ k42 ?_
      refine jz_le c1 hm 115 rfl rfl (fun h43 => ?_) (fun h43 => ?_)
      ·
       exact J51 M34 (hH34.mono (by omega) (by omega)) hF34 k38
      refine jx_load c1 hm rfl rfl rfl rfl ?_
      refine jy_ic c1 hm rfl (by decide) ?_
      refine jx_load c1 hm rfl rfl rfl rfl ?_
      refine jx_load c1 hm rfl rfl rfl rfl ?_
      refine jx_load c1 hm rfl rfl rfl rfl ?_
      refine jx_getr c1 hm rfl sh_173 rfl ?_
      refine jy_ic c1 hm rfl (by decide) ?_
      refine jx_iald c1 hm rfl sh_175 ⟨by omega, by omega⟩ k42 ?_
      refine jv_i c3 hm rfl pj_X12_draw rfl rfl ⟨_, _, _, rfl, sh_173⟩ rfl ((ct_X12_draw_173 (X + 18 * b8 + 3 * b15 + 1) (by omega) M34 hH34 z41 ⟨by omega, by omega⟩).le (by decide)) (fun z44 M46 ⟨hH46, hR46, lz44, uz44, p45⟩ => ?_)
      have hF46 := hF34.tr hR46 (by decide +kernel)
      refine jv_v c3 hm rfl pj_X12_tryTo rfl rfl ⟨_, _, _, rfl, sh_173⟩ rfl ((ct_X12_tryTo_173 (X + 18 * b8 + 3 * b15 + 1) (by omega) M46 hH46 1 ⟨by omega, by omega⟩ b15 ⟨by omega, by omega⟩ z44 ⟨by omega, by omega⟩).le (by decide)) (fun M47 ⟨hH47, hR47⟩ => ?_)
      have hF47 := hF46.tr hR47 (by decide +kernel)
      rw [show X + 18 * b8 + 3 * b15 + 1 + 1 = X + 18 * b8 + 3 * b15 + 2 by omega] at hH47
      have k49 : M47.1 175 0 = z20 := (hR47 175 0 (by decide +kernel)).trans ((hR46 175 0 (by decide +kernel)).trans k38)
      exact J51 M47 hH47 hF47 k49
     refine jc_ne c1 hm 83 rfl rfl (fun h26 => ?_) (fun h26 => ?_)
     ·
      have k35 : M25.1 175 0 = z20 := (hR25 175 0 (by decide +kernel)).trans k21
      exact J39 M25 (hH25.mono (by omega) (by omega)) hF25 k35
     refine jx_load c1 hm rfl rfl rfl rfl ?_
     refine jx_getr c1 hm rfl sh_173 rfl ?_
     refine jy_ic c1 hm rfl (by decide) ?_
     obtain ⟨z27, k28, lz27, uz27⟩ := hH25.ld (c := 175) (i := 1) (A := 0) (B := 6) (bs_11_0 _ _ (by omega) (by omega))
     refine jx_iald c1 hm rfl sh_175 ⟨by omega, by omega⟩ k28 ?_
     refine jz_le c1 hm 83 rfl rfl (fun h29 => ?_) (fun h29 => ?_)
     ·
      have k36 : M25.1 175 0 = z20 := (hR25 175 0 (by decide +kernel)).trans k21
      exact J39 M25 (hH25.mono (by omega) (by omega)) hF25 k36
     refine jx_load c1 hm rfl rfl rfl rfl ?_
     refine jy_ic c1 hm rfl (by decide) ?_
     refine jx_load c1 hm rfl rfl rfl rfl ?_
     refine jx_load c1 hm rfl rfl rfl rfl ?_
     refine jx_load c1 hm rfl rfl rfl rfl ?_
     refine jx_getr c1 hm rfl sh_173 rfl ?_
     refine jy_ic c1 hm rfl (by decide) ?_
     refine jx_iald c1 hm rfl sh_175 ⟨by omega, by omega⟩ k28 ?_
     refine jv_i c3 hm rfl pj_X12_draw rfl rfl ⟨_, _, _, rfl, sh_173⟩ rfl ((ct_X12_draw_173 (X + 18 * b8 + 3 * b15) (by omega) M25 hH25 z27 ⟨by omega, by omega⟩).le (by decide)) (fun z30 M32 ⟨hH32, hR32, lz30, uz30, p31⟩ => ?_)
     have hF32 := hF25.tr hR32 (by decide +kernel)
     refine jv_v c3 hm rfl pj_X12_tryTo rfl rfl ⟨_, _, _, rfl, sh_173⟩ rfl ((ct_X12_tryTo_173 (X + 18 * b8 + 3 * b15) (by omega) M32 hH32 0 ⟨by omega, by omega⟩ b15 ⟨by omega, by omega⟩ z30 ⟨by omega, by omega⟩).le (by decide)) (fun M33 ⟨hH33, hR33⟩ => ?_)
     have hF33 := hF32.tr hR33 (by decide +kernel)
     have k37 : M33.1 175 0 = z20 := (hR33 175 0 (by decide +kernel)).trans ((hR32 175 0 (by decide +kernel)).trans ((hR25 175 0 (by decide +kernel)).trans k21))
     exact J39 M33 hH33 hF33 k37
   exact W18 (6 + 1 : Int).toNat 0 (by omega) o10 ho10 M11 (hH11.mono (by omega) (by omega)) hF11 (by omega)
 exact W12 (60 + 1 : Int).toNat 0 (by omega) none (Or.inl rfl) none (Or.inl rfl) M1 (hH1.mono (by omega) (by omega)) hF1 (by omega)
def md_X12_drawn_173 : List (Nat × (Nat × Nat)) := [(173, (0, 0)), (173, (23, 23)), (173, (43, 43)), (175, (101, 101)), (175, (102, 107)), (175, (108, 113)), (175, (114, 119)), (175, (120, 155)), (175, (156, 191)), (175, (192, 227)), (175, (228, 233)), (178, (0, 1063)), (184, (0, 5))]
theorem ct_X12_drawn_173 (X : Int) (hX : 0 ≤ X ∧ X ≤ 99998920) (M0 : JM) (hH0 : HI X M0) (a0 : Int) (ha0 : (-2147483648) ≤ a0 ∧ a0 ≤ 2147483647) (a1 : Int) (ha1 : (-2147483648) ≤ a1 ∧ a1 ≤ 2147483647) : JOk shp PJ 14 98 [.inr (.inr (.inl 173)), .inl a0, .inl a1] M0 (jRi (fun v M' => HI (X + 1080) M' ∧ Fr md_X12_drawn_173 M0 M' ∧ (-2147483648) ≤ v ∧ v ≤ 60 )) := by
 refine ⟨jr_X12_drawn, pj_X12_drawn, fun F c1 c2 c3 => ?_⟩
 have hm := pj_X12_drawn
 change F 0 [some (.inr (.inr (.inl 173))), some (.inl a0), some (.inl a1)] [] M0
 have hF0 : Fr md_X12_drawn_173 M0 M0 := Fr.rf _ _
 refine jx_load c1 hm rfl rfl rfl rfl ?_
 refine jy_ic c1 hm rfl (by decide) ?_
 obtain ⟨M1, e1, hH1, hF1, k1, n1, q1⟩ := mup hH0 hF0 (c := 173) (i := 0) (v := 0) (A := (-2147483648)) (B := 2147483647) (bs_28_0 _ _ (by omega) (by omega)) ⟨by omega, by omega⟩ (jin_of 0 rfl ⟨by omega, by omega⟩)
 refine jm_puti c1 hm rfl sh_173 rfl e1 ?_
 refine jx_load c1 hm rfl rfl rfl rfl ?_
 refine jy_ic c1 hm rfl (by decide) ?_
 refine jy_bp c1 hm rfl (by decide) ?_
 refine jt_i c3 hm rfl rfl pj_X12_isIn rfl rfl rfl ((ct_X12_isIn X (by omega) M1 hH1 a0 ⟨by omega, by omega⟩ 1 ⟨by omega, by omega⟩ 60 ⟨by omega, by omega⟩).le (by decide)) (fun z2 _ ⟨rfl, lz2, uz2, p3⟩ => ?_)
 refine jz_eq c1 hm 24 rfl rfl (fun h4 => ?_) (fun h4 => ?_)
 ·
  refine jy_ic c1 hm rfl (by decide) ?_
  exact jx_reti c2 hm rfl rfl ⟨_, rfl, (hH1.mono (by omega) (by omega)), hF1, by omega, by omega⟩
 refine jx_load c1 hm rfl rfl rfl rfl ?_
 refine jx_getr c1 hm rfl sh_173 rfl ?_
 refine jy_ic c1 hm rfl (by decide) ?_
 obtain ⟨z5, k6, lz5, uz5⟩ := hH1.ld (c := 175) (i := 0) (A := 0) (B := 6) (bs_11_0 _ _ (by omega) (by omega))
 refine jx_iald c1 hm rfl sh_175 ⟨by omega, by omega⟩ k6 ?_
 refine jz_ne c1 hm 26 rfl rfl (fun h7 => ?_) (fun h7 => ?_)
 ·
  refine jx_load c1 hm rfl rfl rfl rfl ?_
  refine jx_getr c1 hm rfl sh_173 rfl ?_
  refine jy_bp c1 hm rfl (by decide) ?_
  obtain ⟨z8, k9, lz8, uz8⟩ := hH1.ld (c := 175) (i := 101) (A := (-2147483648)) (B := 2147483647) (bs_11_7 _ _ (by omega) (by omega))
  refine jx_iald c1 hm rfl sh_175 ⟨by omega, by omega⟩ k9 ?_
  refine jy_sp c1 hm rfl (by decide) ?_
  refine jc_ne c1 hm 41 rfl rfl (fun h10 => ?_) (fun h10 => ?_)
  ·
   refine jx_load c1 hm rfl rfl rfl rfl ?_
   refine jv_v c3 hm rfl pj_X12_snap rfl rfl ⟨_, _, _, rfl, sh_173⟩ rfl ((ct_X12_snap_173 X (by omega) M1 hH1 ).le (by decide)) (fun M11 ⟨hH11, hR11⟩ => ?_)
   have hF11 := hF1.tr hR11 (by decide +kernel)
   refine jx_load c1 hm rfl rfl rfl rfl ?_
   refine jx_load c1 hm rfl rfl rfl rfl ?_
   refine jx_load c1 hm rfl rfl rfl rfl ?_
   refine jv_i c3 hm rfl pj_X12_drawWeeks rfl rfl ⟨_, _, _, rfl, sh_173⟩ rfl ((ct_X12_drawWeeks_173 X (by omega) M11 hH11 a0 ⟨by omega, by omega⟩ a1 ⟨by omega, by omega⟩).le (by decide)) (fun z12 M13 ⟨hH13, hR13, lz12, uz12⟩ => ?_)
   have hF13 := hF11.tr hR13 (by decide +kernel)
   exact jx_reti c2 hm rfl rfl ⟨_, rfl, hH13, hF13, by omega, by omega⟩
  refine jy_ic c1 hm rfl (by decide) ?_
  exact jx_reti c2 hm rfl rfl ⟨_, rfl, (hH1.mono (by omega) (by omega)), hF1, by omega, by omega⟩
 refine jy_ic c1 hm rfl (by decide) ?_
 exact jx_reti c2 hm rfl rfl ⟨_, rfl, (hH1.mono (by omega) (by omega)), hF1, by omega, by omega⟩
def md_X12_layAside_173 : List (Nat × (Nat × Nat)) := [(179, (0, 132))]
theorem ct_X12_layAside_173 (X : Int) (hX : 0 ≤ X ∧ X ≤ 100000000) (M0 : JM) (hH0 : HI X M0)  : JOk shp PJ 1 128 [.inr (.inr (.inl 173))] M0 (jRv (fun M' => HI X M' ∧ Fr md_X12_layAside_173 M0 M' )) := by
 refine ⟨jr_X12_layAside, pj_X12_layAside, fun F c1 c2 c3 => ?_⟩
 have hm := pj_X12_layAside
 change F 0 [some (.inr (.inr (.inl 173))), none] [] M0
 have hF0 : Fr md_X12_layAside_173 M0 M0 := Fr.rf _ _
 refine jy_ic c1 hm rfl (by decide) ?_
 refine jx_stor c1 hm (L' := [some (.inr (.inr (.inl 173))), some (.inl 0)]) rfl rfl rfl rfl rfl ?_
 have W3 : ∀ (n4 : Nat) (b1 : Int) (hb1 : 0 ≤ b1 ∧ b1 ≤ 133) (M2 : JM) (hH2 : HI (X) M2) (hF2 : Fr md_X12_layAside_173 M0 M2), (-b1 + 133) < (n4 : Int) → F 2 [some (.inr (.inr (.inl 173))), some (.inl b1)] [] M2 := by
  intro n4
  induction n4 with
  | zero => intros; omega
  | succ n4 ihW3 =>
   intro b1 hb1 M2 hH2 hF2 hrW3
   refine jx_load c1 hm rfl rfl rfl rfl ?_
   refine jy_sp c1 hm rfl (by decide) ?_
   refine jc_ge c1 hm 30 rfl rfl (fun h5 => ?_) (fun h5 => ?_)
   ·
    exact jx_retv c2 hm rfl rfl ⟨rfl, hH2, hF2⟩
   refine jx_load c1 hm rfl rfl rfl rfl ?_
   refine jx_getr c1 hm rfl sh_173 rfl ?_
   refine jx_load c1 hm rfl rfl rfl rfl ?_
   refine jx_load c1 hm rfl rfl rfl rfl ?_
   refine jx_getr c1 hm rfl sh_173 rfl ?_
   refine jy_bp c1 hm rfl (by decide) ?_
   refine jx_load c1 hm rfl rfl rfl rfl ?_
   refine jy_add c1 hm (b1 + 101) rfl (by omega) ?_
   obtain ⟨z6, k7, lz6, uz6⟩ := hH2.any (by omega) (by omega) 175 ((b1 + 101)).toNat
   refine jx_iald c1 hm rfl sh_175 ⟨by omega, by omega⟩ k7 ?_
   obtain ⟨M8, e8, hH8, hF8, k8, n8, q8⟩ := mupc hH2 hF2 hH2 (c := 179) (i := (b1).toNat) (c1 := 175) (i1 := ((b1 + 101)).toNat) (v := z6) k7 (cso (by omega)) (jin_of 0 rfl ⟨by omega, by omega⟩)
   refine jm_iast c1 hm rfl sh_179 ⟨by omega, by omega⟩ e8 ?_
   refine jx_iinc c1 hm (v := (b1 + 1)) (L' := [some (.inr (.inr (.inl 173))), some (.inl (b1 + 1))]) rfl rfl (by omega) (by omega) rfl ?_
   refine jx_goto c1 hm 2 rfl rfl ?_
   exact ihW3 (b1 + 1) (by omega) M8 hH8 hF8 (by omega)
 exact W3 (133 + 1 : Int).toNat 0 (by omega) M0 hH0 hF0 (by omega)
def md_X12_takeBack_173 : List (Nat × (Nat × Nat)) := [(175, (101, 233))]
theorem ct_X12_takeBack_173 (X : Int) (hX : 0 ≤ X ∧ X ≤ 100000000) (M0 : JM) (hH0 : HI X M0)  : JOk shp PJ 1 189 [.inr (.inr (.inl 173))] M0 (jRv (fun M' => HI X M' ∧ Fr md_X12_takeBack_173 M0 M' )) := by
 refine ⟨jr_X12_takeBack, pj_X12_takeBack, fun F c1 c2 c3 => ?_⟩
 have hm := pj_X12_takeBack
 change F 0 [some (.inr (.inr (.inl 173))), none] [] M0
 have hF0 : Fr md_X12_takeBack_173 M0 M0 := Fr.rf _ _
 refine jy_ic c1 hm rfl (by decide) ?_
 refine jx_stor c1 hm (L' := [some (.inr (.inr (.inl 173))), some (.inl 0)]) rfl rfl rfl rfl rfl ?_
 have W3 : ∀ (n4 : Nat) (b1 : Int) (hb1 : 0 ≤ b1 ∧ b1 ≤ 133) (M2 : JM) (hH2 : HI (X) M2) (hF2 : Fr md_X12_takeBack_173 M0 M2), (-b1 + 133) < (n4 : Int) → F 2 [some (.inr (.inr (.inl 173))), some (.inl b1)] [] M2 := by
  intro n4
  induction n4 with
  | zero => intros; omega
  | succ n4 ihW3 =>
   intro b1 hb1 M2 hH2 hF2 hrW3
   refine jx_load c1 hm rfl rfl rfl rfl ?_
   refine jy_sp c1 hm rfl (by decide) ?_
   refine jc_ge c1 hm 30 rfl rfl (fun h5 => ?_) (fun h5 => ?_)
   ·
    exact jx_retv c2 hm rfl rfl ⟨rfl, hH2, hF2⟩
   refine jx_load c1 hm rfl rfl rfl rfl ?_
   refine jx_getr c1 hm rfl sh_173 rfl ?_
   refine jy_bp c1 hm rfl (by decide) ?_
   refine jx_load c1 hm rfl rfl rfl rfl ?_
   refine jy_add c1 hm (b1 + 101) rfl (by omega) ?_
   refine jx_load c1 hm rfl rfl rfl rfl ?_
   refine jx_getr c1 hm rfl sh_173 rfl ?_
   refine jx_load c1 hm rfl rfl rfl rfl ?_
   obtain ⟨z6, k7, lz6, uz6⟩ := hH2.any (by omega) (by omega) 179 (b1).toNat
   refine jx_iald c1 hm rfl sh_179 ⟨by omega, by omega⟩ k7 ?_
   obtain ⟨M8, e8, hH8, hF8, k8, n8, q8⟩ := mupc hH2 hF2 hH2 (c := 175) (i := ((b1 + 101)).toNat) (c1 := 179) (i1 := (b1).toNat) (v := z6) k7 ((cso (by omega)).symm) (jin_of 0 rfl ⟨by omega, by omega⟩)
   refine jm_iast c1 hm rfl sh_175 ⟨by omega, by omega⟩ e8 ?_
   refine jx_iinc c1 hm (v := (b1 + 1)) (L' := [some (.inr (.inr (.inl 173))), some (.inl (b1 + 1))]) rfl rfl (by omega) (by omega) rfl ?_
   refine jx_goto c1 hm 2 rfl rfl ?_
   exact ihW3 (b1 + 1) (by omega) M8 hH8 hF8 (by omega)
 exact W3 (133 + 1 : Int).toNat 0 (by omega) M0 hH0 hF0 (by omega)
def md_X12_odds_173 : List (Nat × (Nat × Nat)) := [(173, (0, 0)), (173, (43, 43)), (175, (101, 233)), (179, (0, 132)), (184, (0, 5))]
theorem ct_X12_odds_173 (X : Int) (hX : 0 ≤ X ∧ X ≤ 99967600) (M0 : JM) (hH0 : HI X M0) (a0 : Int) (ha0 : (-2147483648) ≤ a0 ∧ a0 ≤ 2147483647) (a1 : Int) (ha1 : (-2147483648) ≤ a1 ∧ a1 ≤ 2147483647) (a2 : Int) (ha2 : (-2147483648) ≤ a2 ∧ a2 ≤ 2147483647) : JOk shp PJ 14 139 [.inr (.inr (.inl 173)), .inl a0, .inl a1, .inl a2] M0 (jRi (fun v M' => HI (X + 32400) M' ∧ Fr md_X12_odds_173 M0 M' ∧ (-1) ≤ v ∧ v ≤ 30 )) := by
 refine ⟨jr_X12_odds, pj_X12_odds, fun F c1 c2 c3 => ?_⟩
 have hm := pj_X12_odds
 change F 0 [some (.inr (.inr (.inl 173))), some (.inl a0), some (.inl a1), some (.inl a2), none, none] [] M0
 have hF0 : Fr md_X12_odds_173 M0 M0 := Fr.rf _ _
 refine jx_load c1 hm rfl rfl rfl rfl ?_
 refine jy_ic c1 hm rfl (by decide) ?_
 obtain ⟨M1, e1, hH1, hF1, k1, n1, q1⟩ := mup hH0 hF0 (c := 173) (i := 0) (v := 0) (A := (-2147483648)) (B := 2147483647) (bs_28_0 _ _ (by omega) (by omega)) ⟨by omega, by omega⟩ (jin_of 0 rfl ⟨by omega, by omega⟩)
 refine jm_puti c1 hm rfl sh_173 rfl e1 ?_
 refine jx_load c1 hm rfl rfl rfl rfl ?_
 refine jx_load c1 hm rfl rfl rfl rfl ?_
 refine jv_i c3 hm rfl pj_X12_isMan rfl rfl ⟨_, _, _, rfl, sh_173⟩ rfl ((ct_X12_isMan_173 X (by omega) M1 hH1 a0 ⟨by omega, by omega⟩).le (by decide)) (fun z2 _ ⟨rfl, lz2, uz2, p3⟩ => ?_)
 refine jz_eq c1 hm 23 rfl rfl (fun h4 => ?_) (fun h4 => ?_)
 ·
  refine jy_ic c1 hm rfl (by decide) ?_
  exact jx_reti c2 hm rfl rfl ⟨_, rfl, (hH1.mono (by omega) (by omega)), hF1, by omega, by omega⟩
 refine jx_load c1 hm rfl rfl rfl rfl ?_
 refine jy_ic c1 hm rfl (by decide) ?_
 refine jy_bp c1 hm rfl (by decide) ?_
 refine jt_i c3 hm rfl rfl pj_X12_isIn rfl rfl rfl ((ct_X12_isIn X (by omega) M1 hH1 a1 ⟨by omega, by omega⟩ 1 ⟨by omega, by omega⟩ 30 ⟨by omega, by omega⟩).le (by decide)) (fun z5 _ ⟨rfl, lz5, uz5, p6⟩ => ?_)
 refine jz_ne c1 hm 25 rfl rfl (fun h7 => ?_) (fun h7 => ?_)
 ·
  refine jx_load c1 hm rfl rfl rfl rfl ?_
  refine jv_v c3 hm rfl pj_X12_layAside rfl rfl ⟨_, _, _, rfl, sh_173⟩ rfl ((ct_X12_layAside_173 X (by omega) M1 hH1 ).le (by decide)) (fun M8 ⟨hH8, hR8⟩ => ?_)
  have hF8 := hF1.tr hR8 (by decide +kernel)
  refine jy_ic c1 hm rfl (by decide) ?_
  refine jx_stor c1 hm (L' := [some (.inr (.inr (.inl 173))), some (.inl a0), some (.inl a1), some (.inl a2), some (.inl 0), none]) rfl rfl rfl rfl rfl ?_
  refine jy_ic c1 hm rfl (by decide) ?_
  refine jx_stor c1 hm (L' := [some (.inr (.inr (.inl 173))), some (.inl a0), some (.inl a1), some (.inl a2), some (.inl 0), some (.inl 0)]) rfl rfl rfl rfl rfl ?_
  have W15 : ∀ (n16 : Nat) (b9 : Int) (hb9 : 0 ≤ b9 ∧ b9 ≤ 36) (b10 : Int) (hb10 : 0 ≤ b10 ∧ b10 ≤ 30) (M11 : JM) (hH11 : HI (X + 1080 * b10) M11) (hF11 : Fr md_X12_odds_173 M0 M11) (k13 : M11.1 173 0 = 0) (h14 : b9 ≤ b10), (-b10 + 30) < (n16 : Int) → F 35 [some (.inr (.inr (.inl 173))), some (.inl a0), some (.inl a1), some (.inl a2), some (.inl b9), some (.inl b10)] [] M11 := by
   intro n16
   induction n16 with
   | zero => intros; omega
   | succ n16 ihW15 =>
    intro b9 hb9 b10 hb10 M11 hH11 hF11 k13 h14 hrW15
    refine jx_load c1 hm rfl rfl rfl rfl ?_
    refine jx_load c1 hm rfl rfl rfl rfl ?_
    refine jc_ge c1 hm 73 rfl rfl (fun h17 => ?_) (fun h17 => ?_)
    ·
     refine jx_load c1 hm rfl rfl rfl rfl ?_
     exact jx_reti c2 hm rfl rfl ⟨_, rfl, (hH11.mono (by omega) (by omega)), hF11, by omega, by omega⟩
    refine jx_load c1 hm rfl rfl rfl rfl ?_
    refine jy_bp c1 hm rfl (by decide) ?_
    refine jx_load c1 hm rfl rfl rfl rfl ?_
    refine jx_load c1 hm rfl rfl rfl rfl ?_
    refine jx_iopw c1 hm rfl rfl (fun z18 lz18 uz18 => ?_)
    refine jv_i c3 hm rfl pj_X12_drawWeeks rfl rfl ⟨_, _, _, rfl, sh_173⟩ rfl ((ct_X12_drawWeeks_173 (X + 1080 * b10) (by omega) M11 hH11 20 ⟨by omega, by omega⟩ z18 ⟨by omega, by omega⟩).le (by decide)) (fun z19 M20 ⟨hH20, hR20, lz19, uz19⟩ => ?_)
    have hF20 := hF11.tr hR20 (by decide +kernel)
    refine jx_pop c1 hm rfl rfl ?_
    refine jx_load c1 hm rfl rfl rfl rfl ?_
    refine jx_load c1 hm rfl rfl rfl rfl ?_
    refine jv_i c3 hm rfl pj_X12_goodsOf rfl rfl ⟨_, _, _, rfl, sh_173⟩ rfl ((ct_X12_goodsOf_173 (X + 1080 * b10 + 1080) (by omega) M20 hH20 a0 ⟨by omega, by omega⟩).le (by decide)) (fun z21 _ ⟨rfl, lz21, uz21⟩ => ?_)
    have J25 : ∀ (b23 : Int) (hb23 : 0 ≤ b23 ∧ b23 ≤ 31) (h24 : b23 ≤ b10 + 1), F 63 [some (.inr (.inr (.inl 173))), some (.inl a0), some (.inl a1), some (.inl a2), some (.inl b23), some (.inl b10)] [] M20 := by
     intro b23 hb23 h24
     refine jx_load c1 hm rfl rfl rfl rfl ?_
     refine jv_v c3 hm rfl pj_X12_takeBack rfl rfl ⟨_, _, _, rfl, sh_173⟩ rfl ((ct_X12_takeBack_173 (X + 1080 * b10 + 1080) (by omega) M20 hH20 ).le (by decide)) (fun M26 ⟨hH26, hR26⟩ => ?_)
     have hF26 := hF20.tr hR26 (by decide +kernel)
     refine jx_iinc c1 hm (v := (b10 + 1)) (L' := [some (.inr (.inr (.inl 173))), some (.inl a0), some (.inl a1), some (.inl a2), some (.inl b23), some (.inl (b10 + 1))]) rfl rfl (by omega) (by omega) rfl ?_
     refine jx_goto c1 hm 35 rfl rfl ?_
     have k27 : M26.1 173 0 = 0 := (hR26 173 0 (by decide +kernel)).trans ((hR20 173 0 (by decide +kernel)).trans k13)
     exact ihW15 b23 (by omega) (b10 + 1) (by omega) M26 (hH26.mono (by omega) (by omega)) hF26 k27 (by omega) (by omega)
    refine jz_eq c1 hm 63 rfl rfl (fun h22 => ?_) (fun h22 => ?_)
    ·
     exact J25 b9 (by omega) (by omega)
    refine jx_iinc c1 hm (v := (b9 + 1)) (L' := [some (.inr (.inr (.inl 173))), some (.inl a0), some (.inl a1), some (.inl a2), some (.inl (b9 + 1)), some (.inl b10)]) rfl rfl (by omega) (by omega) rfl ?_
    exact J25 (b9 + 1) (by omega) (by omega)
  have k12 : M8.1 173 0 = 0 := (hR8 173 0 (by decide +kernel)).trans k1
  exact W15 (30 + 1 : Int).toNat 0 (by omega) 0 (by omega) M8 (hH8.mono (by omega) (by omega)) hF8 k12 (by omega) (by omega)
 refine jy_ic c1 hm rfl (by decide) ?_
 exact jx_reti c2 hm rfl rfl ⟨_, rfl, (hH1.mono (by omega) (by omega)), hF1, by omega, by omega⟩
def md_X12_stay_173 : List (Nat × (Nat × Nat)) := [(173, (23, 23)), (175, (101, 233)), (178, (0, 1063)), (179, (0, 132))]
theorem ct_X12_stay_173 (X : Int) (hX : 0 ≤ X ∧ X ≤ 100000000) (M0 : JM) (hH0 : HI X M0) (a0 : Int) (ha0 : 0 ≤ a0 ∧ a0 ≤ 1) : JOk shp PJ 2 185 [.inr (.inr (.inl 173)), .inl a0] M0 (jRv (fun M' => HI X M' ∧ Fr md_X12_stay_173 M0 M' )) := by
 refine ⟨jr_X12_stay, pj_X12_stay, fun F c1 c2 c3 => ?_⟩
 have hm := pj_X12_stay
 change F 0 [some (.inr (.inr (.inl 173))), some (.inl a0), none, none] [] M0
 have hF0 : Fr md_X12_stay_173 M0 M0 := Fr.rf _ _
 refine jy_ic c1 hm rfl (by decide) ?_
 refine jx_stor c1 hm (L' := [some (.inr (.inr (.inl 173))), some (.inl a0), some (.inl 0), none]) rfl rfl rfl rfl rfl ?_
 have W4 : ∀ (n5 : Nat) (b1 : Int) (hb1 : 0 ≤ b1 ∧ b1 ≤ 133) (o2 : Option JV) (ho2 : o2 = none ∨ (∃ z, o2 = some (.inl z)) ∨ ∃ r, o2 = some (.inr (.inr r))) (M3 : JM) (hH3 : HI (X) M3) (hF3 : Fr md_X12_stay_173 M0 M3), (-b1 + 133) < (n5 : Int) → F 2 [some (.inr (.inr (.inl 173))), some (.inl a0), some (.inl b1), o2] [] M3 := by
  intro n5
  induction n5 with
  | zero => intros; omega
  | succ n5 ihW4 =>
   intro b1 hb1 o2 ho2 M3 hH3 hF3 hrW4
   refine jx_load c1 hm rfl rfl rfl rfl ?_
   refine jy_sp c1 hm rfl (by decide) ?_
   refine jc_ge c1 hm 47 rfl rfl (fun h6 => ?_) (fun h6 => ?_)
   ·
    refine jx_load c1 hm rfl rfl rfl rfl ?_
    refine jz_ne c1 hm 52 rfl rfl (fun h13 => ?_) (fun h13 => ?_)
    ·
     refine jx_load c1 hm rfl rfl rfl rfl ?_
     refine jv_v c3 hm rfl pj_X12_snap rfl rfl ⟨_, _, _, rfl, sh_173⟩ rfl ((ct_X12_snap_173 X (by omega) M3 hH3 ).le (by decide)) (fun M14 ⟨hH14, hR14⟩ => ?_)
     have hF14 := hF3.tr hR14 (by decide +kernel)
     refine jx_load c1 hm rfl rfl rfl rfl ?_
     refine jv_v c3 hm rfl pj_X12_takeBack rfl rfl ⟨_, _, _, rfl, sh_173⟩ rfl ((ct_X12_takeBack_173 X (by omega) M14 hH14 ).le (by decide)) (fun M15 ⟨hH15, hR15⟩ => ?_)
     have hF15 := hF14.tr hR15 (by decide +kernel)
     exact jx_retv c2 hm rfl rfl ⟨rfl, hH15, hF15⟩
    exact jx_retv c2 hm rfl rfl ⟨rfl, hH3, hF3⟩
   refine jx_load c1 hm rfl rfl rfl rfl ?_
   refine jx_getr c1 hm rfl sh_173 rfl ?_
   refine jy_bp c1 hm rfl (by decide) ?_
   refine jx_load c1 hm rfl rfl rfl rfl ?_
   refine jy_add c1 hm (b1 + 101) rfl (by omega) ?_
   obtain ⟨z7, k8, lz7, uz7⟩ := hH3.any (by omega) (by omega) 175 ((b1 + 101)).toNat
   refine jx_iald c1 hm rfl sh_175 ⟨by omega, by omega⟩ k8 ?_
   refine jx_stor c1 hm (L' := [some (.inr (.inr (.inl 173))), some (.inl a0), some (.inl b1), some (.inl z7)]) rfl rfl rfl rfl rfl ?_
   refine jx_load c1 hm rfl rfl rfl rfl ?_
   refine jx_getr c1 hm rfl sh_173 rfl ?_
   refine jy_bp c1 hm rfl (by decide) ?_
   refine jx_load c1 hm rfl rfl rfl rfl ?_
   refine jy_add c1 hm (b1 + 101) rfl (by omega) ?_
   refine jx_load c1 hm rfl rfl rfl rfl ?_
   refine jx_getr c1 hm rfl sh_173 rfl ?_
   refine jx_load c1 hm rfl rfl rfl rfl ?_
   obtain ⟨z9, k10, lz9, uz9⟩ := hH3.any (by omega) (by omega) 179 (b1).toNat
   refine jx_iald c1 hm rfl sh_179 ⟨by omega, by omega⟩ k10 ?_
   obtain ⟨M11, e11, hH11, hF11, k11, n11, q11⟩ := mupc hH3 hF3 hH3 (c := 175) (i := ((b1 + 101)).toNat) (c1 := 179) (i1 := (b1).toNat) (v := z9) k10 ((cso (by omega)).symm) (jin_of 1 rfl ⟨by omega, by omega⟩)
   refine jm_iast c1 hm rfl sh_175 ⟨by omega, by omega⟩ e11 ?_
   refine jx_load c1 hm rfl rfl rfl rfl ?_
   refine jx_getr c1 hm rfl sh_173 rfl ?_
   refine jx_load c1 hm rfl rfl rfl rfl ?_
   refine jx_load c1 hm rfl rfl rfl rfl ?_
   obtain ⟨M12, e12, hH12, hF12, k12, n12, q12⟩ := mupc hH11 hF11 hH3 (c := 179) (i := (b1).toNat) (c1 := 175) (i1 := ((b1 + 101)).toNat) (v := z7) k8 (cso (by omega)) (jin_of 3 rfl ⟨by omega, by omega⟩)
   refine jm_iast c1 hm rfl sh_179 ⟨by omega, by omega⟩ e12 ?_
   refine jx_iinc c1 hm (v := (b1 + 1)) (L' := [some (.inr (.inr (.inl 173))), some (.inl a0), some (.inl (b1 + 1)), some (.inl z7)]) rfl rfl (by omega) (by omega) rfl ?_
   refine jx_goto c1 hm 2 rfl rfl ?_
   exact ihW4 (b1 + 1) (by omega) (some (.inl z7)) (Or.inr (Or.inl ⟨_, rfl⟩)) M12 hH12 hF12 (by omega)
 exact W4 (133 + 1 : Int).toNat 0 (by omega) none (Or.inl rfl) M0 hH0 hF0 (by omega)
def md_X12_keep_173 : List (Nat × (Nat × Nat)) := [(195, (0, 159))]
theorem ct_X12_keep_173 (X : Int) (hX : 0 ≤ X ∧ X ≤ 100000000) (M0 : JM) (hH0 : HI X M0) (a0 : Int) (ha0 : 0 ≤ a0 ∧ a0 ≤ 159) (a1 : Int) (ha1 : 0 ≤ a1 ∧ a1 ≤ 1) (hp0 : a1 = 0 ∨ ((bnd X 195 (a0).toNat).1 ≤ M0.1 173 13 ∧ M0.1 173 13 ≤ (bnd X 195 (a0).toNat).2)) : JOk shp PJ 1 125 [.inr (.inr (.inl 173)), .inl a0, .inl a1] M0 (jRi (fun v M' => HI X M' ∧ Fr md_X12_keep_173 M0 M' ∧ 0 ≤ v ∧ v ≤ 1 ∧ (v = a1))) := by
 refine ⟨jr_X12_keep, pj_X12_keep, fun F c1 c2 c3 => ?_⟩
 have hm := pj_X12_keep
 change F 0 [some (.inr (.inr (.inl 173))), some (.inl a0), some (.inl a1)] [] M0
 have hF0 : Fr md_X12_keep_173 M0 M0 := Fr.rf _ _
 obtain ⟨z1, k2, lz1, uz1⟩ := hH0.ld (c := 173) (i := 13) (A := (-2147483648)) (B := 2147483647) (bs_28_7 _ _ (by omega) (by omega))
 refine jx_load c1 hm rfl rfl rfl rfl ?_
 refine jz_eq c1 hm 14 rfl rfl (fun h3 => ?_) (fun h3 => ?_)
 ·
  refine jx_load c1 hm rfl rfl rfl rfl ?_
  exact jx_retz c2 hm rfl rfl ⟨by omega, by omega⟩ ⟨_, rfl, hH0, hF0, by omega, by omega, (by omega)⟩
 refine jx_load c1 hm rfl rfl rfl rfl ?_
 refine jx_getr c1 hm rfl sh_173 rfl ?_
 refine jx_load c1 hm rfl rfl rfl rfl ?_
 refine jx_load c1 hm rfl rfl rfl rfl ?_
 refine jx_geti c1 hm rfl sh_173 rfl k2 ?_
 obtain ⟨M4, e4, hH4, hF4, k4, n4, q4⟩ := mup hH0 hF0 (c := 195) (i := (a0).toNat) (v := z1) (A := (bnd (X) 195 (a0).toNat).1) (B := (bnd (X) 195 (a0).toNat).2) rfl (by omega) (jin_of 0 rfl ⟨by omega, by omega⟩)
 refine jm_iast c1 hm rfl sh_195 ⟨by omega, by omega⟩ e4 ?_
 refine jx_load c1 hm rfl rfl rfl rfl ?_
 exact jx_retz c2 hm rfl rfl ⟨by omega, by omega⟩ ⟨_, rfl, hH4, hF4, by omega, by omega, (by omega)⟩
theorem ct_X12_findIn_180 (X : Int) (hX : 0 ≤ X ∧ X ≤ 100000000) (M0 : JM) (hH0 : HI X M0) (a0 : Int) (ha0 : 0 ≤ a0 ∧ a0 ≤ 12) (a1 : Int) (ha1 : 0 ≤ a1 ∧ a1 ≤ 6) (a2 : Int64) : JOk shp PJ 1 104 [.inr (.inr (.inl 180)), .inl a0, .inl a1, .inr (.inl a2)] M0 (jRi (fun v M' => M0 = M' ∧ (-1) ≤ v ∧ v ≤ 5 ∧ (v = -1 ∨ M0.2 180 (a0 + v).toNat = a2) ∧ (v ≠ -1 ∨ ∀ k : Int, 0 ≤ k → k < a1 → M0.2 180 (a0 + k).toNat ≠ a2) ∧ (v = -1 ∨ v < a1))) := by
 refine ⟨jr_X12_findIn, pj_X12_findIn, fun F c1 c2 c3 => ?_⟩
 have hm := pj_X12_findIn
 change F 0 [some (.inr (.inr (.inl 180))), some (.inl a0), some (.inl a1), some (.inr (.inl a2)), none, none] [] M0
 refine jy_ic c1 hm rfl (by decide) ?_
 refine jx_stor c1 hm (L' := [some (.inr (.inr (.inl 180))), some (.inl a0), some (.inl a1), some (.inr (.inl a2)), none, some (.inl 0)]) rfl rfl rfl rfl rfl ?_
 have W3 : ∀ (n4 : Nat) (b1 : Int) (hb1 : 0 ≤ b1 ∧ b1 ≤ 6) (hfn : ∀ k : Int, 0 ≤ k → k < b1 → M0.2 180 (a0 + k).toNat ≠ a2), (-b1 + 6) < (n4 : Int) → F 3 [some (.inr (.inr (.inl 180))), some (.inl a0), some (.inl a1), some (.inr (.inl a2)), none, some (.inl b1)] [] M0 := by
  intro n4
  induction n4 with
  | zero => intros; omega
  | succ n4 ihW3 =>
   intro b1 hb1 hfn hrW3
   refine jx_load c1 hm rfl rfl rfl rfl ?_
   refine jx_load c1 hm rfl rfl rfl rfl ?_
   refine jc_ge c1 hm 29 rfl rfl (fun h5 => ?_) (fun h5 => ?_)
   ·
    refine jy_ic c1 hm rfl (by decide) ?_
    exact jx_reti c2 hm rfl rfl ⟨_, rfl, rfl, by omega, by omega, (Or.inl rfl), (Or.inr (fun k h1 h2 => hfn k h1 (by omega))), (by omega)⟩
   refine jx_load c1 hm rfl rfl rfl rfl ?_
   refine jx_load c1 hm rfl rfl rfl rfl ?_
   refine jx_load c1 hm rfl rfl rfl rfl ?_
   refine jy_add c1 hm (a0 + b1) rfl (by omega) ?_
   obtain ⟨w6, kw6⟩ : ∃ w, M0.2 180 ((a0 + b1)).toNat = w := ⟨_, rfl⟩
   have bw6 : LB w6.toInt := kw6 ▸ hH0.2.1 180 _ rfl
   refine jx_lald c1 hm rfl sh_180 ⟨by omega, by omega⟩ kw6 ?_
   refine jx_load c1 hm rfl rfl rfl rfl ?_
   refine jx_lcmp c1 hm rfl (fun z7 lz7 uz7 ez7 fz7 => ?_)
   refine jz_ne c1 hm 23 rfl rfl (fun h8 => ?_) (fun h8 => ?_)
   ·
    refine jx_iinc c1 hm (v := (b1 + 1)) (L' := [some (.inr (.inr (.inl 180))), some (.inl a0), some (.inl a1), some (.inr (.inl a2)), none, some (.inl (b1 + 1))]) rfl rfl (by omega) (by omega) rfl ?_
    refine jx_goto c1 hm 3 rfl rfl ?_
    exact ihW3 (b1 + 1) (by omega) (fun k h1 h2 => if c : k < b1 then hfn k h1 c else (by have e : k = b1 := (by omega); subst e; rw [kw6]; exact fun y => absurd (ez7.mpr y) (by omega))) (by omega)
   refine jx_load c1 hm rfl rfl rfl rfl ?_
   exact jx_reti c2 hm rfl rfl ⟨_, rfl, rfl, by omega, by omega, (Or.inr (kw6.trans (ez7.mp (by omega)))), (Or.inl (by omega)), (by omega)⟩
 exact W3 (6 + 1 : Int).toNat 0 (by omega) (fun k h1 h2 => by omega) (by omega)
def md_X12_readNamed_173 : List (Nat × (Nat × Nat)) := [(173, (5, 5)), (173, (6, 6)), (173, (7, 7)), (173, (8, 8)), (173, (9, 9)), (173, (10, 10)), (173, (11, 11)), (173, (13, 13))]
theorem ct_X12_readNamed_173 (X : Int) (hX : 0 ≤ X ∧ X ≤ 100000000) (M0 : JM) (hH0 : HI X M0) (a0 : Int) (ha0 : 0 ≤ a0 ∧ a0 ≤ 12) (a1 : Int) (ha1 : 0 ≤ a1 ∧ a1 ≤ 6) : JOk shp PJ 4 164 [.inr (.inr (.inl 173)), .inl a0, .inl a1] M0 (jRi (fun v M' => HI X M' ∧ Fr md_X12_readNamed_173 M0 M' ∧ 0 ≤ v ∧ v ≤ 1 ∧ (M0.1 173 5 ≤ M'.1 173 5) ∧ (v = 1 → 0 ≤ M'.1 173 13 ∧ M'.1 173 13 ≤ 5) ∧ (v = 1 → M0.1 173 7 = 2))) := by
 refine ⟨jr_X12_readNamed, pj_X12_readNamed, fun F c1 c2 c3 => ?_⟩
 have hm := pj_X12_readNamed
 change F 0 [some (.inr (.inr (.inl 173))), some (.inl a0), some (.inl a1)] [] M0
 have hF0 : Fr md_X12_readNamed_173 M0 M0 := Fr.rf _ _
 obtain ⟨z1, k2, lz1, uz1⟩ := hH0.ld (c := 173) (i := 5) (A := 0) (B := 940) (bs_28_3 _ _ (by omega) (by omega))
 obtain ⟨z3, k4, lz3, uz3⟩ := hH0.ld (c := 173) (i := 7) (A := 0) (B := 4) (bs_28_4 _ _ (by omega) (by omega))
 refine jx_load c1 hm rfl rfl rfl rfl ?_
 refine jv_i c3 hm rfl pj_X12_isName rfl rfl ⟨_, _, _, rfl, sh_173⟩ rfl ((ct_X12_isName_173 X (by omega) M0 hH0 ).le (by decide)) (fun z5 _ ⟨rfl, lz5, uz5, p6⟩ => ?_)
 refine jz_ne c1 hm 13 rfl rfl (fun h7 => ?_) (fun h7 => ?_)
 ·
  refine jx_load c1 hm rfl rfl rfl rfl ?_
  refine jx_load c1 hm rfl rfl rfl rfl ?_
  refine jx_getr c1 hm rfl sh_173 rfl ?_
  refine jx_load c1 hm rfl rfl rfl rfl ?_
  refine jx_load c1 hm rfl rfl rfl rfl ?_
  refine jx_load c1 hm rfl rfl rfl rfl ?_
  obtain ⟨w8, kw8⟩ : ∃ w, M0.2 173 12 = w := ⟨_, rfl⟩
  have bw8 : LB w8.toInt := kw8 ▸ hH0.2.1 173 12 rfl
  refine jx_getl c1 hm rfl sh_173 rfl kw8 ?_
  refine jt_i c3 hm rfl rfl pj_X12_findIn rfl rfl rfl ((ct_X12_findIn_180 X (by omega) M0 hH0 a0 ⟨by omega, by omega⟩ a1 ⟨by omega, by omega⟩ w8).le (by decide)) (fun z9 _ ⟨rfl, lz9, uz9, p10, p11, p12⟩ => ?_)
  clear p10 p11 p12
  obtain ⟨M13, e13, hH13, hF13, k13, n13, q13⟩ := mup hH0 hF0 (c := 173) (i := 13) (v := z9) (A := (-2147483648)) (B := 2147483647) (bs_28_7 _ _ (by omega) (by omega)) ⟨by omega, by omega⟩ (jin_of 7 rfl ⟨by omega, by omega⟩)
  refine jm_puti c1 hm rfl sh_173 rfl e13 ?_
  refine jx_load c1 hm rfl rfl rfl rfl ?_
  refine jx_geti c1 hm rfl sh_173 rfl k13 ?_
  refine jy_ic c1 hm rfl (by decide) ?_
  refine jc_ne c1 hm 44 rfl rfl (fun h14 => ?_) (fun h14 => ?_)
  ·
   refine jx_load c1 hm rfl rfl rfl rfl ?_
   have k15 : M13.1 173 5 = z1 := (n13 173 5 (by decide)).trans k2
   refine jv_v c3 hm rfl pj_X12_go rfl rfl ⟨_, _, _, rfl, sh_173⟩ rfl ((ct_X12_go_173 X (by omega) M13 hH13 ).le (by decide)) (fun M18 ⟨hH18, hR18, p16, p17⟩ => ?_)
   have hF18 := hF13.tr hR18 (by decide +kernel)
   obtain ⟨z19, k20, lz19, uz19⟩ := hH18.ld (c := 173) (i := 5) (A := 0) (B := 940) (bs_28_3 _ _ (by omega) (by omega))
   obtain ⟨z21, k22, lz21, uz21⟩ := hH18.ld (c := 173) (i := 7) (A := 0) (B := 4) (bs_28_4 _ _ (by omega) (by omega))
   refine jy_ic c1 hm rfl (by decide) ?_
   have k23 : M18.1 173 13 = z9 := (hR18 173 13 (by decide +kernel)).trans k13
   exact jx_retz c2 hm rfl rfl ⟨by omega, by omega⟩ ⟨_, rfl, hH18, hF18, by omega, by omega, (by omega), (by omega), (by omega)⟩
  refine jx_load c1 hm rfl rfl rfl rfl ?_
  refine jy_ic c1 hm rfl (by decide) ?_
  refine jv_i c3 hm rfl pj_X12_bad rfl rfl ⟨_, _, _, rfl, sh_173⟩ rfl ((ct_X12_bad_173 X (by omega) M13 hH13 3 ⟨by omega, by omega⟩).le (by decide)) (fun z24 M26 ⟨hH26, hR26, lz24, uz24, p25⟩ => ?_)
  have hF26 := hF13.tr hR26 (by decide +kernel)
  have k27 : M26.1 173 5 = z1 := (hR26 173 5 (by decide +kernel)).trans ((n13 173 5 (by decide)).trans k2)
  have k28 : M26.1 173 7 = z3 := (hR26 173 7 (by decide +kernel)).trans ((n13 173 7 (by decide)).trans k4)
  have k29 : M26.1 173 13 = z9 := (hR26 173 13 (by decide +kernel)).trans k13
  exact jx_retz c2 hm rfl rfl ⟨by omega, by omega⟩ ⟨_, rfl, hH26, hF26, by omega, by omega, (by omega), (by omega), (by omega)⟩
 refine jx_load c1 hm rfl rfl rfl rfl ?_
 refine jy_ic c1 hm rfl (by decide) ?_
 refine jv_i c3 hm rfl pj_X12_bad rfl rfl ⟨_, _, _, rfl, sh_173⟩ rfl ((ct_X12_bad_173 X (by omega) M0 hH0 1 ⟨by omega, by omega⟩).le (by decide)) (fun z30 M32 ⟨hH32, hR32, lz30, uz30, p31⟩ => ?_)
 have hF32 := hF0.tr hR32 (by decide +kernel)
 have k33 : M32.1 173 5 = z1 := (hR32 173 5 (by decide +kernel)).trans k2
 have k34 : M32.1 173 7 = z3 := (hR32 173 7 (by decide +kernel)).trans k4
 obtain ⟨z35, k36, lz35, uz35⟩ := hH32.ld (c := 173) (i := 13) (A := (-2147483648)) (B := 2147483647) (bs_28_7 _ _ (by omega) (by omega))
 exact jx_retz c2 hm rfl rfl ⟨by omega, by omega⟩ ⟨_, rfl, hH32, hF32, by omega, by omega, (by omega), (by omega), (by omega)⟩
def md_X12_readDoes_173 : List (Nat × (Nat × Nat)) := [(173, (5, 5)), (173, (6, 6)), (173, (7, 7)), (173, (8, 8)), (173, (9, 9)), (173, (10, 10)), (173, (11, 11)), (173, (13, 13)), (195, (0, 159))]
theorem ct_X12_readDoes_173 (X : Int) (hX : 0 ≤ X ∧ X ≤ 100000000) (M0 : JM) (hH0 : HI X M0) (a0 : Int) (ha0 : 0 ≤ a0 ∧ a0 ≤ 156) (hp0 : a0 % 4 = 0) : JOk shp PJ 5 156 [.inr (.inr (.inl 173)), .inl a0] M0 (jRi (fun v M' => HI X M' ∧ Fr md_X12_readDoes_173 M0 M' ∧ 0 ≤ v ∧ v ≤ 1 ∧ (M0.1 173 5 ≤ M'.1 173 5))) := by
 refine ⟨jr_X12_readDoes, pj_X12_readDoes, fun F c1 c2 c3 => ?_⟩
 have hm := pj_X12_readDoes
 change F 0 [some (.inr (.inr (.inl 173))), some (.inl a0), none] [] M0
 have hF0 : Fr md_X12_readDoes_173 M0 M0 := Fr.rf _ _
 obtain ⟨z1, k2, lz1, uz1⟩ := hH0.ld (c := 173) (i := 5) (A := 0) (B := 940) (bs_28_3 _ _ (by omega) (by omega))
 refine jy_bp c1 hm rfl (by decide) ?_
 refine jx_stor c1 hm (L' := [some (.inr (.inr (.inl 173))), some (.inl a0), some (.inl 7)]) rfl rfl rfl rfl rfl ?_
 have W4 : ∀ (n5 : Nat) (b3 : Int) (hb3 : 7 ≤ b3 ∧ b3 ≤ 11), (-b3 + 11) < (n5 : Int) → F 3 [some (.inr (.inr (.inl 173))), some (.inl a0), some (.inl b3)] [] M0 := by
  intro n5
  induction n5 with
  | zero => intros; omega
  | succ n5 ihW4 =>
   intro b3 hb3 hrW4
   refine jx_load c1 hm rfl rfl rfl rfl ?_
   refine jy_bp c1 hm rfl (by decide) ?_
   have J12 : F 23 [some (.inr (.inr (.inl 173))), some (.inl a0), some (.inl b3)] [] M0 := by
    refine jx_load c1 hm rfl rfl rfl rfl ?_
    refine jy_bp c1 hm rfl (by decide) ?_
    refine jc_le c1 hm 35 rfl rfl (fun h13 => ?_) (fun h13 => ?_)
    ·
     refine jx_load c1 hm rfl rfl rfl rfl ?_
     refine jx_getr c1 hm rfl sh_173 rfl ?_
     refine jx_load c1 hm rfl rfl rfl rfl ?_
     refine jx_load c1 hm rfl rfl rfl rfl ?_
     refine jy_bp c1 hm rfl (by decide) ?_
     refine jy_sub c1 hm (b3 - 7) rfl (by omega) ?_
     obtain ⟨M14, e14, hH14, hF14, k14, n14, q14⟩ := mup hH0 hF0 (c := 195) (i := (a0).toNat) (v := (b3 - 7)) (A := 0) (B := 5) (bs_17_0 _ _ (by omega) (by omega)) ⟨by omega, by omega⟩ (jin_of 8 rfl ⟨by omega, by omega⟩)
     refine jm_iast c1 hm rfl sh_195 ⟨by omega, by omega⟩ e14 ?_
     refine jx_load c1 hm rfl rfl rfl rfl ?_
     have k15 : M14.1 173 5 = z1 := (n14 173 5 (fun h => absurd h.1 (by decide))).trans k2
     refine jv_v c3 hm rfl pj_X12_go rfl rfl ⟨_, _, _, rfl, sh_173⟩ rfl ((ct_X12_go_173 X (by omega) M14 hH14 ).le (by decide)) (fun M18 ⟨hH18, hR18, p16, p17⟩ => ?_)
     have hF18 := hF14.tr hR18 (by decide +kernel)
     obtain ⟨z19, k20, lz19, uz19⟩ := hH18.ld (c := 173) (i := 5) (A := 0) (B := 940) (bs_28_3 _ _ (by omega) (by omega))
     obtain ⟨z21, k22, lz21, uz21⟩ := hH18.ld (c := 173) (i := 7) (A := 0) (B := 4) (bs_28_4 _ _ (by omega) (by omega))
     refine jx_load c1 hm rfl rfl rfl rfl ?_
     refine jx_getr c1 hm rfl sh_173 rfl ?_
     refine jx_load c1 hm rfl rfl rfl rfl ?_
     obtain ⟨z23, k24, lz23, uz23⟩ := hH18.ld (c := 195) (i := (a0).toNat) (A := 0) (B := 5) (bs_17_0 _ _ (by omega) (by omega))
     refine jx_iald c1 hm rfl sh_195 ⟨by omega, by omega⟩ k24 ?_
     by_cases h25 : z23 = 0
     ·
      refine jx_lsw c1 hm 80 rfl rfl (by rw [h25] <;> rfl) rfl ?_
      refine jx_load c1 hm rfl rfl rfl rfl ?_
      refine jx_load c1 hm rfl rfl rfl rfl ?_
      refine jy_ic c1 hm rfl (by decide) ?_
      refine jy_add c1 hm (a0 + 2) rfl (by omega) ?_
      refine jx_load c1 hm rfl rfl rfl rfl ?_
      refine jy_bp c1 hm rfl (by decide) ?_
      refine jx_load c1 hm rfl rfl rfl rfl ?_
      refine jx_getr c1 hm rfl sh_173 rfl ?_
      refine jy_ic c1 hm rfl (by decide) ?_
      obtain ⟨z26, k27, lz26, uz26⟩ := hH18.ld (c := 175) (i := 1) (A := 0) (B := 6) (bs_11_0 _ _ (by omega) (by omega))
      refine jx_iald c1 hm rfl sh_175 ⟨by omega, by omega⟩ k27 ?_
      refine jv_i c3 hm rfl pj_X12_readNamed rfl rfl ⟨_, _, _, rfl, sh_173⟩ rfl ((ct_X12_readNamed_173 X (by omega) M18 hH18 6 ⟨by omega, by omega⟩ z26 ⟨by omega, by omega⟩).le (by decide)) (fun z28 M32 ⟨hH32, hR32, lz28, uz28, p29, p30, p31⟩ => ?_)
      have hF32 := hF18.tr hR32 (by decide +kernel)
      obtain ⟨z33, k34, lz33, uz33⟩ := hH32.ld (c := 173) (i := 5) (A := 0) (B := 940) (bs_28_3 _ _ (by omega) (by omega))
      obtain ⟨z35, k36, lz35, uz35⟩ := hH32.ld (c := 173) (i := 13) (A := (-2147483648)) (B := 2147483647) (bs_28_7 _ _ (by omega) (by omega))
      refine jv_i c3 hm rfl pj_X12_keep rfl rfl ⟨_, _, _, rfl, sh_173⟩ rfl ((ct_X12_keep_173 X (by omega) M32 hH32 (a0 + 2) ⟨by omega, by omega⟩ z28 ⟨by omega, by omega⟩ (by rw [show bnd X 195 ((a0 + 2) : Int).toNat = (0, 5) from (bs_17_1 _ _ (by omega) (by omega))]; dsimp only; omega)).le (by decide)) (fun z37 M39 ⟨hH39, hR39, lz37, uz37, p38⟩ => ?_)
      have hF39 := hF32.tr hR39 (by decide +kernel)
      have k40 : M39.1 173 5 = z33 := (hR39 173 5 (by decide +kernel)).trans k34
      exact jx_retz c2 hm rfl rfl ⟨by omega, by omega⟩ ⟨_, rfl, hH39, hF39, by omega, by omega, (by omega)⟩
     by_cases h41 : z23 = 1
     ·
      refine jx_lsw c1 hm 100 rfl rfl (by rw [h41] <;> rfl) rfl ?_
      refine jx_load c1 hm rfl rfl rfl rfl ?_
      refine jx_load c1 hm rfl rfl rfl rfl ?_
      refine jy_ic c1 hm rfl (by decide) ?_
      refine jy_add c1 hm (a0 + 2) rfl (by omega) ?_
      refine jx_load c1 hm rfl rfl rfl rfl ?_
      refine jy_bp c1 hm rfl (by decide) ?_
      refine jx_load c1 hm rfl rfl rfl rfl ?_
      refine jx_getr c1 hm rfl sh_173 rfl ?_
      refine jy_ic c1 hm rfl (by decide) ?_
      obtain ⟨z42, k43, lz42, uz42⟩ := hH18.ld (c := 175) (i := 2) (A := 0) (B := 6) (bs_11_0 _ _ (by omega) (by omega))
      refine jx_iald c1 hm rfl sh_175 ⟨by omega, by omega⟩ k43 ?_
      refine jv_i c3 hm rfl pj_X12_readNamed rfl rfl ⟨_, _, _, rfl, sh_173⟩ rfl ((ct_X12_readNamed_173 X (by omega) M18 hH18 12 ⟨by omega, by omega⟩ z42 ⟨by omega, by omega⟩).le (by decide)) (fun z44 M48 ⟨hH48, hR48, lz44, uz44, p45, p46, p47⟩ => ?_)
      have hF48 := hF18.tr hR48 (by decide +kernel)
      obtain ⟨z49, k50, lz49, uz49⟩ := hH48.ld (c := 173) (i := 5) (A := 0) (B := 940) (bs_28_3 _ _ (by omega) (by omega))
      obtain ⟨z51, k52, lz51, uz51⟩ := hH48.ld (c := 173) (i := 13) (A := (-2147483648)) (B := 2147483647) (bs_28_7 _ _ (by omega) (by omega))
      refine jv_i c3 hm rfl pj_X12_keep rfl rfl ⟨_, _, _, rfl, sh_173⟩ rfl ((ct_X12_keep_173 X (by omega) M48 hH48 (a0 + 2) ⟨by omega, by omega⟩ z44 ⟨by omega, by omega⟩ (by rw [show bnd X 195 ((a0 + 2) : Int).toNat = (0, 5) from (bs_17_1 _ _ (by omega) (by omega))]; dsimp only; omega)).le (by decide)) (fun z53 M55 ⟨hH55, hR55, lz53, uz53, p54⟩ => ?_)
      have hF55 := hF48.tr hR55 (by decide +kernel)
      have k56 : M55.1 173 5 = z49 := (hR55 173 5 (by decide +kernel)).trans k50
      exact jx_retz c2 hm rfl rfl ⟨by omega, by omega⟩ ⟨_, rfl, hH55, hF55, by omega, by omega, (by omega)⟩
     refine jx_lsw c1 hm 120 rfl rfl (jlsd ⟨by omega, by omega, trivial⟩) rfl ?_
     refine jx_load c1 hm rfl rfl rfl rfl ?_
     refine jx_load c1 hm rfl rfl rfl rfl ?_
     refine jy_ic c1 hm rfl (by decide) ?_
     refine jy_add c1 hm (a0 + 2) rfl (by omega) ?_
     refine jx_load c1 hm rfl rfl rfl rfl ?_
     refine jy_ic c1 hm rfl (by decide) ?_
     refine jx_load c1 hm rfl rfl rfl rfl ?_
     refine jx_getr c1 hm rfl sh_173 rfl ?_
     refine jy_ic c1 hm rfl (by decide) ?_
     obtain ⟨z57, k58, lz57, uz57⟩ := hH18.ld (c := 175) (i := 0) (A := 0) (B := 6) (bs_11_0 _ _ (by omega) (by omega))
     refine jx_iald c1 hm rfl sh_175 ⟨by omega, by omega⟩ k58 ?_
     refine jv_i c3 hm rfl pj_X12_readNamed rfl rfl ⟨_, _, _, rfl, sh_173⟩ rfl ((ct_X12_readNamed_173 X (by omega) M18 hH18 0 ⟨by omega, by omega⟩ z57 ⟨by omega, by omega⟩).le (by decide)) (fun z59 M63 ⟨hH63, hR63, lz59, uz59, p60, p61, p62⟩ => ?_)
     have hF63 := hF18.tr hR63 (by decide +kernel)
     obtain ⟨z64, k65, lz64, uz64⟩ := hH63.ld (c := 173) (i := 5) (A := 0) (B := 940) (bs_28_3 _ _ (by omega) (by omega))
     obtain ⟨z66, k67, lz66, uz66⟩ := hH63.ld (c := 173) (i := 13) (A := (-2147483648)) (B := 2147483647) (bs_28_7 _ _ (by omega) (by omega))
     refine jv_i c3 hm rfl pj_X12_keep rfl rfl ⟨_, _, _, rfl, sh_173⟩ rfl ((ct_X12_keep_173 X (by omega) M63 hH63 (a0 + 2) ⟨by omega, by omega⟩ z59 ⟨by omega, by omega⟩ (by rw [show bnd X 195 ((a0 + 2) : Int).toNat = (0, 5) from (bs_17_1 _ _ (by omega) (by omega))]; dsimp only; omega)).le (by decide)) (fun z68 M70 ⟨hH70, hR70, lz68, uz68, p69⟩ => ?_)
     have hF70 := hF63.tr hR70 (by decide +kernel)
     refine jz_eq c1 hm 162 rfl rfl (fun h71 => ?_) (fun h71 => ?_)
     ·
      refine jy_ic c1 hm rfl (by decide) ?_
      have k72 : M70.1 173 5 = z64 := (hR70 173 5 (by decide +kernel)).trans k65
      exact jx_retz c2 hm rfl rfl ⟨by omega, by omega⟩ ⟨_, rfl, hH70, hF70, by omega, by omega, (by omega)⟩
     refine jx_load c1 hm rfl rfl rfl rfl ?_
     refine jx_load c1 hm rfl rfl rfl rfl ?_
     refine jy_ic c1 hm rfl (by decide) ?_
     refine jy_add c1 hm (a0 + 3) rfl (by omega) ?_
     refine jx_load c1 hm rfl rfl rfl rfl ?_
     refine jy_ic c1 hm rfl (by decide) ?_
     refine jy_bp c1 hm rfl (by decide) ?_
     have k73 : M70.1 173 5 = z64 := (hR70 173 5 (by decide +kernel)).trans k65
     obtain ⟨z74, k75, lz74, uz74⟩ := hH70.ld (c := 173) (i := 7) (A := 0) (B := 4) (bs_28_4 _ _ (by omega) (by omega))
     refine jv_i c3 hm rfl pj_X12_readNumber rfl rfl ⟨_, _, _, rfl, sh_173⟩ rfl ((ct_X12_readNumber_173 X (by omega) M70 hH70 1 ⟨by omega, by omega⟩ 99 ⟨by omega, by omega⟩).le (by decide)) (fun z76 M80 ⟨hH80, hR80, lz76, uz76, p77, p78, p79⟩ => ?_)
     have hF80 := hF70.tr hR80 (by decide +kernel)
     obtain ⟨z81, k82, lz81, uz81⟩ := hH80.ld (c := 173) (i := 5) (A := 0) (B := 940) (bs_28_3 _ _ (by omega) (by omega))
     obtain ⟨z83, k84, lz83, uz83⟩ := hH80.ld (c := 173) (i := 13) (A := (-2147483648)) (B := 2147483647) (bs_28_7 _ _ (by omega) (by omega))
     refine jv_i c3 hm rfl pj_X12_keep rfl rfl ⟨_, _, _, rfl, sh_173⟩ rfl ((ct_X12_keep_173 X (by omega) M80 hH80 (a0 + 3) ⟨by omega, by omega⟩ z76 ⟨by omega, by omega⟩ (by rw [show bnd X 195 ((a0 + 3) : Int).toNat = (0, 99) from (bs_17_2 _ _ (by omega) (by omega))]; dsimp only; omega)).le (by decide)) (fun z85 M87 ⟨hH87, hR87, lz85, uz85, p86⟩ => ?_)
     have hF87 := hF80.tr hR87 (by decide +kernel)
     refine jz_eq c1 hm 162 rfl rfl (fun h88 => ?_) (fun h88 => ?_)
     ·
      refine jy_ic c1 hm rfl (by decide) ?_
      have k89 : M87.1 173 5 = z81 := (hR87 173 5 (by decide +kernel)).trans k82
      exact jx_retz c2 hm rfl rfl ⟨by omega, by omega⟩ ⟨_, rfl, hH87, hF87, by omega, by omega, (by omega)⟩
     refine jy_ic c1 hm rfl (by decide) ?_
     refine jx_goto c1 hm 163 rfl rfl ?_
     have k90 : M87.1 173 5 = z81 := (hR87 173 5 (by decide +kernel)).trans k82
     exact jx_retz c2 hm rfl rfl ⟨by omega, by omega⟩ ⟨_, rfl, hH87, hF87, by omega, by omega, (by omega)⟩
    refine jx_load c1 hm rfl rfl rfl rfl ?_
    refine jy_ic c1 hm rfl (by decide) ?_
    refine jv_i c3 hm rfl pj_X12_bad rfl rfl ⟨_, _, _, rfl, sh_173⟩ rfl ((ct_X12_bad_173 X (by omega) M0 hH0 1 ⟨by omega, by omega⟩).le (by decide)) (fun z91 M93 ⟨hH93, hR93, lz91, uz91, p92⟩ => ?_)
    have hF93 := hF0.tr hR93 (by decide +kernel)
    have k94 : M93.1 173 5 = z1 := (hR93 173 5 (by decide +kernel)).trans k2
    exact jx_retz c2 hm rfl rfl ⟨by omega, by omega⟩ ⟨_, rfl, hH93, hF93, by omega, by omega, (by omega)⟩
   refine jc_gt c1 hm 23 rfl rfl (fun h6 => ?_) (fun h6 => ?_)
   ·
    exact J12 
   refine jx_load c1 hm rfl rfl rfl rfl ?_
   refine jx_load c1 hm rfl rfl rfl rfl ?_
   obtain ⟨z7, k8, lz7, uz7⟩ := hH0.ld (c := 173) (i := 7) (A := 0) (B := 4) (bs_28_4 _ _ (by omega) (by omega))
   refine jv_i c3 hm rfl pj_X12_isWord rfl rfl ⟨_, _, _, rfl, sh_173⟩ rfl ((ct_X12_isWord_173 X (by omega) M0 hH0 b3 ⟨by omega, by omega⟩).le (by decide)) (fun z9 _ ⟨rfl, lz9, uz9, p10⟩ => ?_)
   refine jz_ne c1 hm 23 rfl rfl (fun h11 => ?_) (fun h11 => ?_)
   ·
    exact J12 
   refine jx_iinc c1 hm (v := (b3 + 1)) (L' := [some (.inr (.inr (.inl 173))), some (.inl a0), some (.inl (b3 + 1))]) rfl rfl (by omega) (by omega) rfl ?_
   refine jx_goto c1 hm 3 rfl rfl ?_
   exact ihW4 (b3 + 1) (by omega) (by omega)
 exact W4 (4 + 1 : Int).toNat 7 (by omega) (by omega)
def md_X12_readBookLine_173 : List (Nat × (Nat × Nat)) := [(173, (5, 5)), (173, (6, 6)), (173, (7, 7)), (173, (8, 8)), (173, (9, 9)), (173, (10, 10)), (173, (11, 11)), (173, (13, 13)), (195, (0, 159))]
theorem ct_X12_readBookLine_173 (X : Int) (hX : 0 ≤ X ∧ X ≤ 100000000) (M0 : JM) (hH0 : HI X M0)  : JOk shp PJ 6 153 [.inr (.inr (.inl 173))] M0 (jRi (fun v M' => HI X M' ∧ Fr md_X12_readBookLine_173 M0 M' ∧ 0 ≤ v ∧ v ≤ 1 ∧ (M0.1 173 5 ≤ M'.1 173 5) ∧ (M'.1 173 46 = M0.1 173 46) ∧ (v = 1 → M0.1 173 46 ≤ 39))) := by
 refine ⟨jr_X12_readBookLine, pj_X12_readBookLine, fun F c1 c2 c3 => ?_⟩
 have hm := pj_X12_readBookLine
 change F 0 [some (.inr (.inr (.inl 173))), none, none, none] [] M0
 have hF0 : Fr md_X12_readBookLine_173 M0 M0 := Fr.rf _ _
 obtain ⟨z1, k2, lz1, uz1⟩ := hH0.ld (c := 173) (i := 5) (A := 0) (B := 940) (bs_28_3 _ _ (by omega) (by omega))
 obtain ⟨z3, k4, lz3, uz3⟩ := hH0.ld (c := 173) (i := 46) (A := 0) (B := 40) (bs_28_20 _ _ (by omega) (by omega))
 refine jx_load c1 hm rfl rfl rfl rfl ?_
 refine jy_bp c1 hm rfl (by decide) ?_
 obtain ⟨z5, k6, lz5, uz5⟩ := hH0.ld (c := 173) (i := 7) (A := 0) (B := 4) (bs_28_4 _ _ (by omega) (by omega))
 refine jv_i c3 hm rfl pj_X12_isWord rfl rfl ⟨_, _, _, rfl, sh_173⟩ rfl ((ct_X12_isWord_173 X (by omega) M0 hH0 11 ⟨by omega, by omega⟩).le (by decide)) (fun z7 _ ⟨rfl, lz7, uz7, p8⟩ => ?_)
 refine jx_stor c1 hm (L' := [some (.inr (.inr (.inl 173))), some (.inl z7), none, none]) rfl rfl rfl rfl rfl ?_
 refine jx_load c1 hm rfl rfl rfl rfl ?_
 refine jy_bp c1 hm rfl (by decide) ?_
 refine jv_i c3 hm rfl pj_X12_isWord rfl rfl ⟨_, _, _, rfl, sh_173⟩ rfl ((ct_X12_isWord_173 X (by omega) M0 hH0 12 ⟨by omega, by omega⟩).le (by decide)) (fun z9 _ ⟨rfl, lz9, uz9, p10⟩ => ?_)
 refine jx_stor c1 hm (L' := [some (.inr (.inr (.inl 173))), some (.inl z7), some (.inl z9), none]) rfl rfl rfl rfl rfl ?_
 refine jx_load c1 hm rfl rfl rfl rfl ?_
 refine jz_ne c1 hm 63 rfl rfl (fun h11 => ?_) (fun h11 => ?_)
 ·
  refine jx_load c1 hm rfl rfl rfl rfl ?_
  refine jx_geti c1 hm rfl sh_173 rfl k4 ?_
  refine jy_bp c1 hm rfl (by decide) ?_
  refine jc_ne c1 hm 78 rfl rfl (fun h12 => ?_) (fun h12 => ?_)
  ·
   refine jy_ic c1 hm rfl (by decide) ?_
   refine jx_load c1 hm rfl rfl rfl rfl ?_
   refine jx_geti c1 hm rfl sh_173 rfl k4 ?_
   refine jy_mul c1 hm (4 * z3) rfl (by omega) ?_
   refine jx_stor c1 hm (L' := [some (.inr (.inr (.inl 173))), some (.inl z7), some (.inl z9), some (.inl (4 * z3))]) rfl rfl rfl rfl rfl ?_
   refine jx_load c1 hm rfl rfl rfl rfl ?_
   refine jx_getr c1 hm rfl sh_173 rfl ?_
   refine jx_load c1 hm rfl rfl rfl rfl ?_
   refine jx_load c1 hm rfl rfl rfl rfl ?_
   refine jz_eq c1 hm 98 rfl rfl (fun h13 => ?_) (fun h13 => ?_)
   ·
    exfalso; omega
   refine jy_ic c1 hm rfl (by decide) ?_
   refine jx_goto c1 hm 99 rfl rfl ?_
   obtain ⟨M14, e14, hH14, hF14, k14, n14, q14⟩ := mup hH0 hF0 (c := 195) (i := ((4 * z3)).toNat) (v := 4) (A := 0) (B := 5) (bs_17_0 _ _ (by omega) (by omega)) ⟨by omega, by omega⟩ (jin_of 8 rfl ⟨by omega, by omega⟩)
   refine jm_iast c1 hm rfl sh_195 ⟨by omega, by omega⟩ e14 ?_
   refine jx_load c1 hm rfl rfl rfl rfl ?_
   refine jx_getr c1 hm rfl sh_173 rfl ?_
   refine jx_load c1 hm rfl rfl rfl rfl ?_
   refine jy_ic c1 hm rfl (by decide) ?_
   refine jy_add c1 hm (4 * z3 + 1) rfl (by omega) ?_
   refine jx_load c1 hm rfl rfl rfl rfl ?_
   refine jz_ne c1 hm 115 rfl rfl (fun h15 => ?_) (fun h15 => ?_)
   ·
    refine jy_ic c1 hm rfl (by decide) ?_
    refine jx_goto c1 hm 137 rfl rfl ?_
    obtain ⟨M16, e16, hH16, hF16, k16, n16, q16⟩ := mup hH14 hF14 (c := 195) (i := ((4 * z3 + 1)).toNat) (v := 0) (A := 0) (B := 5) (bs_17_1 _ _ (by omega) (by omega)) ⟨by omega, by omega⟩ (jin_of 8 rfl ⟨by omega, by omega⟩)
    refine jm_iast c1 hm rfl sh_195 ⟨by omega, by omega⟩ e16 ?_
    refine jx_load c1 hm rfl rfl rfl rfl ?_
    have k17 : M16.1 173 5 = z1 := (n16 173 5 (fun h => absurd h.1 (by decide))).trans ((n14 173 5 (fun h => absurd h.1 (by decide))).trans k2)
    refine jv_v c3 hm rfl pj_X12_go rfl rfl ⟨_, _, _, rfl, sh_173⟩ rfl ((ct_X12_go_173 X (by omega) M16 hH16 ).le (by decide)) (fun M20 ⟨hH20, hR20, p18, p19⟩ => ?_)
    have hF20 := hF16.tr hR20 (by decide +kernel)
    obtain ⟨z21, k22, lz21, uz21⟩ := hH20.ld (c := 173) (i := 5) (A := 0) (B := 940) (bs_28_3 _ _ (by omega) (by omega))
    obtain ⟨z23, k24, lz23, uz23⟩ := hH20.ld (c := 173) (i := 7) (A := 0) (B := 4) (bs_28_4 _ _ (by omega) (by omega))
    refine jx_load c1 hm rfl rfl rfl rfl ?_
    refine jz_eq c1 hm 151 rfl rfl (fun h25 => ?_) (fun h25 => ?_)
    ·
     exfalso; omega
    refine jx_load c1 hm rfl rfl rfl rfl ?_
    refine jv_i c3 hm rfl pj_X12_readEnd rfl rfl ⟨_, _, _, rfl, sh_173⟩ rfl ((ct_X12_readEnd_173 X (by omega) M20 hH20 ).le (by decide)) (fun z26 M28 ⟨hH28, hR28, lz26, uz26, p27⟩ => ?_)
    have hF28 := hF20.tr hR28 (by decide +kernel)
    obtain ⟨z29, k30, lz29, uz29⟩ := hH28.ld (c := 173) (i := 5) (A := 0) (B := 940) (bs_28_3 _ _ (by omega) (by omega))
    have k31 : M28.1 173 46 = z3 := (hR28 173 46 (by decide +kernel)).trans ((hR20 173 46 (by decide +kernel)).trans ((n16 173 46 (fun h => absurd h.1 (by decide))).trans ((n14 173 46 (fun h => absurd h.1 (by decide))).trans k4)))
    exact jx_retz c2 hm rfl rfl ⟨by omega, by omega⟩ ⟨_, rfl, hH28, hF28, by omega, by omega, (by omega), (by omega), (by omega)⟩
   exfalso; omega
  refine jx_load c1 hm rfl rfl rfl rfl ?_
  refine jy_ic c1 hm rfl (by decide) ?_
  refine jv_i c3 hm rfl pj_X12_bad rfl rfl ⟨_, _, _, rfl, sh_173⟩ rfl ((ct_X12_bad_173 X (by omega) M0 hH0 4 ⟨by omega, by omega⟩).le (by decide)) (fun z32 M34 ⟨hH34, hR34, lz32, uz32, p33⟩ => ?_)
  have hF34 := hF0.tr hR34 (by decide +kernel)
  have k35 : M34.1 173 5 = z1 := (hR34 173 5 (by decide +kernel)).trans k2
  have k36 : M34.1 173 46 = z3 := (hR34 173 46 (by decide +kernel)).trans k4
  exact jx_retz c2 hm rfl rfl ⟨by omega, by omega⟩ ⟨_, rfl, hH34, hF34, by omega, by omega, (by omega), (by omega), (by omega)⟩
 refine jx_load c1 hm rfl rfl rfl rfl ?_
 refine jz_ne c1 hm 63 rfl rfl (fun h37 => ?_) (fun h37 => ?_)
 ·
  refine jx_load c1 hm rfl rfl rfl rfl ?_
  refine jx_geti c1 hm rfl sh_173 rfl k4 ?_
  refine jy_bp c1 hm rfl (by decide) ?_
  refine jc_ne c1 hm 78 rfl rfl (fun h38 => ?_) (fun h38 => ?_)
  ·
   refine jy_ic c1 hm rfl (by decide) ?_
   refine jx_load c1 hm rfl rfl rfl rfl ?_
   refine jx_geti c1 hm rfl sh_173 rfl k4 ?_
   refine jy_mul c1 hm (4 * z3) rfl (by omega) ?_
   refine jx_stor c1 hm (L' := [some (.inr (.inr (.inl 173))), some (.inl z7), some (.inl z9), some (.inl (4 * z3))]) rfl rfl rfl rfl rfl ?_
   refine jx_load c1 hm rfl rfl rfl rfl ?_
   refine jx_getr c1 hm rfl sh_173 rfl ?_
   refine jx_load c1 hm rfl rfl rfl rfl ?_
   refine jx_load c1 hm rfl rfl rfl rfl ?_
   refine jz_eq c1 hm 98 rfl rfl (fun h39 => ?_) (fun h39 => ?_)
   ·
    refine jy_ic c1 hm rfl (by decide) ?_
    obtain ⟨M40, e40, hH40, hF40, k40, n40, q40⟩ := mup hH0 hF0 (c := 195) (i := ((4 * z3)).toNat) (v := 5) (A := 0) (B := 5) (bs_17_0 _ _ (by omega) (by omega)) ⟨by omega, by omega⟩ (jin_of 8 rfl ⟨by omega, by omega⟩)
    refine jm_iast c1 hm rfl sh_195 ⟨by omega, by omega⟩ e40 ?_
    refine jx_load c1 hm rfl rfl rfl rfl ?_
    refine jx_getr c1 hm rfl sh_173 rfl ?_
    refine jx_load c1 hm rfl rfl rfl rfl ?_
    refine jy_ic c1 hm rfl (by decide) ?_
    refine jy_add c1 hm (4 * z3 + 1) rfl (by omega) ?_
    refine jx_load c1 hm rfl rfl rfl rfl ?_
    refine jz_ne c1 hm 115 rfl rfl (fun h41 => ?_) (fun h41 => ?_)
    ·
     exfalso; omega
    refine jx_load c1 hm rfl rfl rfl rfl ?_
    refine jz_eq c1 hm 119 rfl rfl (fun h42 => ?_) (fun h42 => ?_)
    ·
     exfalso; omega
    refine jy_ic c1 hm rfl (by decide) ?_
    refine jx_goto c1 hm 137 rfl rfl ?_
    obtain ⟨M43, e43, hH43, hF43, k43, n43, q43⟩ := mup hH40 hF40 (c := 195) (i := ((4 * z3 + 1)).toNat) (v := 0) (A := 0) (B := 5) (bs_17_1 _ _ (by omega) (by omega)) ⟨by omega, by omega⟩ (jin_of 8 rfl ⟨by omega, by omega⟩)
    refine jm_iast c1 hm rfl sh_195 ⟨by omega, by omega⟩ e43 ?_
    refine jx_load c1 hm rfl rfl rfl rfl ?_
    have k44 : M43.1 173 5 = z1 := (n43 173 5 (fun h => absurd h.1 (by decide))).trans ((n40 173 5 (fun h => absurd h.1 (by decide))).trans k2)
    refine jv_v c3 hm rfl pj_X12_go rfl rfl ⟨_, _, _, rfl, sh_173⟩ rfl ((ct_X12_go_173 X (by omega) M43 hH43 ).le (by decide)) (fun M47 ⟨hH47, hR47, p45, p46⟩ => ?_)
    have hF47 := hF43.tr hR47 (by decide +kernel)
    obtain ⟨z48, k49, lz48, uz48⟩ := hH47.ld (c := 173) (i := 5) (A := 0) (B := 940) (bs_28_3 _ _ (by omega) (by omega))
    obtain ⟨z50, k51, lz50, uz50⟩ := hH47.ld (c := 173) (i := 7) (A := 0) (B := 4) (bs_28_4 _ _ (by omega) (by omega))
    refine jx_load c1 hm rfl rfl rfl rfl ?_
    refine jz_eq c1 hm 151 rfl rfl (fun h52 => ?_) (fun h52 => ?_)
    ·
     refine jx_load c1 hm rfl rfl rfl rfl ?_
     refine jz_ne c1 hm 176 rfl rfl (fun h53 => ?_) (fun h53 => ?_)
     ·
      refine jx_load c1 hm rfl rfl rfl rfl ?_
      refine jx_load c1 hm rfl rfl rfl rfl ?_
      refine jy_ic c1 hm rfl (by decide) ?_
      refine jy_add c1 hm (4 * z3 + 3) rfl (by omega) ?_
      refine jx_load c1 hm rfl rfl rfl rfl ?_
      refine jy_ic c1 hm rfl (by decide) ?_
      refine jy_bp c1 hm rfl (by decide) ?_
      refine jv_i c3 hm rfl pj_X12_readNumber rfl rfl ⟨_, _, _, rfl, sh_173⟩ rfl ((ct_X12_readNumber_173 X (by omega) M47 hH47 1 ⟨by omega, by omega⟩ 60 ⟨by omega, by omega⟩).le (by decide)) (fun z54 M58 ⟨hH58, hR58, lz54, uz54, p55, p56, p57⟩ => ?_)
      have hF58 := hF47.tr hR58 (by decide +kernel)
      obtain ⟨z59, k60, lz59, uz59⟩ := hH58.ld (c := 173) (i := 5) (A := 0) (B := 940) (bs_28_3 _ _ (by omega) (by omega))
      obtain ⟨z61, k62, lz61, uz61⟩ := hH58.ld (c := 173) (i := 13) (A := (-2147483648)) (B := 2147483647) (bs_28_7 _ _ (by omega) (by omega))
      refine jv_i c3 hm rfl pj_X12_keep rfl rfl ⟨_, _, _, rfl, sh_173⟩ rfl ((ct_X12_keep_173 X (by omega) M58 hH58 (4 * z3 + 3) ⟨by omega, by omega⟩ z54 ⟨by omega, by omega⟩ (by rw [show bnd X 195 ((4 * z3 + 3) : Int).toNat = (0, 99) from (bs_17_2 _ _ (by omega) (by omega))]; dsimp only; omega)).le (by decide)) (fun z63 M65 ⟨hH65, hR65, lz63, uz63, p64⟩ => ?_)
      have hF65 := hF58.tr hR65 (by decide +kernel)
      refine jz_eq c1 hm 204 rfl rfl (fun h66 => ?_) (fun h66 => ?_)
      ·
       refine jy_ic c1 hm rfl (by decide) ?_
       have k67 : M65.1 173 5 = z59 := (hR65 173 5 (by decide +kernel)).trans k60
       have k68 : M65.1 173 46 = z3 := (hR65 173 46 (by decide +kernel)).trans ((hR58 173 46 (by decide +kernel)).trans ((hR47 173 46 (by decide +kernel)).trans ((n43 173 46 (fun h => absurd h.1 (by decide))).trans ((n40 173 46 (fun h => absurd h.1 (by decide))).trans k4))))
       exact jx_retz c2 hm rfl rfl ⟨by omega, by omega⟩ ⟨_, rfl, hH65, hF65, by omega, by omega, (by omega), (by omega), (by omega)⟩
      refine jx_load c1 hm rfl rfl rfl rfl ?_
      have k69 : M65.1 173 5 = z59 := (hR65 173 5 (by decide +kernel)).trans k60
      refine jv_i c3 hm rfl pj_X12_readEnd rfl rfl ⟨_, _, _, rfl, sh_173⟩ rfl ((ct_X12_readEnd_173 X (by omega) M65 hH65 ).le (by decide)) (fun z70 M72 ⟨hH72, hR72, lz70, uz70, p71⟩ => ?_)
      have hF72 := hF65.tr hR72 (by decide +kernel)
      obtain ⟨z73, k74, lz73, uz73⟩ := hH72.ld (c := 173) (i := 5) (A := 0) (B := 940) (bs_28_3 _ _ (by omega) (by omega))
      refine jz_eq c1 hm 204 rfl rfl (fun h75 => ?_) (fun h75 => ?_)
      ·
       refine jy_ic c1 hm rfl (by decide) ?_
       have k76 : M72.1 173 46 = z3 := (hR72 173 46 (by decide +kernel)).trans ((hR65 173 46 (by decide +kernel)).trans ((hR58 173 46 (by decide +kernel)).trans ((hR47 173 46 (by decide +kernel)).trans ((n43 173 46 (fun h => absurd h.1 (by decide))).trans ((n40 173 46 (fun h => absurd h.1 (by decide))).trans k4)))))
       exact jx_retz c2 hm rfl rfl ⟨by omega, by omega⟩ ⟨_, rfl, hH72, hF72, by omega, by omega, (by omega), (by omega), (by omega)⟩
      refine jy_ic c1 hm rfl (by decide) ?_
      refine jx_goto c1 hm 205 rfl rfl ?_
      have k77 : M72.1 173 46 = z3 := (hR72 173 46 (by decide +kernel)).trans ((hR65 173 46 (by decide +kernel)).trans ((hR58 173 46 (by decide +kernel)).trans ((hR47 173 46 (by decide +kernel)).trans ((n43 173 46 (fun h => absurd h.1 (by decide))).trans ((n40 173 46 (fun h => absurd h.1 (by decide))).trans k4)))))
      exact jx_retz c2 hm rfl rfl ⟨by omega, by omega⟩ ⟨_, rfl, hH72, hF72, by omega, by omega, (by omega), (by omega), (by omega)⟩
     exfalso; omega
    exfalso; omega
   exfalso; omega
  refine jx_load c1 hm rfl rfl rfl rfl ?_
  refine jy_ic c1 hm rfl (by decide) ?_
  refine jv_i c3 hm rfl pj_X12_bad rfl rfl ⟨_, _, _, rfl, sh_173⟩ rfl ((ct_X12_bad_173 X (by omega) M0 hH0 4 ⟨by omega, by omega⟩).le (by decide)) (fun z78 M80 ⟨hH80, hR80, lz78, uz78, p79⟩ => ?_)
  have hF80 := hF0.tr hR80 (by decide +kernel)
  have k81 : M80.1 173 5 = z1 := (hR80 173 5 (by decide +kernel)).trans k2
  have k82 : M80.1 173 46 = z3 := (hR80 173 46 (by decide +kernel)).trans k4
  exact jx_retz c2 hm rfl rfl ⟨by omega, by omega⟩ ⟨_, rfl, hH80, hF80, by omega, by omega, (by omega), (by omega), (by omega)⟩
 refine jx_load c1 hm rfl rfl rfl rfl ?_
 refine jv_i c3 hm rfl pj_X12_isName rfl rfl ⟨_, _, _, rfl, sh_173⟩ rfl ((ct_X12_isName_173 X (by omega) M0 hH0 ).le (by decide)) (fun z83 _ ⟨rfl, lz83, uz83, p84⟩ => ?_)
 refine jz_ne c1 hm 35 rfl rfl (fun h85 => ?_) (fun h85 => ?_)
 ·
  refine jx_load c1 hm rfl rfl rfl rfl ?_
  refine jx_getr c1 hm rfl sh_173 rfl ?_
  refine jy_ic c1 hm rfl (by decide) ?_
  refine jx_load c1 hm rfl rfl rfl rfl ?_
  refine jx_getr c1 hm rfl sh_173 rfl ?_
  refine jy_ic c1 hm rfl (by decide) ?_
  obtain ⟨z86, k87, lz86, uz86⟩ := hH0.ld (c := 175) (i := 0) (A := 0) (B := 6) (bs_11_0 _ _ (by omega) (by omega))
  refine jx_iald c1 hm rfl sh_175 ⟨by omega, by omega⟩ k87 ?_
  refine jx_load c1 hm rfl rfl rfl rfl ?_
  obtain ⟨w88, kw88⟩ : ∃ w, M0.2 173 12 = w := ⟨_, rfl⟩
  have bw88 : LB w88.toInt := kw88 ▸ hH0.2.1 173 12 rfl
  refine jx_getl c1 hm rfl sh_173 rfl kw88 ?_
  refine jt_i c3 hm rfl rfl pj_X12_findIn rfl rfl rfl ((ct_X12_findIn_180 X (by omega) M0 hH0 0 ⟨by omega, by omega⟩ z86 ⟨by omega, by omega⟩ w88).le (by decide)) (fun z89 _ ⟨rfl, lz89, uz89, p90, p91, p92⟩ => ?_)
  skip
  refine jy_ic c1 hm rfl (by decide) ?_
  refine jc_ne c1 hm 63 rfl rfl (fun h93 => ?_) (fun h93 => ?_)
  ·
   refine jx_load c1 hm rfl rfl rfl rfl ?_
   refine jx_geti c1 hm rfl sh_173 rfl k4 ?_
   refine jy_bp c1 hm rfl (by decide) ?_
   refine jc_ne c1 hm 78 rfl rfl (fun h94 => ?_) (fun h94 => ?_)
   ·
    refine jy_ic c1 hm rfl (by decide) ?_
    refine jx_load c1 hm rfl rfl rfl rfl ?_
    refine jx_geti c1 hm rfl sh_173 rfl k4 ?_
    refine jy_mul c1 hm (4 * z3) rfl (by omega) ?_
    refine jx_stor c1 hm (L' := [some (.inr (.inr (.inl 173))), some (.inl z7), some (.inl z9), some (.inl (4 * z3))]) rfl rfl rfl rfl rfl ?_
    refine jx_load c1 hm rfl rfl rfl rfl ?_
    refine jx_getr c1 hm rfl sh_173 rfl ?_
    refine jx_load c1 hm rfl rfl rfl rfl ?_
    refine jx_load c1 hm rfl rfl rfl rfl ?_
    refine jz_eq c1 hm 98 rfl rfl (fun h95 => ?_) (fun h95 => ?_)
    ·
     refine jy_ic c1 hm rfl (by decide) ?_
     obtain ⟨M96, e96, hH96, hF96, k96, n96, q96⟩ := mup hH0 hF0 (c := 195) (i := ((4 * z3)).toNat) (v := 5) (A := 0) (B := 5) (bs_17_0 _ _ (by omega) (by omega)) ⟨by omega, by omega⟩ (jin_of 8 rfl ⟨by omega, by omega⟩)
     refine jm_iast c1 hm rfl sh_195 ⟨by omega, by omega⟩ e96 ?_
     refine jx_load c1 hm rfl rfl rfl rfl ?_
     refine jx_getr c1 hm rfl sh_173 rfl ?_
     refine jx_load c1 hm rfl rfl rfl rfl ?_
     refine jy_ic c1 hm rfl (by decide) ?_
     refine jy_add c1 hm (4 * z3 + 1) rfl (by omega) ?_
     refine jx_load c1 hm rfl rfl rfl rfl ?_
     refine jz_ne c1 hm 115 rfl rfl (fun h97 => ?_) (fun h97 => ?_)
     ·
      exfalso; omega
     refine jx_load c1 hm rfl rfl rfl rfl ?_
     refine jz_eq c1 hm 119 rfl rfl (fun h98 => ?_) (fun h98 => ?_)
     ·
      refine jx_load c1 hm rfl rfl rfl rfl ?_
      refine jx_getr c1 hm rfl sh_173 rfl ?_
      refine jy_ic c1 hm rfl (by decide) ?_
      refine jx_load c1 hm rfl rfl rfl rfl ?_
      refine jx_getr c1 hm rfl sh_173 rfl ?_
      refine jy_ic c1 hm rfl (by decide) ?_
      have k99 : M96.1 175 0 = z86 := (n96 175 0 (fun h => absurd h.1 (by decide))).trans k87
      refine jx_iald c1 hm rfl sh_175 ⟨by omega, by omega⟩ k99 ?_
      refine jx_load c1 hm rfl rfl rfl rfl ?_
      have k100 : M96.2 173 12 = w88 := (q96 173 12).trans kw88
      refine jx_getl c1 hm rfl sh_173 rfl k100 ?_
      refine jt_i c3 hm rfl rfl pj_X12_findIn rfl rfl rfl ((ct_X12_findIn_180 X (by omega) M96 hH96 0 ⟨by omega, by omega⟩ z86 ⟨by omega, by omega⟩ w88).le (by decide)) (fun z101 _ ⟨rfl, lz101, uz101, p102, p103, p104⟩ => ?_)
      have hfi : z101 ≠ -1 := fun y => (p103.resolve_left (fun z => z y)) z89 (by omega) (by omega) (by rw [q96 180 _]; exact p90.resolve_left (by omega))
      obtain ⟨M105, e105, hH105, hF105, k105, n105, q105⟩ := mup hH96 hF96 (c := 195) (i := ((4 * z3 + 1)).toNat) (v := z101) (A := 0) (B := 5) (bs_17_1 _ _ (by omega) (by omega)) ⟨by omega, by omega⟩ (jin_of 8 rfl ⟨by omega, by omega⟩)
      refine jm_iast c1 hm rfl sh_195 ⟨by omega, by omega⟩ e105 ?_
      refine jx_load c1 hm rfl rfl rfl rfl ?_
      have k106 : M105.1 173 5 = z1 := (n105 173 5 (fun h => absurd h.1 (by decide))).trans ((n96 173 5 (fun h => absurd h.1 (by decide))).trans k2)
      refine jv_v c3 hm rfl pj_X12_go rfl rfl ⟨_, _, _, rfl, sh_173⟩ rfl ((ct_X12_go_173 X (by omega) M105 hH105 ).le (by decide)) (fun M109 ⟨hH109, hR109, p107, p108⟩ => ?_)
      have hF109 := hF105.tr hR109 (by decide +kernel)
      obtain ⟨z110, k111, lz110, uz110⟩ := hH109.ld (c := 173) (i := 5) (A := 0) (B := 940) (bs_28_3 _ _ (by omega) (by omega))
      obtain ⟨z112, k113, lz112, uz112⟩ := hH109.ld (c := 173) (i := 7) (A := 0) (B := 4) (bs_28_4 _ _ (by omega) (by omega))
      refine jx_load c1 hm rfl rfl rfl rfl ?_
      refine jz_eq c1 hm 151 rfl rfl (fun h114 => ?_) (fun h114 => ?_)
      ·
       refine jx_load c1 hm rfl rfl rfl rfl ?_
       refine jz_ne c1 hm 176 rfl rfl (fun h115 => ?_) (fun h115 => ?_)
       ·
        exfalso; omega
       refine jx_load c1 hm rfl rfl rfl rfl ?_
       refine jx_load c1 hm rfl rfl rfl rfl ?_
       refine jv_i c3 hm rfl pj_X12_readDoes rfl rfl ⟨_, _, _, rfl, sh_173⟩ rfl ((ct_X12_readDoes_173 X (by omega) M109 hH109 (4 * z3) ⟨by omega, by omega⟩ (by omega)).le (by decide)) (fun z116 M118 ⟨hH118, hR118, lz116, uz116, p117⟩ => ?_)
       have hF118 := hF109.tr hR118 (by decide +kernel)
       obtain ⟨z119, k120, lz119, uz119⟩ := hH118.ld (c := 173) (i := 5) (A := 0) (B := 940) (bs_28_3 _ _ (by omega) (by omega))
       refine jz_eq c1 hm 174 rfl rfl (fun h121 => ?_) (fun h121 => ?_)
       ·
        refine jy_ic c1 hm rfl (by decide) ?_
        have k122 : M118.1 173 46 = z3 := (hR118 173 46 (by decide +kernel)).trans ((hR109 173 46 (by decide +kernel)).trans ((n105 173 46 (fun h => absurd h.1 (by decide))).trans ((n96 173 46 (fun h => absurd h.1 (by decide))).trans k4)))
        exact jx_retz c2 hm rfl rfl ⟨by omega, by omega⟩ ⟨_, rfl, hH118, hF118, by omega, by omega, (by omega), (by omega), (by omega)⟩
       refine jx_load c1 hm rfl rfl rfl rfl ?_
       refine jv_i c3 hm rfl pj_X12_readEnd rfl rfl ⟨_, _, _, rfl, sh_173⟩ rfl ((ct_X12_readEnd_173 X (by omega) M118 hH118 ).le (by decide)) (fun z123 M125 ⟨hH125, hR125, lz123, uz123, p124⟩ => ?_)
       have hF125 := hF118.tr hR125 (by decide +kernel)
       obtain ⟨z126, k127, lz126, uz126⟩ := hH125.ld (c := 173) (i := 5) (A := 0) (B := 940) (bs_28_3 _ _ (by omega) (by omega))
       refine jz_eq c1 hm 174 rfl rfl (fun h128 => ?_) (fun h128 => ?_)
       ·
        refine jy_ic c1 hm rfl (by decide) ?_
        have k129 : M125.1 173 46 = z3 := (hR125 173 46 (by decide +kernel)).trans ((hR118 173 46 (by decide +kernel)).trans ((hR109 173 46 (by decide +kernel)).trans ((n105 173 46 (fun h => absurd h.1 (by decide))).trans ((n96 173 46 (fun h => absurd h.1 (by decide))).trans k4))))
        exact jx_retz c2 hm rfl rfl ⟨by omega, by omega⟩ ⟨_, rfl, hH125, hF125, by omega, by omega, (by omega), (by omega), (by omega)⟩
       refine jy_ic c1 hm rfl (by decide) ?_
       refine jx_goto c1 hm 175 rfl rfl ?_
       have k130 : M125.1 173 46 = z3 := (hR125 173 46 (by decide +kernel)).trans ((hR118 173 46 (by decide +kernel)).trans ((hR109 173 46 (by decide +kernel)).trans ((n105 173 46 (fun h => absurd h.1 (by decide))).trans ((n96 173 46 (fun h => absurd h.1 (by decide))).trans k4))))
       exact jx_retz c2 hm rfl rfl ⟨by omega, by omega⟩ ⟨_, rfl, hH125, hF125, by omega, by omega, (by omega), (by omega), (by omega)⟩
      exfalso; omega
     exfalso; omega
    exfalso; omega
   refine jx_load c1 hm rfl rfl rfl rfl ?_
   refine jy_ic c1 hm rfl (by decide) ?_
   refine jv_i c3 hm rfl pj_X12_bad rfl rfl ⟨_, _, _, rfl, sh_173⟩ rfl ((ct_X12_bad_173 X (by omega) M0 hH0 4 ⟨by omega, by omega⟩).le (by decide)) (fun z131 M133 ⟨hH133, hR133, lz131, uz131, p132⟩ => ?_)
   have hF133 := hF0.tr hR133 (by decide +kernel)
   have k134 : M133.1 173 5 = z1 := (hR133 173 5 (by decide +kernel)).trans k2
   have k135 : M133.1 173 46 = z3 := (hR133 173 46 (by decide +kernel)).trans k4
   exact jx_retz c2 hm rfl rfl ⟨by omega, by omega⟩ ⟨_, rfl, hH133, hF133, by omega, by omega, (by omega), (by omega), (by omega)⟩
  refine jx_load c1 hm rfl rfl rfl rfl ?_
  refine jy_ic c1 hm rfl (by decide) ?_
  refine jv_i c3 hm rfl pj_X12_bad rfl rfl ⟨_, _, _, rfl, sh_173⟩ rfl ((ct_X12_bad_173 X (by omega) M0 hH0 3 ⟨by omega, by omega⟩).le (by decide)) (fun z136 M138 ⟨hH138, hR138, lz136, uz136, p137⟩ => ?_)
  have hF138 := hF0.tr hR138 (by decide +kernel)
  have k139 : M138.1 173 5 = z1 := (hR138 173 5 (by decide +kernel)).trans k2
  have k140 : M138.1 173 46 = z3 := (hR138 173 46 (by decide +kernel)).trans k4
  exact jx_retz c2 hm rfl rfl ⟨by omega, by omega⟩ ⟨_, rfl, hH138, hF138, by omega, by omega, (by omega), (by omega), (by omega)⟩
 refine jx_load c1 hm rfl rfl rfl rfl ?_
 refine jy_ic c1 hm rfl (by decide) ?_
 refine jv_i c3 hm rfl pj_X12_bad rfl rfl ⟨_, _, _, rfl, sh_173⟩ rfl ((ct_X12_bad_173 X (by omega) M0 hH0 1 ⟨by omega, by omega⟩).le (by decide)) (fun z141 M143 ⟨hH143, hR143, lz141, uz141, p142⟩ => ?_)
 have hF143 := hF0.tr hR143 (by decide +kernel)
 have k144 : M143.1 173 5 = z1 := (hR143 173 5 (by decide +kernel)).trans k2
 have k145 : M143.1 173 46 = z3 := (hR143 173 46 (by decide +kernel)).trans k4
 exact jx_retz c2 hm rfl rfl ⟨by omega, by omega⟩ ⟨_, rfl, hH143, hF143, by omega, by omega, (by omega), (by omega), (by omega)⟩
def md_X12_passWeeks_173b : List (Nat × (Nat × Nat)) := [(175, (101, 101)), (175, (102, 107))]
theorem ct_X12_passWeeks_173b (X : Int) (hX : 0 ≤ X ∧ X ≤ 100000000) (M0 : JM) (hH0 : HI X M0) (a0 : Int) (ha0 : (-2147483648) ≤ a0 ∧ a0 ≤ 99) : JOk shp PJ 3 146 [.inr (.inr (.inl 173)), .inl a0] M0 (jRi (fun v M' => HI X M' ∧ Fr md_X12_passWeeks_173b M0 M' ∧ (-2147483648) ≤ v ∧ v ≤ 99 )) := by
 refine ⟨jr_X12_passWeeks, pj_X12_passWeeks, fun F c1 c2 c3 => ?_⟩
 have hm := pj_X12_passWeeks
 change F 0 [some (.inr (.inr (.inl 173))), some (.inl a0), none, none] [] M0
 have hF0 : Fr md_X12_passWeeks_173b M0 M0 := Fr.rf _ _
 refine jx_load c1 hm rfl rfl rfl rfl ?_
 refine jy_sp c1 hm rfl (by decide) ?_
 refine jx_load c1 hm rfl rfl rfl rfl ?_
 refine jx_getr c1 hm rfl sh_173 rfl ?_
 refine jy_bp c1 hm rfl (by decide) ?_
 obtain ⟨z1, k2, lz1, uz1⟩ := hH0.ld (c := 175) (i := 101) (A := (-2147483648)) (B := 2147483647) (bs_11_7 _ _ (by omega) (by omega))
 refine jx_iald c1 hm rfl sh_175 ⟨by omega, by omega⟩ k2 ?_
 refine jx_iopw c1 hm rfl rfl (fun z3 lz3 uz3 => ?_)
 refine jt_i c3 hm rfl rfl pj_X12_least rfl rfl rfl ((ct_X12_least X (by omega) M0 hH0 a0 ⟨by omega, by omega⟩ z3 ⟨by omega, by omega⟩).le (by decide)) (fun z4 _ ⟨rfl, lz4, uz4, p5, p6⟩ => ?_)
 refine jx_stor c1 hm (L' := [some (.inr (.inr (.inl 173))), some (.inl a0), some (.inl z4), none]) rfl rfl rfl rfl rfl ?_
 refine jy_ic c1 hm rfl (by decide) ?_
 refine jx_stor c1 hm (L' := [some (.inr (.inr (.inl 173))), some (.inl a0), some (.inl z4), some (.inl 0)]) rfl rfl rfl rfl rfl ?_
 have W9 : ∀ (n10 : Nat) (b7 : Int) (hb7 : 0 ≤ b7 ∧ b7 ≤ 99) (M8 : JM) (hH8 : HI (X) M8) (hF8 : Fr md_X12_passWeeks_173b M0 M8), (-b7 + 99) < (n10 : Int) → F 18 [some (.inr (.inr (.inl 173))), some (.inl a0), some (.inl z4), some (.inl b7)] [] M8 := by
  intro n10
  induction n10 with
  | zero => intros; omega
  | succ n10 ihW9 =>
   intro b7 hb7 M8 hH8 hF8 hrW9
   refine jx_load c1 hm rfl rfl rfl rfl ?_
   refine jx_load c1 hm rfl rfl rfl rfl ?_
   refine jc_ge c1 hm 33 rfl rfl (fun h11 => ?_) (fun h11 => ?_)
   ·
    refine jx_load c1 hm rfl rfl rfl rfl ?_
    exact jx_reti c2 hm rfl rfl ⟨_, rfl, hH8, hF8, by omega, by omega⟩
   refine jx_load c1 hm rfl rfl rfl rfl ?_
   refine jv_v c3 hm rfl pj_X12_oneWeek rfl rfl ⟨_, _, _, rfl, sh_173⟩ rfl ((ct_X12_oneWeek_173 X (by omega) M8 hH8 ).le (by decide)) (fun M12 ⟨hH12, hR12⟩ => ?_)
   have hF12 := hF8.tr hR12 (by decide +kernel)
   refine jx_iinc c1 hm (v := (b7 + 1)) (L' := [some (.inr (.inr (.inl 173))), some (.inl a0), some (.inl z4), some (.inl (b7 + 1))]) rfl rfl (by omega) (by omega) rfl ?_
   refine jx_goto c1 hm 18 rfl rfl ?_
   exact ihW9 (b7 + 1) (by omega) M12 hH12 hF12 (by omega)
 exact W9 (99 + 1 : Int).toNat 0 (by omega) M0 hH0 hF0 (by omega)
def md_X12_goBy_173 : List (Nat × (Nat × Nat)) := [(175, (101, 101)), (175, (102, 107)), (175, (108, 113)), (175, (114, 119)), (175, (120, 155)), (175, (156, 191)), (175, (192, 227)), (175, (228, 233)), (184, (0, 5))]
theorem ct_X12_goBy_173 (X : Int) (hX : 0 ≤ X ∧ X ≤ 99999999) (M0 : JM) (hH0 : HI X M0) (a0 : Int) (ha0 : 0 ≤ a0 ∧ a0 ≤ 156) (hp0 : a0 % 4 = 0) : JOk shp PJ 12 108 [.inr (.inr (.inl 173)), .inl a0] M0 (jRi (fun v M' => HI (X + 1) M' ∧ Fr md_X12_goBy_173 M0 M' ∧ 0 ≤ v ∧ v ≤ 52 )) := by
 refine ⟨jr_X12_goBy, pj_X12_goBy, fun F c1 c2 c3 => ?_⟩
 have hm := pj_X12_goBy
 change F 0 [some (.inr (.inr (.inl 173))), some (.inl a0), none, none] [] M0
 have hF0 : Fr md_X12_goBy_173 M0 M0 := Fr.rf _ _
 obtain ⟨z1, k2, lz1, uz1⟩ := hH0.ld (c := 175) (i := 0) (A := 0) (B := 6) (bs_11_0 _ _ (by omega) (by omega))
 refine jx_load c1 hm rfl rfl rfl rfl ?_
 refine jx_getr c1 hm rfl sh_173 rfl ?_
 refine jx_load c1 hm rfl rfl rfl rfl ?_
 refine jy_ic c1 hm rfl (by decide) ?_
 refine jy_add c1 hm (a0 + 3) rfl (by omega) ?_
 obtain ⟨z3, k4, lz3, uz3⟩ := hH0.ld (c := 195) (i := ((a0 + 3)).toNat) (A := 0) (B := 99) (bs_17_2 _ _ (by omega) (by omega))
 refine jx_iald c1 hm rfl sh_195 ⟨by omega, by omega⟩ k4 ?_
 refine jx_stor c1 hm (L' := [some (.inr (.inr (.inl 173))), some (.inl a0), some (.inl z3), none]) rfl rfl rfl rfl rfl ?_
 refine jx_load c1 hm rfl rfl rfl rfl ?_
 refine jx_getr c1 hm rfl sh_173 rfl ?_
 refine jx_load c1 hm rfl rfl rfl rfl ?_
 obtain ⟨z5, k6, lz5, uz5⟩ := hH0.ld (c := 195) (i := (a0).toNat) (A := 0) (B := 5) (bs_17_0 _ _ (by omega) (by omega))
 refine jx_iald c1 hm rfl sh_195 ⟨by omega, by omega⟩ k6 ?_
 refine jy_ic c1 hm rfl (by decide) ?_
 refine jc_ne c1 hm 45 rfl rfl (fun h7 => ?_) (fun h7 => ?_)
 ·
  refine jx_load c1 hm rfl rfl rfl rfl ?_
  refine jx_load c1 hm rfl rfl rfl rfl ?_
  refine jx_getr c1 hm rfl sh_173 rfl ?_
  refine jx_load c1 hm rfl rfl rfl rfl ?_
  refine jx_iald c1 hm rfl sh_195 ⟨by omega, by omega⟩ k6 ?_
  refine jx_load c1 hm rfl rfl rfl rfl ?_
  refine jx_getr c1 hm rfl sh_173 rfl ?_
  refine jx_load c1 hm rfl rfl rfl rfl ?_
  refine jy_ic c1 hm rfl (by decide) ?_
  refine jy_add c1 hm (a0 + 1) rfl (by omega) ?_
  obtain ⟨z8, k9, lz8, uz8⟩ := hH0.ld (c := 195) (i := ((a0 + 1)).toNat) (A := 0) (B := 5) (bs_17_1 _ _ (by omega) (by omega))
  refine jx_iald c1 hm rfl sh_195 ⟨by omega, by omega⟩ k9 ?_
  refine jx_load c1 hm rfl rfl rfl rfl ?_
  refine jx_getr c1 hm rfl sh_173 rfl ?_
  refine jx_load c1 hm rfl rfl rfl rfl ?_
  refine jy_ic c1 hm rfl (by decide) ?_
  refine jy_add c1 hm (a0 + 2) rfl (by omega) ?_
  obtain ⟨z10, k11, lz10, uz10⟩ := hH0.ld (c := 195) (i := ((a0 + 2)).toNat) (A := 0) (B := 5) (bs_17_1 _ _ (by omega) (by omega))
  refine jx_iald c1 hm rfl sh_195 ⟨by omega, by omega⟩ k11 ?_
  refine jx_load c1 hm rfl rfl rfl rfl ?_
  refine jv_i c3 hm rfl pj_X12_why rfl rfl ⟨_, _, _, rfl, sh_173⟩ rfl ((ct_X12_why_173 X (by omega) M0 hH0 z5 ⟨by omega, by omega⟩ z8 ⟨by omega, by omega⟩ z10 ⟨by omega, by omega⟩ z3 ⟨by omega, by omega⟩).le (by decide)) (fun z12 M14 ⟨hH14, hR14, lz12, uz12, p13⟩ => ?_)
  have hF14 := hF0.tr hR14 (by decide +kernel)
  refine jx_stor c1 hm (L' := [some (.inr (.inr (.inl 173))), some (.inl a0), some (.inl z3), some (.inl z12)]) rfl rfl rfl rfl rfl ?_
  refine jx_load c1 hm rfl rfl rfl rfl ?_
  refine jz_eq c1 hm 89 rfl rfl (fun h15 => ?_) (fun h15 => ?_)
  ·
   refine jx_load c1 hm rfl rfl rfl rfl ?_
   refine jx_load c1 hm rfl rfl rfl rfl ?_
   refine jx_getr c1 hm rfl sh_173 rfl ?_
   refine jx_load c1 hm rfl rfl rfl rfl ?_
   obtain ⟨z16, k17, lz16, uz16⟩ := hH14.ld (c := 195) (i := (a0).toNat) (A := 0) (B := 5) (bs_17_0 _ _ (by omega) (by omega))
   refine jx_iald c1 hm rfl sh_195 ⟨by omega, by omega⟩ k17 ?_
   have hzz : z16 = z5 := k17.symm.trans ((hR14 195 (a0).toNat rfl).trans k6)
   refine jx_load c1 hm rfl rfl rfl rfl ?_
   refine jx_getr c1 hm rfl sh_173 rfl ?_
   refine jx_load c1 hm rfl rfl rfl rfl ?_
   refine jy_ic c1 hm rfl (by decide) ?_
   refine jy_add c1 hm (a0 + 1) rfl (by omega) ?_
   obtain ⟨z18, k19, lz18, uz18⟩ := hH14.ld (c := 195) (i := ((a0 + 1)).toNat) (A := 0) (B := 5) (bs_17_1 _ _ (by omega) (by omega))
   refine jx_iald c1 hm rfl sh_195 ⟨by omega, by omega⟩ k19 ?_
   refine jx_load c1 hm rfl rfl rfl rfl ?_
   refine jx_getr c1 hm rfl sh_173 rfl ?_
   refine jx_load c1 hm rfl rfl rfl rfl ?_
   refine jy_ic c1 hm rfl (by decide) ?_
   refine jy_add c1 hm (a0 + 2) rfl (by omega) ?_
   obtain ⟨z20, k21, lz20, uz20⟩ := hH14.ld (c := 195) (i := ((a0 + 2)).toNat) (A := 0) (B := 5) (bs_17_1 _ _ (by omega) (by omega))
   refine jx_iald c1 hm rfl sh_195 ⟨by omega, by omega⟩ k21 ?_
   refine jx_load c1 hm rfl rfl rfl rfl ?_
   refine jv_v c3 hm rfl pj_X12_live rfl rfl ⟨_, _, _, rfl, sh_173⟩ rfl ((ct_X12_live_173 X (by omega) M14 hH14 z16 ⟨by omega, by omega⟩ z18 ⟨by omega, by omega⟩ z20 ⟨by omega, by omega⟩ z3 ⟨by omega, by omega⟩ (by have e := k17.symm.trans ((hR14 195 (a0).toNat rfl).trans k6); rcases p13 with x | x | x; exact Or.inl (by omega); exact absurd x (by omega); exact Or.inr (x.cg (men6 hH0) (fun x hx => (hR14 175 x rfl))))).le (by decide)) (fun M22 ⟨hH22, hR22⟩ => ?_)
   have hF22 := hF14.tr hR22 (by decide +kernel)
   refine jy_ic c1 hm rfl (by decide) ?_
   exact jx_reti c2 hm rfl rfl ⟨_, rfl, hH22, hF22, by omega, by omega⟩
  refine jy_bp c1 hm rfl (by decide) ?_
  refine jx_load c1 hm rfl rfl rfl rfl ?_
  refine jx_getr c1 hm rfl sh_173 rfl ?_
  refine jx_load c1 hm rfl rfl rfl rfl ?_
  obtain ⟨z23, k24, lz23, uz23⟩ := hH14.ld (c := 195) (i := (a0).toNat) (A := 0) (B := 5) (bs_17_0 _ _ (by omega) (by omega))
  refine jx_iald c1 hm rfl sh_195 ⟨by omega, by omega⟩ k24 ?_
  refine jy_mul c1 hm (10 * z23) rfl (by omega) ?_
  refine jx_load c1 hm rfl rfl rfl rfl ?_
  refine jy_add c1 hm (z12 + 10 * z23) rfl (by omega) ?_
  exact jx_reti c2 hm rfl rfl ⟨_, rfl, (hH14.mono (by omega) (by omega)), hF14, by omega, by omega⟩
 refine jx_load c1 hm rfl rfl rfl rfl ?_
 refine jx_getr c1 hm rfl sh_173 rfl ?_
 refine jy_bp c1 hm rfl (by decide) ?_
 obtain ⟨z25, k26, lz25, uz25⟩ := hH0.ld (c := 175) (i := 101) (A := (-2147483648)) (B := 2147483647) (bs_11_7 _ _ (by omega) (by omega))
 refine jx_iald c1 hm rfl sh_175 ⟨by omega, by omega⟩ k26 ?_
 refine jx_load c1 hm rfl rfl rfl rfl ?_
 refine jx_iopw c1 hm rfl rfl (fun z27 lz27 uz27 => ?_)
 refine jy_sp c1 hm rfl (by decide) ?_
 refine jc_le c1 hm 37 rfl rfl (fun h28 => ?_) (fun h28 => ?_)
 ·
  refine jx_load c1 hm rfl rfl rfl rfl ?_
  refine jx_load c1 hm rfl rfl rfl rfl ?_
  refine jv_i c3 hm rfl pj_X12_passWeeks rfl rfl ⟨_, _, _, rfl, sh_173⟩ rfl ((ct_X12_passWeeks_173b X (by omega) M0 hH0 z3 ⟨by omega, by omega⟩).le (by decide)) (fun z29 M30 ⟨hH30, hR30, lz29, uz29⟩ => ?_)
  have hF30 := hF0.tr hR30 (by decide +kernel)
  refine jx_pop c1 hm rfl rfl ?_
  refine jy_ic c1 hm rfl (by decide) ?_
  exact jx_reti c2 hm rfl rfl ⟨_, rfl, (hH30.mono (by omega) (by omega)), hF30, by omega, by omega⟩
 refine jy_bp c1 hm rfl (by decide) ?_
 exact jx_reti c2 hm rfl rfl ⟨_, rfl, (hH0.mono (by omega) (by omega)), hF0, by omega, by omega⟩
def md_X12_book_173 : List (Nat × (Nat × Nat)) := [(173, (0, 0)), (173, (2, 2)), (173, (3, 3)), (173, (4, 4)), (173, (5, 5)), (173, (6, 6)), (173, (7, 7)), (173, (8, 8)), (173, (9, 9)), (173, (10, 10)), (173, (11, 11)), (173, (13, 13)), (173, (23, 23)), (173, (46, 46)), (173, (47, 47)), (175, (101, 233)), (178, (0, 1063)), (179, (0, 132)), (184, (0, 5)), (195, (0, 159)), (196, (0, 0)), (196, (1, 1)), (196, (2, 2)), (196, (3, 3))]
theorem ct_X12_book_173 (X : Int) (hX : 0 ≤ X ∧ X ≤ 99999908) (M0 : JM) (hH0 : HI X M0) (a0 : Int) (ha0 : (-2147483648) ≤ a0 ∧ a0 ≤ 2147483647) : JOk shp PJ 13 83 [.inr (.inr (.inl 173)), .inl a0] M0 (jRi (fun v M' => HI (X + 92) M' ∧ Fr md_X12_book_173 M0 M' ∧ (-1000) ≤ v ∧ v ≤ 40 )) := by
 refine ⟨jr_X12_book, pj_X12_book, fun F c1 c2 c3 => ?_⟩
 have hm := pj_X12_book
 change F 0 [some (.inr (.inr (.inl 173))), some (.inl a0), none, none] [] M0
 have hF0 : Fr md_X12_book_173 M0 M0 := Fr.rf _ _
 refine jx_load c1 hm rfl rfl rfl rfl ?_
 refine jy_ic c1 hm rfl (by decide) ?_
 obtain ⟨M1, e1, hH1, hF1, k1, n1, q1⟩ := mup hH0 hF0 (c := 173) (i := 0) (v := 0) (A := (-2147483648)) (B := 2147483647) (bs_28_0 _ _ (by omega) (by omega)) ⟨by omega, by omega⟩ (jin_of 0 rfl ⟨by omega, by omega⟩)
 refine jm_puti c1 hm rfl sh_173 rfl e1 ?_
 refine jx_load c1 hm rfl rfl rfl rfl ?_
 refine jy_ic c1 hm rfl (by decide) ?_
 refine jy_ic c1 hm rfl (by decide) ?_
 refine jt_i c3 hm rfl rfl pj_X12_isIn rfl rfl rfl ((ct_X12_isIn X (by omega) M1 hH1 a0 ⟨by omega, by omega⟩ 0 ⟨by omega, by omega⟩ 1 ⟨by omega, by omega⟩).le (by decide)) (fun z2 _ ⟨rfl, lz2, uz2, p3⟩ => ?_)
 refine jz_ne c1 hm 18 rfl rfl (fun h4 => ?_) (fun h4 => ?_)
 ·
  refine jx_load c1 hm rfl rfl rfl rfl ?_
  refine jy_sp c1 hm rfl (by decide) ?_
  refine jv_v c3 hm rfl pj_X12_begin rfl rfl ⟨_, _, _, rfl, sh_173⟩ rfl ((ct_X12_begin_173 X (by omega) M1 hH1 400 ⟨by omega, by omega⟩).le (by decide)) (fun M5 ⟨hH5, hR5⟩ => ?_)
  have hF5 := hF1.tr hR5 (by decide +kernel)
  refine jx_load c1 hm rfl rfl rfl rfl ?_
  refine jy_ic c1 hm rfl (by decide) ?_
  obtain ⟨M6, e6, hH6, hF6, k6, n6, q6⟩ := mup hH5 hF5 (c := 173) (i := 46) (v := 0) (A := 0) (B := 40) (bs_28_20 _ _ (by omega) (by omega)) ⟨by omega, by omega⟩ (jin_of 13 rfl ⟨by omega, by omega⟩)
  refine jm_puti c1 hm rfl sh_173 rfl e6 ?_
  have W10 : ∀ (n11 : Nat) (M7 : JM) (hH7 : HI (X) M7) (hF7 : Fr md_X12_book_173 M0 M7) (b8 : Int) (hb8 : 0 ≤ b8 ∧ b8 ≤ 40) (k9 : M7.1 173 46 = b8), (-b8 + 40) < (n11 : Int) → F 30 [some (.inr (.inr (.inl 173))), some (.inl a0), none, none] [] M7 := by
   intro n11
   induction n11 with
   | zero => intros; omega
   | succ n11 ihW10 =>
    intro M7 hH7 hF7 b8 hb8 k9 hrW10
    refine jx_load c1 hm rfl rfl rfl rfl ?_
    obtain ⟨z12, k13, lz12, uz12⟩ := hH7.ld (c := 173) (i := 7) (A := 0) (B := 4) (bs_28_4 _ _ (by omega) (by omega))
    refine jx_geti c1 hm rfl sh_173 rfl k13 ?_
    refine jz_eq c1 hm 65 rfl rfl (fun h14 => ?_) (fun h14 => ?_)
    ·
     refine jx_load c1 hm rfl rfl rfl rfl ?_
     refine jv_v c3 hm rfl pj_X12_layAside rfl rfl ⟨_, _, _, rfl, sh_173⟩ rfl ((ct_X12_layAside_173 X (by omega) M7 hH7 ).le (by decide)) (fun M15 ⟨hH15, hR15⟩ => ?_)
     have hF15 := hF7.tr hR15 (by decide +kernel)
     refine jy_ic c1 hm rfl (by decide) ?_
     refine jx_stor c1 hm (L' := [some (.inr (.inr (.inl 173))), some (.inl a0), some (.inl 0), none]) rfl rfl rfl rfl rfl ?_
     refine jy_ic c1 hm rfl (by decide) ?_
     refine jx_stor c1 hm (L' := [some (.inr (.inr (.inl 173))), some (.inl a0), some (.inl 0), some (.inl 0)]) rfl rfl rfl rfl rfl ?_
     have W24 : ∀ (n25 : Nat) (b16 : Int) (hb16 : 0 ≤ b16 ∧ b16 ≤ 40) (b17 : Int) (hb17 : 0 ≤ b17 ∧ b17 ≤ 59) (M18 : JM) (hH18 : HI (X + b16 + b17) M18) (hF18 : Fr md_X12_book_173 M0 M18) (k20 : M18.1 173 7 = z12) (k22 : M18.1 173 46 = b8) (h23 : b16 ≤ 40 ∧ 0 ≤ b17 ∧ b17 ≤ 52), 4200 - 100 * b16 - b17 < (n25 : Int) → F 73 [some (.inr (.inr (.inl 173))), some (.inl a0), some (.inl b16), some (.inl b17)] [] M18 := by
      intro n25
      induction n25 with
      | zero => intros; omega
      | succ n25 ihW24 =>
       intro b16 hb16 b17 hb17 M18 hH18 hF18 k20 k22 h23 hrW24
       refine jx_load c1 hm rfl rfl rfl rfl ?_
       refine jx_load c1 hm rfl rfl rfl rfl ?_
       refine jx_geti c1 hm rfl sh_173 rfl k22 ?_
       have J31 : F 103 [some (.inr (.inr (.inl 173))), some (.inl a0), some (.inl b16), some (.inl b17)] [] M18 := by
        refine jx_load c1 hm rfl rfl rfl rfl ?_
        refine jx_getr c1 hm rfl sh_173 rfl ?_
        refine jy_ic c1 hm rfl (by decide) ?_
        refine jx_load c1 hm rfl rfl rfl rfl ?_
        obtain ⟨M32, e32, hH32, hF32, k32, n32, q32⟩ := mup hH18 hF18 (c := 196) (i := 0) (v := b17) (A := (-2147483648)) (B := 2147483647) rfl ⟨by omega, by omega⟩ (jin_of 20 rfl ⟨by omega, by omega⟩)
        refine jm_iast c1 hm rfl sh_196 ⟨by omega, by omega⟩ e32 ?_
        refine jx_load c1 hm rfl rfl rfl rfl ?_
        refine jx_getr c1 hm rfl sh_173 rfl ?_
        refine jy_ic c1 hm rfl (by decide) ?_
        refine jx_load c1 hm rfl rfl rfl rfl ?_
        obtain ⟨M33, e33, hH33, hF33, k33, n33, q33⟩ := mup hH32 hF32 (c := 196) (i := 1) (v := b16) (A := (-2147483648)) (B := 2147483647) rfl ⟨by omega, by omega⟩ (jin_of 21 rfl ⟨by omega, by omega⟩)
        refine jm_iast c1 hm rfl sh_196 ⟨by omega, by omega⟩ e33 ?_
        refine jx_load c1 hm rfl rfl rfl rfl ?_
        refine jx_getr c1 hm rfl sh_173 rfl ?_
        refine jy_ic c1 hm rfl (by decide) ?_
        refine jx_load c1 hm rfl rfl rfl rfl ?_
        refine jx_getr c1 hm rfl sh_173 rfl ?_
        refine jy_bp c1 hm rfl (by decide) ?_
        obtain ⟨z34, k35, lz34, uz34⟩ := hH33.ld (c := 175) (i := 101) (A := (-2147483648)) (B := 2147483647) (bs_11_7 _ _ (by omega) (by omega))
        refine jx_iald c1 hm rfl sh_175 ⟨by omega, by omega⟩ k35 ?_
        obtain ⟨M36, e36, hH36, hF36, k36, n36, q36⟩ := mup hH33 hF33 (c := 196) (i := 2) (v := z34) (A := (-2147483648)) (B := 2147483647) rfl ⟨by omega, by omega⟩ (jin_of 22 rfl ⟨by omega, by omega⟩)
        refine jm_iast c1 hm rfl sh_196 ⟨by omega, by omega⟩ e36 ?_
        refine jx_load c1 hm rfl rfl rfl rfl ?_
        refine jx_getr c1 hm rfl sh_173 rfl ?_
        refine jy_ic c1 hm rfl (by decide) ?_
        refine jx_load c1 hm rfl rfl rfl rfl ?_
        refine jy_bp c1 hm rfl (by decide) ?_
        refine jy_bp c1 hm rfl (by decide) ?_
        refine jv_i c3 hm rfl pj_X12_sumOf rfl rfl ⟨_, _, _, rfl, sh_173⟩ rfl ((ct_X12_sumOf_173 (X + b16 + b17) (by omega) M36 hH36 108 ⟨by omega, by omega⟩ 6 ⟨by omega, by omega⟩).le (by decide)) (fun z37 _ ⟨rfl, lz37, uz37⟩ => ?_)
        obtain ⟨M38, e38, hH38, hF38, k38, n38, q38⟩ := mup hH36 hF36 (c := 196) (i := 3) (v := z37) (A := (-2147483648)) (B := 2147483647) rfl ⟨by omega, by omega⟩ (jin_of 23 rfl ⟨by omega, by omega⟩)
        refine jm_iast c1 hm rfl sh_196 ⟨by omega, by omega⟩ e38 ?_
        refine jx_load c1 hm rfl rfl rfl rfl ?_
        refine jy_ic c1 hm rfl (by decide) ?_
        obtain ⟨M39, e39, hH39, hF39, k39, n39, q39⟩ := mup hH38 hF38 (c := 173) (i := 47) (v := 1) (A := 0) (B := 1) (bs_28_21 _ _ (by omega) (by omega)) ⟨by omega, by omega⟩ (jin_of 14 rfl ⟨by omega, by omega⟩)
        refine jm_putz c1 hm rfl sh_173 rfl ⟨by omega, by omega⟩ e39 ?_
        refine jx_load c1 hm rfl rfl rfl rfl ?_
        refine jx_load c1 hm rfl rfl rfl rfl ?_
        refine jy_ic c1 hm rfl (by decide) ?_
        have J43 : ∀ (b42 : Int) (hb42 : 0 ≤ b42 ∧ b42 ≤ 1), F 164 [some (.inr (.inr (.inl 173))), some (.inl a0), some (.inl b16), some (.inl b17)] [.inl b42, .inr (.inr (.inl 173))] M39 := by
         intro b42 hb42
         refine jv_v c3 hm rfl pj_X12_stay rfl rfl ⟨_, _, _, rfl, sh_173⟩ rfl ((ct_X12_stay_173 (X + b16 + b17) (by omega) M39 hH39 b42 ⟨by omega, by omega⟩).le (by decide)) (fun M44 ⟨hH44, hR44⟩ => ?_)
         have hF44 := hF39.tr hR44 (by decide +kernel)
         refine jx_load c1 hm rfl rfl rfl rfl ?_
         refine jz_ne c1 hm 175 rfl rfl (fun h45 => ?_) (fun h45 => ?_)
         ·
          refine jx_load c1 hm rfl rfl rfl rfl ?_
          exact jx_reti c2 hm rfl rfl ⟨_, rfl, (hH44.mono (by omega) (by omega)), hF44, by omega, by omega⟩
         refine jy_ic c1 hm rfl (by decide) ?_
         refine jx_goto c1 hm 176 rfl rfl ?_
         exact jx_reti c2 hm rfl rfl ⟨_, rfl, (hH44.mono (by omega) (by omega)), hF44, by omega, by omega⟩
        refine jc_ne c1 hm 163 rfl rfl (fun h40 => ?_) (fun h40 => ?_)
        ·
         refine jy_ic c1 hm rfl (by decide) ?_
         exact J43 0 (by omega)
        refine jx_load c1 hm rfl rfl rfl rfl ?_
        refine jz_le c1 hm 163 rfl rfl (fun h41 => ?_) (fun h41 => ?_)
        ·
         refine jy_ic c1 hm rfl (by decide) ?_
         exact J43 0 (by omega)
        refine jy_ic c1 hm rfl (by decide) ?_
        refine jx_goto c1 hm 164 rfl rfl ?_
        exact J43 1 (by omega)
       refine jc_ge c1 hm 103 rfl rfl (fun h26 => ?_) (fun h26 => ?_)
       ·
        exact J31 
       refine jx_load c1 hm rfl rfl rfl rfl ?_
       refine jz_ne c1 hm 103 rfl rfl (fun h27 => ?_) (fun h27 => ?_)
       ·
        exact J31 
       refine jx_load c1 hm rfl rfl rfl rfl ?_
       refine jy_ic c1 hm rfl (by decide) ?_
       refine jx_load c1 hm rfl rfl rfl rfl ?_
       refine jy_mul c1 hm (4 * b16) rfl (by omega) ?_
       refine jv_i c3 hm rfl pj_X12_goBy rfl rfl ⟨_, _, _, rfl, sh_173⟩ rfl ((ct_X12_goBy_173 (X + b16 + b17) (by omega) M18 hH18 (4 * b16) ⟨by omega, by omega⟩ (by omega)).le (by decide)) (fun z28 M29 ⟨hH29, hR29, lz28, uz28⟩ => ?_)
       have hF29 := hF18.tr hR29 (by decide +kernel)
       refine jx_stor c1 hm (L' := [some (.inr (.inr (.inl 173))), some (.inl a0), some (.inl b16), some (.inl z28)]) rfl rfl rfl rfl rfl ?_
       refine jx_load c1 hm rfl rfl rfl rfl ?_
       refine jz_ne c1 hm 73 rfl rfl (fun h30 => ?_) (fun h30 => ?_)
       ·
        have k46 : M29.1 173 7 = z12 := (hR29 173 7 (by decide +kernel)).trans k20
        have k47 : M29.1 173 46 = b8 := (hR29 173 46 (by decide +kernel)).trans k22
        exact ihW24 b16 (by omega) z28 (by omega) M29 (hH29.mono (by omega) (by omega)) hF29 k46 k47 (by omega) (by omega)
       refine jx_iinc c1 hm (v := (b16 + 1)) (L' := [some (.inr (.inr (.inl 173))), some (.inl a0), some (.inl (b16 + 1)), some (.inl z28)]) rfl rfl (by omega) (by omega) rfl ?_
       refine jx_goto c1 hm 73 rfl rfl ?_
       have k48 : M29.1 173 7 = z12 := (hR29 173 7 (by decide +kernel)).trans k20
       have k49 : M29.1 173 46 = b8 := (hR29 173 46 (by decide +kernel)).trans k22
       exact ihW24 (b16 + 1) (by omega) z28 (by omega) M29 (hH29.mono (by omega) (by omega)) hF29 k48 k49 (by omega) (by omega)
     have k19 : M15.1 173 7 = z12 := (hR15 173 7 (by decide +kernel)).trans k13
     have k21 : M15.1 173 46 = b8 := (hR15 173 46 (by decide +kernel)).trans k9
     exact W24 (4200 - 100 * 0 - 0 + 1 : Int).toNat 0 (by omega) 0 (by omega) M15 (hH15.mono (by omega) (by omega)) hF15 k19 k21 (by omega) (by omega)
    refine jx_load c1 hm rfl rfl rfl rfl ?_
    obtain ⟨z50, k51, lz50, uz50⟩ := hH7.ld (c := 173) (i := 5) (A := 0) (B := 940) (bs_28_3 _ _ (by omega) (by omega))
    refine jv_i c3 hm rfl pj_X12_readBookLine rfl rfl ⟨_, _, _, rfl, sh_173⟩ rfl ((ct_X12_readBookLine_173 X (by omega) M7 hH7 ).le (by decide)) (fun z52 M56 ⟨hH56, hR56, lz52, uz52, p53, p54, p55⟩ => ?_)
    have hF56 := hF7.tr hR56 (by decide +kernel)
    obtain ⟨z57, k58, lz57, uz57⟩ := hH56.ld (c := 173) (i := 5) (A := 0) (B := 940) (bs_28_3 _ _ (by omega) (by omega))
    have k59 : M56.1 173 46 = b8 := (hR56 173 46 (by decide +kernel)).trans k9
    refine jz_ne c1 hm 52 rfl rfl (fun h60 => ?_) (fun h60 => ?_)
    ·
     refine jx_load c1 hm rfl rfl rfl rfl ?_
     refine jx_dup c1 hm rfl rfl ?_
     refine jx_geti c1 hm rfl sh_173 rfl k59 ?_
     refine jy_ic c1 hm rfl (by decide) ?_
     refine jy_add c1 hm (b8 + 1) rfl (by omega) ?_
     obtain ⟨M61, e61, hH61, hF61, k61, n61, q61⟩ := mup hH56 hF56 (c := 173) (i := 46) (v := (b8 + 1)) (A := 0) (B := 40) (bs_28_20 _ _ (by omega) (by omega)) ⟨by omega, by omega⟩ (jin_of 13 rfl ⟨by omega, by omega⟩)
     refine jm_puti c1 hm rfl sh_173 rfl e61 ?_
     refine jx_goto c1 hm 30 rfl rfl ?_
     exact ihW10 M61 hH61 hF61 (b8 + 1) (by omega) k61 (by omega)
    refine jy_bp c1 hm rfl (by decide) ?_
    refine jx_load c1 hm rfl rfl rfl rfl ?_
    obtain ⟨z62, k63, lz62, uz62⟩ := hH56.ld (c := 173) (i := 11) (A := 0) (B := 940) (bs_28_6 _ _ (by omega) (by omega))
    refine jx_geti c1 hm rfl sh_173 rfl k63 ?_
    refine jy_sub c1 hm (-z62 - 2) rfl (by omega) ?_
    exact jx_reti c2 hm rfl rfl ⟨_, rfl, (hH56.mono (by omega) (by omega)), hF56, by omega, by omega⟩
  exact W10 (40 + 1 : Int).toNat M6 hH6 hF6 0 (by omega) k6 (by omega)
 refine jy_sp c1 hm rfl (by decide) ?_
 exact jx_reti c2 hm rfl rfl ⟨_, rfl, (hH1.mono (by omega) (by omega)), hF1, by omega, by omega⟩
