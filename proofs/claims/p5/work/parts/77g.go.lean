/-! Contracts of the reference, exact (by wip/q/wlk.py). -/
def ml_X12_go_173p : List (Nat × (Nat × Nat)) := [(173, (12, 12))]
def md_X12_go_173p : List (Nat × (Nat × Nat)) := [(173, (5, 5)), (173, (6, 6)), (173, (7, 7)), (173, (8, 8)), (173, (9, 9))]
set_option maxHeartbeats 30000000 in
theorem ct_X12_go_173p (X : Int) (hX : 0 ≤ X ∧ X ≤ 100000000) (M0 : JM) (hH0 : HI X M0)  : JOk shp PJ 2 107 [.inr (.inr (.inl 173))] M0 (jRv (fun M' => HI X M' ∧ Fr md_X12_go_173p M0 M' ∧ (RTk M' (txR M0) (M0.1 173 5)) ∧ (LFr ml_X12_go_173p M0 M'))) := by
 refine ⟨jr_X12_go, pj_X12_go, fun F c1 c2 c3 => ?_⟩
 have hm := pj_X12_go
 change F 0 [some (.inr (.inr (.inl 173))), none, none, none, none] [] M0
 have hF0 : Fr md_X12_go_173p M0 M0 := Fr.rf _ _
 obtain ⟨z1, k2, lz1, uz1⟩ := hH0.ld (c := 173) (i := 5) (A := 0) (B := 940) (bs_28_3 _ _ (by omega) (by omega))
 obtain ⟨z3, k4, lz3, uz3⟩ := hH0.ld (c := 173) (i := 3) (A := 0) (B := 940) (bs_28_1 _ _ (by omega) (by omega))
 obtain ⟨z5, k6, lz5, uz5⟩ := hH0.ld (c := 173) (i := 4) (A := 0) (B := 900) (bs_28_2 _ _ (by omega) (by omega))
 have W14 : ∀ (n15 : Nat) (M7 : JM) (hH7 : HI (X) M7) (hF7 : Fr md_X12_go_173p M0 M7) (k8 : M7.1 173 3 = z3) (k9 : M7.1 173 4 = z5) (b10 : Int) (hb10 : 0 ≤ b10 ∧ b10 ≤ 940) (k11 : M7.1 173 5 = b10) (hsk : SKR M0 (M7.1 173 5)) (hg : LFr ml_X12_go_173p M0 M7), (-b10 + 940) < (n15 : Int) → F 0 [some (.inr (.inr (.inl 173))), none, none, none, none] [] M7 := by
  intro n15
  induction n15 with
  | zero => intros; omega
  | succ n15 ihW14 =>
   intro M7 hH7 hF7 k8 k9 b10 hb10 k11 hsk hg hrW14
   refine jx_load c1 hm rfl rfl rfl rfl ?_
   refine jx_geti c1 hm rfl sh_173 rfl k11 ?_
   skip
   refine jx_load c1 hm rfl rfl rfl rfl ?_
   refine jx_geti c1 hm rfl sh_173 rfl k8 ?_
   have J24 : ∀ (hnw : M7.1 173 5 < M7.1 173 3 → M0.1 174 (M7.1 173 5).toNat ≠ 32 ∧ M0.1 174 (M7.1 173 5).toNat ≠ 10), F 52 [some (.inr (.inr (.inl 173))), none, none, none, none] [] M7 := by
    intro hnw
    refine jx_load c1 hm rfl rfl rfl rfl ?_
    refine jx_load c1 hm rfl rfl rfl rfl ?_
    refine jx_geti c1 hm rfl sh_173 rfl k11 ?_
    obtain ⟨M25, e25, hH25, hF25, k25, n25, q25⟩ := mup hH7 hF7 (c := 173) (i := 6) (v := b10) (A := 0) (B := 940) (bs_28_3 _ _ (by omega) (by omega)) ⟨by omega, by omega⟩ (jin_of 1 rfl ⟨by omega, by omega⟩)
    refine jm_puti c1 hm rfl sh_173 rfl e25 ?_
    refine jx_load c1 hm rfl rfl rfl rfl ?_
    have k26 : M25.1 173 3 = z3 := (n25 173 3 (by decide)).trans k8
    refine jx_geti c1 hm rfl sh_173 rfl k26 ?_
    refine jx_load c1 hm rfl rfl rfl rfl ?_
    have k27 : M25.1 173 4 = z5 := (n25 173 4 (by decide)).trans k9
    refine jx_geti c1 hm rfl sh_173 rfl k27 ?_
    have J34 : ∀ (hlm : ¬ (M25.1 173 4 < M25.1 173 3 ∧ M25.1 173 4 ≤ M25.1 173 6)), F 96 [some (.inr (.inr (.inl 173))), none, none, none, none] [] M25 := by
     intro hlm
     refine jx_load c1 hm rfl rfl rfl rfl ?_
     have k35 : M25.1 173 5 = b10 := (n25 173 5 (by decide)).trans k11
     refine jx_geti c1 hm rfl sh_173 rfl k35 ?_
     refine jx_load c1 hm rfl rfl rfl rfl ?_
     refine jx_geti c1 hm rfl sh_173 rfl k26 ?_
     refine jc_lt c1 hm 113 rfl rfl (fun h36 => ?_) (fun h36 => ?_)
     ·
      refine jx_load c1 hm rfl rfl rfl rfl ?_
      refine jx_getr c1 hm rfl sh_173 rfl ?_
      refine jx_load c1 hm rfl rfl rfl rfl ?_
      refine jx_geti c1 hm rfl sh_173 rfl k35 ?_
      obtain ⟨z37, k38, lz37, uz37⟩ := hH25.ld (c := 174) (i := (b10).toNat) (A := 0) (B := 255) rfl
      refine jx_iald c1 hm rfl sh_174 ⟨by omega, by omega⟩ k38 ?_
      refine jx_stor c1 hm (L' := [some (.inr (.inr (.inl 173))), some (.inl z37), none, none, none]) rfl rfl rfl rfl rfl ?_
      refine jx_load c1 hm rfl rfl rfl rfl ?_
      refine jt_i c3 hm rfl rfl pj_X12_isLetter rfl rfl rfl ((ct_X12_isLetter X (by omega) M25 hH25 z37 ⟨by omega, by omega⟩).le (by decide)) (fun z39 _ ⟨rfl, lz39, uz39, p40, p41⟩ => ?_)
      have J83 : ∀ (h81 : 48 ≤ z37 ∧ z37 ≤ 122) (h82 : (97 ≤ z37 ∧ z37 ≤ 122) ∨ (48 ≤ z37 ∧ z37 ≤ 57)), F 198 [some (.inr (.inr (.inl 173))), some (.inl z37), none, none, none] [] M25 := by
       intro h81 h82
       refine jx_load c1 hm rfl rfl rfl rfl ?_
       refine jt_i c3 hm rfl rfl pj_X12_isLetter rfl rfl rfl ((ct_X12_isLetter X (by omega) M25 hH25 z37 ⟨by omega, by omega⟩).le (by decide)) (fun z84 _ ⟨rfl, lz84, uz84, p85, p86⟩ => ?_)
       refine jx_stor c1 hm (L' := [some (.inr (.inr (.inl 173))), some (.inl z37), some (.inl z84), none, none]) rfl rfl rfl rfl rfl ?_
       refine jy_ic c1 hm rfl (by decide) ?_
       refine jx_stor c1 hm (L' := [some (.inr (.inr (.inl 173))), some (.inl z37), some (.inl z84), some (.inl 1), none]) rfl rfl rfl rfl rfl ?_
       refine jx_load c1 hm rfl rfl rfl rfl ?_
       refine jx_lcon c1 hm (v := 0) rfl (by decide) ?_
       obtain ⟨M87, e87, hH87, hF87, n87, k87, g87⟩ := mul hH25 hF25 (c := 173) (i := 12) (v := 0) (fun _ => lb0)
       refine jm_putl c1 hm rfl sh_173 rfl e87 ?_
       refine jx_load c1 hm rfl rfl rfl rfl ?_
       refine jy_ic c1 hm rfl (by decide) ?_
       obtain ⟨M88, e88, hH88, hF88, k88, n88, q88⟩ := mup hH87 hF87 (c := 173) (i := 8) (v := 0) (A := (-2147483648)) (B := 2147483647) (bs_28_5 _ _ (by omega) (by omega)) ⟨by omega, by omega⟩ (jin_of 3 rfl ⟨by omega, by omega⟩)
       refine jm_puti c1 hm rfl sh_173 rfl e88 ?_
       have W106 : ∀ (n107 : Nat) (b89 : Int) (hb89 : 0 ≤ b89 ∧ b89 ≤ 1) (o90 : Option JV) (ho90 : o90 = none ∨ (∃ z, o90 = some (.inl z)) ∨ ∃ r, o90 = some (.inr (.inr r))) (M91 : JM) (hH91 : HI (X) M91) (hF91 : Fr md_X12_go_173p M0 M91) (k93 : M91.1 173 3 = z3) (k95 : M91.1 173 4 = z5) (b97 : Int) (hb97 : 0 ≤ b97 ∧ b97 ≤ 940) (k98 : M91.1 173 5 = b97) (k100 : M91.1 173 6 = b10) (b101 : Int) (hb101 : (-2147483648) ≤ b101 ∧ b101 ≤ 2147483647) (k102 : M91.1 173 8 = b101) (h103 : M91.1 173 6 ≤ M91.1 173 5) (hgi : GI M0 M91 z84 b89) (hg : LFr ml_X12_go_173p M0 M91), (-b97 + 940) < (n107 : Int) → F 215 [some (.inr (.inr (.inl 173))), some (.inl z37), some (.inl z84), some (.inl b89), o90] [] M91 := by
        intro n107
        induction n107 with
        | zero => intros; omega
        | succ n107 ihW106 =>
         intro b89 hb89 o90 ho90 M91 hH91 hF91 k93 k95 b97 hb97 k98 k100 b101 hb101 k102 h103 hgi hg hrW106
         refine jx_load c1 hm rfl rfl rfl rfl ?_
         refine jx_load c1 hm rfl rfl rfl rfl ?_
         refine jx_geti c1 hm rfl sh_173 rfl k98 ?_
         skip
         refine jv_i c3 hm rfl pj_X12_tapeAt rfl rfl ⟨_, _, _, rfl, sh_173⟩ rfl ((ct_X12_tapeAt_173 X (by omega) M91 hH91 b97 ⟨by omega, by omega⟩).le (by decide)) (fun z108 _ ⟨rfl, lz108, uz108, p109, p110⟩ => ?_)
         refine jt_i c3 hm rfl rfl pj_X12_isLetter rfl rfl rfl ((ct_X12_isLetter X (by omega) M91 hH91 z108 ⟨by omega, by omega⟩).le (by decide)) (fun z111 _ ⟨rfl, lz111, uz111, p112, p113⟩ => ?_)
         have J140 : ∀ (h138 : M91.1 173 5 < M91.1 173 3) (hch : (97 ≤ M91.1 174 (M91.1 173 5).toNat ∧ M91.1 174 (M91.1 173 5).toNat ≤ 122) ∨ (48 ≤ M91.1 174 (M91.1 173 5).toNat ∧ M91.1 174 (M91.1 173 5).toNat ≤ 57)), F 243 [some (.inr (.inr (.inl 173))), some (.inl z37), some (.inl z84), some (.inl b89), o90] [] M91 := by
          intro h138 hch
          refine jx_load c1 hm rfl rfl rfl rfl ?_
          refine jx_getr c1 hm rfl sh_173 rfl ?_
          refine jx_load c1 hm rfl rfl rfl rfl ?_
          refine jx_geti c1 hm rfl sh_173 rfl k98 ?_
          obtain ⟨z141, k142, lz141, uz141⟩ := hH91.ld (c := 174) (i := (b97).toNat) (A := 0) (B := 255) rfl
          refine jx_iald c1 hm rfl sh_174 ⟨by omega, by omega⟩ k142 ?_
          refine jx_stor c1 hm (L' := [some (.inr (.inr (.inl 173))), some (.inl z37), some (.inl z84), some (.inl b89), some (.inl z141)]) rfl rfl rfl rfl rfl ?_
          refine jx_load c1 hm rfl rfl rfl rfl ?_
          refine jz_eq c1 hm 271 rfl rfl (fun h143 => ?_) (fun h143 => ?_)
          ·
           refine jy_ic c1 hm rfl (by decide) ?_
           refine jx_stor c1 hm (L' := [some (.inr (.inr (.inl 173))), some (.inl z37), some (.inl z84), some (.inl 0), some (.inl z141)]) rfl rfl rfl rfl rfl ?_
           refine jx_load c1 hm rfl rfl rfl rfl ?_
           refine jx_geti c1 hm rfl sh_173 rfl k98 ?_
           refine jx_load c1 hm rfl rfl rfl rfl ?_
           refine jx_geti c1 hm rfl sh_173 rfl k100 ?_
           refine jy_sub c1 hm (-b10 + b97) rfl (by omega) ?_
           refine jy_bp c1 hm rfl (by decide) ?_
           refine jc_ge c1 hm 307 rfl rfl (fun h144 => ?_) (fun h144 => ?_)
           ·
            refine jx_load c1 hm rfl rfl rfl rfl ?_
            refine jx_geti c1 hm rfl sh_173 rfl k98 ?_
            refine jx_load c1 hm rfl rfl rfl rfl ?_
            refine jx_geti c1 hm rfl sh_173 rfl k100 ?_
            refine jy_sub c1 hm (-b10 + b97) rfl (by omega) ?_
            refine jy_ic c1 hm rfl (by decide) ?_
            refine jc_ge c1 hm 337 rfl rfl (fun h145 => ?_) (fun h145 => ?_)
            ·
             refine jx_load c1 hm rfl rfl rfl rfl ?_
             refine jx_dup c1 hm rfl rfl ?_
             refine jx_geti c1 hm rfl sh_173 rfl k98 ?_
             refine jy_ic c1 hm rfl (by decide) ?_
             refine jy_add c1 hm (b97 + 1) rfl (by omega) ?_
             obtain ⟨M146, e146, hH146, hF146, k146, n146, q146⟩ := mup hH91 hF91 (c := 173) (i := 5) (v := (b97 + 1)) (A := 0) (B := 940) (bs_28_3 _ _ (by omega) (by omega)) ⟨by omega, by omega⟩ (jin_of 0 rfl ⟨by omega, by omega⟩)
             refine jm_puti c1 hm rfl sh_173 rfl e146 ?_
             refine jx_goto c1 hm 215 rfl rfl ?_
             have k226 : M146.1 173 3 = z3 := (n146 173 3 (by decide)).trans k93
             have k227 : M146.1 173 4 = z5 := (n146 173 4 (by decide)).trans k95
             have k228 : M146.1 173 6 = b10 := (n146 173 6 (by decide)).trans k100
             have k229 : M146.1 173 8 = b101 := (n146 173 8 (by decide)).trans k102
             exact ihW106 0 (by omega) (some (.inl z141)) (Or.inr (Or.inl ⟨_, rfl⟩)) M146 hH146 hF146 k226 k227 (b97 + 1) (by omega) k146 k228 b101 (by omega) k229 (by omega) (GI.st (c := z141) hgi (by omega) (by omega) (by omega) (by rw [k98, ← hF91 174 (b97).toNat rfl]; exact k142) (by have y9 := hch; rw [k98, k142] at y9; omega) (n146 173 6 (by decide)) (by omega) (by omega) (fun y => absurd y (by omega)) (fun y => absurd y (by omega))) (hg.eq q146) (by omega)
            refine jx_load c1 hm rfl rfl rfl rfl ?_
            refine jy_bp c1 hm rfl (by decide) ?_
            refine jx_load c1 hm rfl rfl rfl rfl ?_
            refine jx_geti c1 hm rfl sh_173 rfl k102 ?_
            refine jx_iope c1 hm rfl rfl (fun z147 lz147 uz147 ez147 => ?_)
            refine jx_load c1 hm rfl rfl rfl rfl ?_
            refine jx_iope c1 hm rfl rfl (fun z148 lz148 uz148 ez148 => ?_)
            refine jy_bp c1 hm rfl (by decide) ?_
            refine jx_iope c1 hm rfl rfl (fun z149 lz149 uz149 ez149 => ?_)
            obtain ⟨M150, e150, hH150, hF150, k150, n150, q150⟩ := mup hH91 hF91 (c := 173) (i := 8) (v := z149) (A := (-2147483648)) (B := 2147483647) (bs_28_5 _ _ (by omega) (by omega)) ⟨by omega, by omega⟩ (jin_of 3 rfl ⟨by omega, by omega⟩)
            refine jm_puti c1 hm rfl sh_173 rfl e150 ?_
            refine jx_load c1 hm rfl rfl rfl rfl ?_
            refine jx_dup c1 hm rfl rfl ?_
            have k151 : M150.1 173 5 = b97 := (n150 173 5 (by decide)).trans k98
            refine jx_geti c1 hm rfl sh_173 rfl k151 ?_
            refine jy_ic c1 hm rfl (by decide) ?_
            refine jy_add c1 hm (b97 + 1) rfl (by omega) ?_
            obtain ⟨M152, e152, hH152, hF152, k152, n152, q152⟩ := mup hH150 hF150 (c := 173) (i := 5) (v := (b97 + 1)) (A := 0) (B := 940) (bs_28_3 _ _ (by omega) (by omega)) ⟨by omega, by omega⟩ (jin_of 0 rfl ⟨by omega, by omega⟩)
            refine jm_puti c1 hm rfl sh_173 rfl e152 ?_
            refine jx_goto c1 hm 215 rfl rfl ?_
            have k230 : M152.1 173 3 = z3 := (n152 173 3 (by decide)).trans ((n150 173 3 (by decide)).trans k93)
            have k231 : M152.1 173 4 = z5 := (n152 173 4 (by decide)).trans ((n150 173 4 (by decide)).trans k95)
            have k232 : M152.1 173 6 = b10 := (n152 173 6 (by decide)).trans ((n150 173 6 (by decide)).trans k100)
            have k233 : M152.1 173 8 = z149 := (n152 173 8 (by decide)).trans k150
            exact ihW106 0 (by omega) (some (.inl z141)) (Or.inr (Or.inl ⟨_, rfl⟩)) M152 hH152 hF152 k230 k231 (b97 + 1) (by omega) k152 k232 z149 (by omega) k233 (by omega) (GI.st (c := z141) hgi (by omega) (by omega) (by omega) (by rw [k98, ← hF91 174 (b97).toNat rfl]; exact k142) (by have y9 := hch; rw [k98, k142] at y9; omega) ((n152 173 6 (by decide)).trans (n150 173 6 (by decide))) (by omega) (by omega) (fun y => absurd y (by omega)) (fun _ z9 y1 y2 y3 => by rw [(n152 173 8 (by decide)), k150]; exact iv_dg ez147 ez148 ez149 (by omega) y2 y3 (by omega))) ((hg.eq q150).eq q152) (by omega)
           refine jx_load c1 hm rfl rfl rfl rfl ?_
           refine jx_ldc2 c1 hm (v := 27) rfl (by decide) ?_
           refine jx_load c1 hm rfl rfl rfl rfl ?_
           obtain ⟨w153, kw153⟩ : ∃ w, M91.2 173 12 = w := ⟨_, rfl⟩
           have bw153 : LB w153.toInt := kw153 ▸ hH91.2.1 173 12 rfl
           have tw153 : (M91.2 173 12).toInt = w153.toInt := by rw [kw153]
           refine jx_getl c1 hm rfl sh_173 rfl kw153 ?_
           have hwb := GI.wb hgi (by omega) (by omega)
           refine jx_lop c1 hm rfl rfl (fun w154 ew154 => ?_)
           have tw154 : w154.toInt = 27 * w153.toInt := jl_mul ew154 (by decide) rfl (by omega)
           clear ew154
           refine jx_load c1 hm rfl rfl rfl rfl ?_
           refine jx_i2l c1 hm rfl (fun w155 ew155 => ?_)
           have tw155 : w155.toInt = z141 := jl_i2l ew155 (by omega)
           clear ew155
           refine jx_lop c1 hm rfl rfl (fun w156 ew156 => ?_)
           have tw156 : w156.toInt = w154.toInt + w155.toInt := jl_add ew156 rfl rfl (by omega)
           clear ew156
           refine jx_ldc2 c1 hm (v := 96) rfl (by decide) ?_
           refine jx_lop c1 hm rfl rfl (fun w157 ew157 => ?_)
           have tw157 : w157.toInt = w156.toInt - 96 := jl_sub ew157 rfl (by decide) (by omega)
           clear ew157
           have bw157 : LB w157.toInt := by unfold LB; omega
           obtain ⟨M158, e158, hH158, hF158, n158, k158, g158⟩ := mul hH91 hF91 (c := 173) (i := 12) (v := w157) (fun _ => bw157)
           refine jm_putl c1 hm rfl sh_173 rfl e158 ?_
           refine jx_load c1 hm rfl rfl rfl rfl ?_
           have k159 : M158.1 173 5 = b97 := (n158 173 5).trans k98
           refine jx_geti c1 hm rfl sh_173 rfl k159 ?_
           refine jx_load c1 hm rfl rfl rfl rfl ?_
           have k160 : M158.1 173 6 = b10 := (n158 173 6).trans k100
           refine jx_geti c1 hm rfl sh_173 rfl k160 ?_
           refine jy_sub c1 hm (-b10 + b97) rfl (by omega) ?_
           refine jy_ic c1 hm rfl (by decide) ?_
           refine jc_ge c1 hm 337 rfl rfl (fun h161 => ?_) (fun h161 => ?_)
           ·
            refine jx_load c1 hm rfl rfl rfl rfl ?_
            refine jx_dup c1 hm rfl rfl ?_
            refine jx_geti c1 hm rfl sh_173 rfl k159 ?_
            refine jy_ic c1 hm rfl (by decide) ?_
            refine jy_add c1 hm (b97 + 1) rfl (by omega) ?_
            obtain ⟨M162, e162, hH162, hF162, k162, n162, q162⟩ := mup hH158 hF158 (c := 173) (i := 5) (v := (b97 + 1)) (A := 0) (B := 940) (bs_28_3 _ _ (by omega) (by omega)) ⟨by omega, by omega⟩ (jin_of 0 rfl ⟨by omega, by omega⟩)
            refine jm_puti c1 hm rfl sh_173 rfl e162 ?_
            refine jx_goto c1 hm 215 rfl rfl ?_
            have k234 : M162.1 173 3 = z3 := (n162 173 3 (by decide)).trans ((n158 173 3).trans k93)
            have k235 : M162.1 173 4 = z5 := (n162 173 4 (by decide)).trans ((n158 173 4).trans k95)
            have k236 : M162.1 173 6 = b10 := (n162 173 6 (by decide)).trans k160
            have k237 : M162.1 173 8 = b101 := (n162 173 8 (by decide)).trans ((n158 173 8).trans k102)
            exact ihW106 0 (by omega) (some (.inl z141)) (Or.inr (Or.inl ⟨_, rfl⟩)) M162 hH162 hF162 k234 k235 (b97 + 1) (by omega) k162 k236 b101 (by omega) k237 (by omega) (GI.st (c := z141) hgi (by omega) (by omega) (by omega) (by rw [k98, ← hF91 174 (b97).toNat rfl]; exact k142) (by have y9 := hch; rw [k98, k142] at y9; omega) ((n162 173 6 (by decide)).trans (n158 173 6)) (by omega) (by omega) (fun _ => by rw [(q162 173 12), k158]; omega) (fun y => absurd y (by omega))) ((hg.st g158 rfl).eq q162) (by omega)
           refine jx_load c1 hm rfl rfl rfl rfl ?_
           refine jy_bp c1 hm rfl (by decide) ?_
           refine jx_load c1 hm rfl rfl rfl rfl ?_
           have k163 : M158.1 173 8 = b101 := (n158 173 8).trans k102
           refine jx_geti c1 hm rfl sh_173 rfl k163 ?_
           refine jx_iope c1 hm rfl rfl (fun z164 lz164 uz164 ez164 => ?_)
           refine jx_load c1 hm rfl rfl rfl rfl ?_
           refine jx_iope c1 hm rfl rfl (fun z165 lz165 uz165 ez165 => ?_)
           refine jy_bp c1 hm rfl (by decide) ?_
           refine jx_iope c1 hm rfl rfl (fun z166 lz166 uz166 ez166 => ?_)
           obtain ⟨M167, e167, hH167, hF167, k167, n167, q167⟩ := mup hH158 hF158 (c := 173) (i := 8) (v := z166) (A := (-2147483648)) (B := 2147483647) (bs_28_5 _ _ (by omega) (by omega)) ⟨by omega, by omega⟩ (jin_of 3 rfl ⟨by omega, by omega⟩)
           refine jm_puti c1 hm rfl sh_173 rfl e167 ?_
           refine jx_load c1 hm rfl rfl rfl rfl ?_
           refine jx_dup c1 hm rfl rfl ?_
           have k168 : M167.1 173 5 = b97 := (n167 173 5 (by decide)).trans k159
           refine jx_geti c1 hm rfl sh_173 rfl k168 ?_
           refine jy_ic c1 hm rfl (by decide) ?_
           refine jy_add c1 hm (b97 + 1) rfl (by omega) ?_
           obtain ⟨M169, e169, hH169, hF169, k169, n169, q169⟩ := mup hH167 hF167 (c := 173) (i := 5) (v := (b97 + 1)) (A := 0) (B := 940) (bs_28_3 _ _ (by omega) (by omega)) ⟨by omega, by omega⟩ (jin_of 0 rfl ⟨by omega, by omega⟩)
           refine jm_puti c1 hm rfl sh_173 rfl e169 ?_
           refine jx_goto c1 hm 215 rfl rfl ?_
           have k238 : M169.1 173 3 = z3 := (n169 173 3 (by decide)).trans ((n167 173 3 (by decide)).trans ((n158 173 3).trans k93))
           have k239 : M169.1 173 4 = z5 := (n169 173 4 (by decide)).trans ((n167 173 4 (by decide)).trans ((n158 173 4).trans k95))
           have k240 : M169.1 173 6 = b10 := (n169 173 6 (by decide)).trans ((n167 173 6 (by decide)).trans k160)
           have k241 : M169.1 173 8 = z166 := (n169 173 8 (by decide)).trans k167
           exact ihW106 0 (by omega) (some (.inl z141)) (Or.inr (Or.inl ⟨_, rfl⟩)) M169 hH169 hF169 k238 k239 (b97 + 1) (by omega) k169 k240 z166 (by omega) k241 (by omega) (GI.st (c := z141) hgi (by omega) (by omega) (by omega) (by rw [k98, ← hF91 174 (b97).toNat rfl]; exact k142) (by have y9 := hch; rw [k98, k142] at y9; omega) (((n169 173 6 (by decide)).trans (n167 173 6 (by decide))).trans (n158 173 6)) (by omega) (by omega) (fun _ => by rw [((q169 173 12).trans (q167 173 12)), k158]; omega) (fun _ z9 y1 y2 y3 => by rw [(n169 173 8 (by decide)), k167]; exact iv_dg ez164 ez165 ez166 (by omega) y2 y3 (by omega))) (((hg.st g158 rfl).eq q167).eq q169) (by omega)
          refine jx_load c1 hm rfl rfl rfl rfl ?_
          refine jt_i c3 hm rfl rfl pj_X12_isLetter rfl rfl rfl ((ct_X12_isLetter X (by omega) M91 hH91 z141 ⟨by omega, by omega⟩).le (by decide)) (fun z170 _ ⟨rfl, lz170, uz170, p171, p172⟩ => ?_)
          refine jx_load c1 hm rfl rfl rfl rfl ?_
          refine jc_ne c1 hm 271 rfl rfl (fun h173 => ?_) (fun h173 => ?_)
          ·
           refine jy_ic c1 hm rfl (by decide) ?_
           refine jx_stor c1 hm (L' := [some (.inr (.inr (.inl 173))), some (.inl z37), some (.inl z84), some (.inl 0), some (.inl z141)]) rfl rfl rfl rfl rfl ?_
           refine jx_load c1 hm rfl rfl rfl rfl ?_
           refine jx_geti c1 hm rfl sh_173 rfl k98 ?_
           refine jx_load c1 hm rfl rfl rfl rfl ?_
           refine jx_geti c1 hm rfl sh_173 rfl k100 ?_
           refine jy_sub c1 hm (-b10 + b97) rfl (by omega) ?_
           refine jy_bp c1 hm rfl (by decide) ?_
           refine jc_ge c1 hm 307 rfl rfl (fun h174 => ?_) (fun h174 => ?_)
           ·
            refine jx_load c1 hm rfl rfl rfl rfl ?_
            refine jx_geti c1 hm rfl sh_173 rfl k98 ?_
            refine jx_load c1 hm rfl rfl rfl rfl ?_
            refine jx_geti c1 hm rfl sh_173 rfl k100 ?_
            refine jy_sub c1 hm (-b10 + b97) rfl (by omega) ?_
            refine jy_ic c1 hm rfl (by decide) ?_
            refine jc_ge c1 hm 337 rfl rfl (fun h175 => ?_) (fun h175 => ?_)
            ·
             refine jx_load c1 hm rfl rfl rfl rfl ?_
             refine jx_dup c1 hm rfl rfl ?_
             refine jx_geti c1 hm rfl sh_173 rfl k98 ?_
             refine jy_ic c1 hm rfl (by decide) ?_
             refine jy_add c1 hm (b97 + 1) rfl (by omega) ?_
             obtain ⟨M176, e176, hH176, hF176, k176, n176, q176⟩ := mup hH91 hF91 (c := 173) (i := 5) (v := (b97 + 1)) (A := 0) (B := 940) (bs_28_3 _ _ (by omega) (by omega)) ⟨by omega, by omega⟩ (jin_of 0 rfl ⟨by omega, by omega⟩)
             refine jm_puti c1 hm rfl sh_173 rfl e176 ?_
             refine jx_goto c1 hm 215 rfl rfl ?_
             have k242 : M176.1 173 3 = z3 := (n176 173 3 (by decide)).trans k93
             have k243 : M176.1 173 4 = z5 := (n176 173 4 (by decide)).trans k95
             have k244 : M176.1 173 6 = b10 := (n176 173 6 (by decide)).trans k100
             have k245 : M176.1 173 8 = b101 := (n176 173 8 (by decide)).trans k102
             exact ihW106 0 (by omega) (some (.inl z141)) (Or.inr (Or.inl ⟨_, rfl⟩)) M176 hH176 hF176 k242 k243 (b97 + 1) (by omega) k176 k244 b101 (by omega) k245 (by omega) (GI.st (c := z141) hgi (by omega) (by omega) (by omega) (by rw [k98, ← hF91 174 (b97).toNat rfl]; exact k142) (by have y9 := hch; rw [k98, k142] at y9; omega) (n176 173 6 (by decide)) (by omega) (by omega) (fun y => absurd y (by omega)) (fun y => absurd y (by omega))) (hg.eq q176) (by omega)
            refine jx_load c1 hm rfl rfl rfl rfl ?_
            refine jy_bp c1 hm rfl (by decide) ?_
            refine jx_load c1 hm rfl rfl rfl rfl ?_
            refine jx_geti c1 hm rfl sh_173 rfl k102 ?_
            refine jx_iope c1 hm rfl rfl (fun z177 lz177 uz177 ez177 => ?_)
            refine jx_load c1 hm rfl rfl rfl rfl ?_
            refine jx_iope c1 hm rfl rfl (fun z178 lz178 uz178 ez178 => ?_)
            refine jy_bp c1 hm rfl (by decide) ?_
            refine jx_iope c1 hm rfl rfl (fun z179 lz179 uz179 ez179 => ?_)
            obtain ⟨M180, e180, hH180, hF180, k180, n180, q180⟩ := mup hH91 hF91 (c := 173) (i := 8) (v := z179) (A := (-2147483648)) (B := 2147483647) (bs_28_5 _ _ (by omega) (by omega)) ⟨by omega, by omega⟩ (jin_of 3 rfl ⟨by omega, by omega⟩)
            refine jm_puti c1 hm rfl sh_173 rfl e180 ?_
            refine jx_load c1 hm rfl rfl rfl rfl ?_
            refine jx_dup c1 hm rfl rfl ?_
            have k181 : M180.1 173 5 = b97 := (n180 173 5 (by decide)).trans k98
            refine jx_geti c1 hm rfl sh_173 rfl k181 ?_
            refine jy_ic c1 hm rfl (by decide) ?_
            refine jy_add c1 hm (b97 + 1) rfl (by omega) ?_
            obtain ⟨M182, e182, hH182, hF182, k182, n182, q182⟩ := mup hH180 hF180 (c := 173) (i := 5) (v := (b97 + 1)) (A := 0) (B := 940) (bs_28_3 _ _ (by omega) (by omega)) ⟨by omega, by omega⟩ (jin_of 0 rfl ⟨by omega, by omega⟩)
            refine jm_puti c1 hm rfl sh_173 rfl e182 ?_
            refine jx_goto c1 hm 215 rfl rfl ?_
            have k246 : M182.1 173 3 = z3 := (n182 173 3 (by decide)).trans ((n180 173 3 (by decide)).trans k93)
            have k247 : M182.1 173 4 = z5 := (n182 173 4 (by decide)).trans ((n180 173 4 (by decide)).trans k95)
            have k248 : M182.1 173 6 = b10 := (n182 173 6 (by decide)).trans ((n180 173 6 (by decide)).trans k100)
            have k249 : M182.1 173 8 = z179 := (n182 173 8 (by decide)).trans k180
            exact ihW106 0 (by omega) (some (.inl z141)) (Or.inr (Or.inl ⟨_, rfl⟩)) M182 hH182 hF182 k246 k247 (b97 + 1) (by omega) k182 k248 z179 (by omega) k249 (by omega) (GI.st (c := z141) hgi (by omega) (by omega) (by omega) (by rw [k98, ← hF91 174 (b97).toNat rfl]; exact k142) (by have y9 := hch; rw [k98, k142] at y9; omega) ((n182 173 6 (by decide)).trans (n180 173 6 (by decide))) (by omega) (by omega) (fun y => absurd y (by omega)) (fun _ z9 y1 y2 y3 => by rw [(n182 173 8 (by decide)), k180]; exact iv_dg ez177 ez178 ez179 (by omega) y2 y3 (by omega))) ((hg.eq q180).eq q182) (by omega)
           refine jx_load c1 hm rfl rfl rfl rfl ?_
           refine jx_ldc2 c1 hm (v := 27) rfl (by decide) ?_
           refine jx_load c1 hm rfl rfl rfl rfl ?_
           obtain ⟨w183, kw183⟩ : ∃ w, M91.2 173 12 = w := ⟨_, rfl⟩
           have bw183 : LB w183.toInt := kw183 ▸ hH91.2.1 173 12 rfl
           have tw183 : (M91.2 173 12).toInt = w183.toInt := by rw [kw183]
           refine jx_getl c1 hm rfl sh_173 rfl kw183 ?_
           have hwb := GI.wb hgi (by omega) (by omega)
           refine jx_lop c1 hm rfl rfl (fun w184 ew184 => ?_)
           have tw184 : w184.toInt = 27 * w183.toInt := jl_mul ew184 (by decide) rfl (by omega)
           clear ew184
           refine jx_load c1 hm rfl rfl rfl rfl ?_
           refine jx_i2l c1 hm rfl (fun w185 ew185 => ?_)
           have tw185 : w185.toInt = z141 := jl_i2l ew185 (by omega)
           clear ew185
           refine jx_lop c1 hm rfl rfl (fun w186 ew186 => ?_)
           have tw186 : w186.toInt = w184.toInt + w185.toInt := jl_add ew186 rfl rfl (by omega)
           clear ew186
           refine jx_ldc2 c1 hm (v := 96) rfl (by decide) ?_
           refine jx_lop c1 hm rfl rfl (fun w187 ew187 => ?_)
           have tw187 : w187.toInt = w186.toInt - 96 := jl_sub ew187 rfl (by decide) (by omega)
           clear ew187
           have bw187 : LB w187.toInt := by unfold LB; omega
           obtain ⟨M188, e188, hH188, hF188, n188, k188, g188⟩ := mul hH91 hF91 (c := 173) (i := 12) (v := w187) (fun _ => bw187)
           refine jm_putl c1 hm rfl sh_173 rfl e188 ?_
           refine jx_load c1 hm rfl rfl rfl rfl ?_
           have k189 : M188.1 173 5 = b97 := (n188 173 5).trans k98
           refine jx_geti c1 hm rfl sh_173 rfl k189 ?_
           refine jx_load c1 hm rfl rfl rfl rfl ?_
           have k190 : M188.1 173 6 = b10 := (n188 173 6).trans k100
           refine jx_geti c1 hm rfl sh_173 rfl k190 ?_
           refine jy_sub c1 hm (-b10 + b97) rfl (by omega) ?_
           refine jy_ic c1 hm rfl (by decide) ?_
           refine jc_ge c1 hm 337 rfl rfl (fun h191 => ?_) (fun h191 => ?_)
           ·
            refine jx_load c1 hm rfl rfl rfl rfl ?_
            refine jx_dup c1 hm rfl rfl ?_
            refine jx_geti c1 hm rfl sh_173 rfl k189 ?_
            refine jy_ic c1 hm rfl (by decide) ?_
            refine jy_add c1 hm (b97 + 1) rfl (by omega) ?_
            obtain ⟨M192, e192, hH192, hF192, k192, n192, q192⟩ := mup hH188 hF188 (c := 173) (i := 5) (v := (b97 + 1)) (A := 0) (B := 940) (bs_28_3 _ _ (by omega) (by omega)) ⟨by omega, by omega⟩ (jin_of 0 rfl ⟨by omega, by omega⟩)
            refine jm_puti c1 hm rfl sh_173 rfl e192 ?_
            refine jx_goto c1 hm 215 rfl rfl ?_
            have k250 : M192.1 173 3 = z3 := (n192 173 3 (by decide)).trans ((n188 173 3).trans k93)
            have k251 : M192.1 173 4 = z5 := (n192 173 4 (by decide)).trans ((n188 173 4).trans k95)
            have k252 : M192.1 173 6 = b10 := (n192 173 6 (by decide)).trans k190
            have k253 : M192.1 173 8 = b101 := (n192 173 8 (by decide)).trans ((n188 173 8).trans k102)
            exact ihW106 0 (by omega) (some (.inl z141)) (Or.inr (Or.inl ⟨_, rfl⟩)) M192 hH192 hF192 k250 k251 (b97 + 1) (by omega) k192 k252 b101 (by omega) k253 (by omega) (GI.st (c := z141) hgi (by omega) (by omega) (by omega) (by rw [k98, ← hF91 174 (b97).toNat rfl]; exact k142) (by have y9 := hch; rw [k98, k142] at y9; omega) ((n192 173 6 (by decide)).trans (n188 173 6)) (by omega) (by omega) (fun _ => by rw [(q192 173 12), k188]; omega) (fun y => absurd y (by omega))) ((hg.st g188 rfl).eq q192) (by omega)
           refine jx_load c1 hm rfl rfl rfl rfl ?_
           refine jy_bp c1 hm rfl (by decide) ?_
           refine jx_load c1 hm rfl rfl rfl rfl ?_
           have k193 : M188.1 173 8 = b101 := (n188 173 8).trans k102
           refine jx_geti c1 hm rfl sh_173 rfl k193 ?_
           refine jx_iope c1 hm rfl rfl (fun z194 lz194 uz194 ez194 => ?_)
           refine jx_load c1 hm rfl rfl rfl rfl ?_
           refine jx_iope c1 hm rfl rfl (fun z195 lz195 uz195 ez195 => ?_)
           refine jy_bp c1 hm rfl (by decide) ?_
           refine jx_iope c1 hm rfl rfl (fun z196 lz196 uz196 ez196 => ?_)
           obtain ⟨M197, e197, hH197, hF197, k197, n197, q197⟩ := mup hH188 hF188 (c := 173) (i := 8) (v := z196) (A := (-2147483648)) (B := 2147483647) (bs_28_5 _ _ (by omega) (by omega)) ⟨by omega, by omega⟩ (jin_of 3 rfl ⟨by omega, by omega⟩)
           refine jm_puti c1 hm rfl sh_173 rfl e197 ?_
           refine jx_load c1 hm rfl rfl rfl rfl ?_
           refine jx_dup c1 hm rfl rfl ?_
           have k198 : M197.1 173 5 = b97 := (n197 173 5 (by decide)).trans k189
           refine jx_geti c1 hm rfl sh_173 rfl k198 ?_
           refine jy_ic c1 hm rfl (by decide) ?_
           refine jy_add c1 hm (b97 + 1) rfl (by omega) ?_
           obtain ⟨M199, e199, hH199, hF199, k199, n199, q199⟩ := mup hH197 hF197 (c := 173) (i := 5) (v := (b97 + 1)) (A := 0) (B := 940) (bs_28_3 _ _ (by omega) (by omega)) ⟨by omega, by omega⟩ (jin_of 0 rfl ⟨by omega, by omega⟩)
           refine jm_puti c1 hm rfl sh_173 rfl e199 ?_
           refine jx_goto c1 hm 215 rfl rfl ?_
           have k254 : M199.1 173 3 = z3 := (n199 173 3 (by decide)).trans ((n197 173 3 (by decide)).trans ((n188 173 3).trans k93))
           have k255 : M199.1 173 4 = z5 := (n199 173 4 (by decide)).trans ((n197 173 4 (by decide)).trans ((n188 173 4).trans k95))
           have k256 : M199.1 173 6 = b10 := (n199 173 6 (by decide)).trans ((n197 173 6 (by decide)).trans k190)
           have k257 : M199.1 173 8 = z196 := (n199 173 8 (by decide)).trans k197
           exact ihW106 0 (by omega) (some (.inl z141)) (Or.inr (Or.inl ⟨_, rfl⟩)) M199 hH199 hF199 k254 k255 (b97 + 1) (by omega) k199 k256 z196 (by omega) k257 (by omega) (GI.st (c := z141) hgi (by omega) (by omega) (by omega) (by rw [k98, ← hF91 174 (b97).toNat rfl]; exact k142) (by have y9 := hch; rw [k98, k142] at y9; omega) (((n199 173 6 (by decide)).trans (n197 173 6 (by decide))).trans (n188 173 6)) (by omega) (by omega) (fun _ => by rw [((q199 173 12).trans (q197 173 12)), k188]; omega) (fun _ z9 y1 y2 y3 => by rw [(n199 173 8 (by decide)), k197]; exact iv_dg ez194 ez195 ez196 (by omega) y2 y3 (by omega))) (((hg.st g188 rfl).eq q197).eq q199) (by omega)
          refine jy_ic c1 hm rfl (by decide) ?_
          refine jx_goto c1 hm 272 rfl rfl ?_
          refine jx_stor c1 hm (L' := [some (.inr (.inr (.inl 173))), some (.inl z37), some (.inl z84), some (.inl 1), some (.inl z141)]) rfl rfl rfl rfl rfl ?_
          refine jx_load c1 hm rfl rfl rfl rfl ?_
          refine jx_geti c1 hm rfl sh_173 rfl k98 ?_
          refine jx_load c1 hm rfl rfl rfl rfl ?_
          refine jx_geti c1 hm rfl sh_173 rfl k100 ?_
          refine jy_sub c1 hm (-b10 + b97) rfl (by omega) ?_
          refine jy_bp c1 hm rfl (by decide) ?_
          refine jc_ge c1 hm 307 rfl rfl (fun h200 => ?_) (fun h200 => ?_)
          ·
           refine jx_load c1 hm rfl rfl rfl rfl ?_
           refine jx_geti c1 hm rfl sh_173 rfl k98 ?_
           refine jx_load c1 hm rfl rfl rfl rfl ?_
           refine jx_geti c1 hm rfl sh_173 rfl k100 ?_
           refine jy_sub c1 hm (-b10 + b97) rfl (by omega) ?_
           refine jy_ic c1 hm rfl (by decide) ?_
           refine jc_ge c1 hm 337 rfl rfl (fun h201 => ?_) (fun h201 => ?_)
           ·
            refine jx_load c1 hm rfl rfl rfl rfl ?_
            refine jx_dup c1 hm rfl rfl ?_
            refine jx_geti c1 hm rfl sh_173 rfl k98 ?_
            refine jy_ic c1 hm rfl (by decide) ?_
            refine jy_add c1 hm (b97 + 1) rfl (by omega) ?_
            obtain ⟨M202, e202, hH202, hF202, k202, n202, q202⟩ := mup hH91 hF91 (c := 173) (i := 5) (v := (b97 + 1)) (A := 0) (B := 940) (bs_28_3 _ _ (by omega) (by omega)) ⟨by omega, by omega⟩ (jin_of 0 rfl ⟨by omega, by omega⟩)
            refine jm_puti c1 hm rfl sh_173 rfl e202 ?_
            refine jx_goto c1 hm 215 rfl rfl ?_
            have k258 : M202.1 173 3 = z3 := (n202 173 3 (by decide)).trans k93
            have k259 : M202.1 173 4 = z5 := (n202 173 4 (by decide)).trans k95
            have k260 : M202.1 173 6 = b10 := (n202 173 6 (by decide)).trans k100
            have k261 : M202.1 173 8 = b101 := (n202 173 8 (by decide)).trans k102
            exact ihW106 1 (by omega) (some (.inl z141)) (Or.inr (Or.inl ⟨_, rfl⟩)) M202 hH202 hF202 k258 k259 (b97 + 1) (by omega) k202 k260 b101 (by omega) k261 (by omega) (GI.st (c := z141) hgi (by omega) (by omega) (by omega) (by rw [k98, ← hF91 174 (b97).toNat rfl]; exact k142) (by have y9 := hch; rw [k98, k142] at y9; omega) (n202 173 6 (by decide)) (by omega) (by omega) (fun y => absurd y (by omega)) (fun y => absurd y (by omega))) (hg.eq q202) (by omega)
           refine jx_load c1 hm rfl rfl rfl rfl ?_
           refine jy_bp c1 hm rfl (by decide) ?_
           refine jx_load c1 hm rfl rfl rfl rfl ?_
           refine jx_geti c1 hm rfl sh_173 rfl k102 ?_
           refine jx_iope c1 hm rfl rfl (fun z203 lz203 uz203 ez203 => ?_)
           refine jx_load c1 hm rfl rfl rfl rfl ?_
           refine jx_iope c1 hm rfl rfl (fun z204 lz204 uz204 ez204 => ?_)
           refine jy_bp c1 hm rfl (by decide) ?_
           refine jx_iope c1 hm rfl rfl (fun z205 lz205 uz205 ez205 => ?_)
           obtain ⟨M206, e206, hH206, hF206, k206, n206, q206⟩ := mup hH91 hF91 (c := 173) (i := 8) (v := z205) (A := (-2147483648)) (B := 2147483647) (bs_28_5 _ _ (by omega) (by omega)) ⟨by omega, by omega⟩ (jin_of 3 rfl ⟨by omega, by omega⟩)
           refine jm_puti c1 hm rfl sh_173 rfl e206 ?_
           refine jx_load c1 hm rfl rfl rfl rfl ?_
           refine jx_dup c1 hm rfl rfl ?_
           have k207 : M206.1 173 5 = b97 := (n206 173 5 (by decide)).trans k98
           refine jx_geti c1 hm rfl sh_173 rfl k207 ?_
           refine jy_ic c1 hm rfl (by decide) ?_
           refine jy_add c1 hm (b97 + 1) rfl (by omega) ?_
           obtain ⟨M208, e208, hH208, hF208, k208, n208, q208⟩ := mup hH206 hF206 (c := 173) (i := 5) (v := (b97 + 1)) (A := 0) (B := 940) (bs_28_3 _ _ (by omega) (by omega)) ⟨by omega, by omega⟩ (jin_of 0 rfl ⟨by omega, by omega⟩)
           refine jm_puti c1 hm rfl sh_173 rfl e208 ?_
           refine jx_goto c1 hm 215 rfl rfl ?_
           have k262 : M208.1 173 3 = z3 := (n208 173 3 (by decide)).trans ((n206 173 3 (by decide)).trans k93)
           have k263 : M208.1 173 4 = z5 := (n208 173 4 (by decide)).trans ((n206 173 4 (by decide)).trans k95)
           have k264 : M208.1 173 6 = b10 := (n208 173 6 (by decide)).trans ((n206 173 6 (by decide)).trans k100)
           have k265 : M208.1 173 8 = z205 := (n208 173 8 (by decide)).trans k206
           exact ihW106 1 (by omega) (some (.inl z141)) (Or.inr (Or.inl ⟨_, rfl⟩)) M208 hH208 hF208 k262 k263 (b97 + 1) (by omega) k208 k264 z205 (by omega) k265 (by omega) (GI.st (c := z141) hgi (by omega) (by omega) (by omega) (by rw [k98, ← hF91 174 (b97).toNat rfl]; exact k142) (by have y9 := hch; rw [k98, k142] at y9; omega) ((n208 173 6 (by decide)).trans (n206 173 6 (by decide))) (by omega) (by omega) (fun y => absurd y (by omega)) (fun _ z9 y1 y2 y3 => by rw [(n208 173 8 (by decide)), k206]; exact iv_dg ez203 ez204 ez205 (by omega) y2 y3 (by omega))) ((hg.eq q206).eq q208) (by omega)
          refine jx_load c1 hm rfl rfl rfl rfl ?_
          refine jx_ldc2 c1 hm (v := 27) rfl (by decide) ?_
          refine jx_load c1 hm rfl rfl rfl rfl ?_
          obtain ⟨w209, kw209⟩ : ∃ w, M91.2 173 12 = w := ⟨_, rfl⟩
          have bw209 : LB w209.toInt := kw209 ▸ hH91.2.1 173 12 rfl
          have tw209 : (M91.2 173 12).toInt = w209.toInt := by rw [kw209]
          refine jx_getl c1 hm rfl sh_173 rfl kw209 ?_
          have hwb := GI.wb hgi (by omega) (by omega)
          refine jx_lop c1 hm rfl rfl (fun w210 ew210 => ?_)
          have tw210 : w210.toInt = 27 * w209.toInt := jl_mul ew210 (by decide) rfl (by omega)
          clear ew210
          refine jx_load c1 hm rfl rfl rfl rfl ?_
          refine jx_i2l c1 hm rfl (fun w211 ew211 => ?_)
          have tw211 : w211.toInt = z141 := jl_i2l ew211 (by omega)
          clear ew211
          refine jx_lop c1 hm rfl rfl (fun w212 ew212 => ?_)
          have tw212 : w212.toInt = w210.toInt + w211.toInt := jl_add ew212 rfl rfl (by omega)
          clear ew212
          refine jx_ldc2 c1 hm (v := 96) rfl (by decide) ?_
          refine jx_lop c1 hm rfl rfl (fun w213 ew213 => ?_)
          have tw213 : w213.toInt = w212.toInt - 96 := jl_sub ew213 rfl (by decide) (by omega)
          clear ew213
          have bw213 : LB w213.toInt := by unfold LB; omega
          obtain ⟨M214, e214, hH214, hF214, n214, k214, g214⟩ := mul hH91 hF91 (c := 173) (i := 12) (v := w213) (fun _ => bw213)
          refine jm_putl c1 hm rfl sh_173 rfl e214 ?_
          refine jx_load c1 hm rfl rfl rfl rfl ?_
          have k215 : M214.1 173 5 = b97 := (n214 173 5).trans k98
          refine jx_geti c1 hm rfl sh_173 rfl k215 ?_
          refine jx_load c1 hm rfl rfl rfl rfl ?_
          have k216 : M214.1 173 6 = b10 := (n214 173 6).trans k100
          refine jx_geti c1 hm rfl sh_173 rfl k216 ?_
          refine jy_sub c1 hm (-b10 + b97) rfl (by omega) ?_
          refine jy_ic c1 hm rfl (by decide) ?_
          refine jc_ge c1 hm 337 rfl rfl (fun h217 => ?_) (fun h217 => ?_)
          ·
           refine jx_load c1 hm rfl rfl rfl rfl ?_
           refine jx_dup c1 hm rfl rfl ?_
           refine jx_geti c1 hm rfl sh_173 rfl k215 ?_
           refine jy_ic c1 hm rfl (by decide) ?_
           refine jy_add c1 hm (b97 + 1) rfl (by omega) ?_
           obtain ⟨M218, e218, hH218, hF218, k218, n218, q218⟩ := mup hH214 hF214 (c := 173) (i := 5) (v := (b97 + 1)) (A := 0) (B := 940) (bs_28_3 _ _ (by omega) (by omega)) ⟨by omega, by omega⟩ (jin_of 0 rfl ⟨by omega, by omega⟩)
           refine jm_puti c1 hm rfl sh_173 rfl e218 ?_
           refine jx_goto c1 hm 215 rfl rfl ?_
           have k266 : M218.1 173 3 = z3 := (n218 173 3 (by decide)).trans ((n214 173 3).trans k93)
           have k267 : M218.1 173 4 = z5 := (n218 173 4 (by decide)).trans ((n214 173 4).trans k95)
           have k268 : M218.1 173 6 = b10 := (n218 173 6 (by decide)).trans k216
           have k269 : M218.1 173 8 = b101 := (n218 173 8 (by decide)).trans ((n214 173 8).trans k102)
           exact ihW106 1 (by omega) (some (.inl z141)) (Or.inr (Or.inl ⟨_, rfl⟩)) M218 hH218 hF218 k266 k267 (b97 + 1) (by omega) k218 k268 b101 (by omega) k269 (by omega) (GI.st (c := z141) hgi (by omega) (by omega) (by omega) (by rw [k98, ← hF91 174 (b97).toNat rfl]; exact k142) (by have y9 := hch; rw [k98, k142] at y9; omega) ((n218 173 6 (by decide)).trans (n214 173 6)) (by omega) (by omega) (fun _ => by rw [(q218 173 12), k214]; omega) (fun y => absurd y (by omega))) ((hg.st g214 rfl).eq q218) (by omega)
          refine jx_load c1 hm rfl rfl rfl rfl ?_
          refine jy_bp c1 hm rfl (by decide) ?_
          refine jx_load c1 hm rfl rfl rfl rfl ?_
          have k219 : M214.1 173 8 = b101 := (n214 173 8).trans k102
          refine jx_geti c1 hm rfl sh_173 rfl k219 ?_
          refine jx_iope c1 hm rfl rfl (fun z220 lz220 uz220 ez220 => ?_)
          refine jx_load c1 hm rfl rfl rfl rfl ?_
          refine jx_iope c1 hm rfl rfl (fun z221 lz221 uz221 ez221 => ?_)
          refine jy_bp c1 hm rfl (by decide) ?_
          refine jx_iope c1 hm rfl rfl (fun z222 lz222 uz222 ez222 => ?_)
          obtain ⟨M223, e223, hH223, hF223, k223, n223, q223⟩ := mup hH214 hF214 (c := 173) (i := 8) (v := z222) (A := (-2147483648)) (B := 2147483647) (bs_28_5 _ _ (by omega) (by omega)) ⟨by omega, by omega⟩ (jin_of 3 rfl ⟨by omega, by omega⟩)
          refine jm_puti c1 hm rfl sh_173 rfl e223 ?_
          refine jx_load c1 hm rfl rfl rfl rfl ?_
          refine jx_dup c1 hm rfl rfl ?_
          have k224 : M223.1 173 5 = b97 := (n223 173 5 (by decide)).trans k215
          refine jx_geti c1 hm rfl sh_173 rfl k224 ?_
          refine jy_ic c1 hm rfl (by decide) ?_
          refine jy_add c1 hm (b97 + 1) rfl (by omega) ?_
          obtain ⟨M225, e225, hH225, hF225, k225, n225, q225⟩ := mup hH223 hF223 (c := 173) (i := 5) (v := (b97 + 1)) (A := 0) (B := 940) (bs_28_3 _ _ (by omega) (by omega)) ⟨by omega, by omega⟩ (jin_of 0 rfl ⟨by omega, by omega⟩)
          refine jm_puti c1 hm rfl sh_173 rfl e225 ?_
          refine jx_goto c1 hm 215 rfl rfl ?_
          have k270 : M225.1 173 3 = z3 := (n225 173 3 (by decide)).trans ((n223 173 3 (by decide)).trans ((n214 173 3).trans k93))
          have k271 : M225.1 173 4 = z5 := (n225 173 4 (by decide)).trans ((n223 173 4 (by decide)).trans ((n214 173 4).trans k95))
          have k272 : M225.1 173 6 = b10 := (n225 173 6 (by decide)).trans ((n223 173 6 (by decide)).trans k216)
          have k273 : M225.1 173 8 = z222 := (n225 173 8 (by decide)).trans k223
          exact ihW106 1 (by omega) (some (.inl z141)) (Or.inr (Or.inl ⟨_, rfl⟩)) M225 hH225 hF225 k270 k271 (b97 + 1) (by omega) k225 k272 z222 (by omega) k273 (by omega) (GI.st (c := z141) hgi (by omega) (by omega) (by omega) (by rw [k98, ← hF91 174 (b97).toNat rfl]; exact k142) (by have y9 := hch; rw [k98, k142] at y9; omega) (((n225 173 6 (by decide)).trans (n223 173 6 (by decide))).trans (n214 173 6)) (by omega) (by omega) (fun _ => by rw [((q225 173 12).trans (q223 173 12)), k214]; omega) (fun _ z9 y1 y2 y3 => by rw [(n225 173 8 (by decide)), k223]; exact iv_dg ez220 ez221 ez222 (by omega) y2 y3 (by omega))) (((hg.st g214 rfl).eq q223).eq q225) (by omega)
         refine jz_ne c1 hm 243 rfl rfl (fun h114 => ?_) (fun h114 => ?_)
         ·
          exact J140 (by omega) (by rw [k98]; omega)
         refine jx_load c1 hm rfl rfl rfl rfl ?_
         refine jx_load c1 hm rfl rfl rfl rfl ?_
         refine jx_geti c1 hm rfl sh_173 rfl k98 ?_
         refine jv_i c3 hm rfl pj_X12_tapeAt rfl rfl ⟨_, _, _, rfl, sh_173⟩ rfl ((ct_X12_tapeAt_173 X (by omega) M91 hH91 b97 ⟨by omega, by omega⟩).le (by decide)) (fun z115 _ ⟨rfl, lz115, uz115, p116, p117⟩ => ?_)
         refine jt_i c3 hm rfl rfl pj_X12_isDigit rfl rfl rfl ((ct_X12_isDigit X (by omega) M91 hH91 z115 ⟨by omega, by omega⟩).le (by decide)) (fun z118 _ ⟨rfl, lz118, uz118, p119, p120⟩ => ?_)
         refine jz_eq c1 hm 350 rfl rfl (fun h121 => ?_) (fun h121 => ?_)
         ·
          refine jx_load c1 hm rfl rfl rfl rfl ?_
          refine jx_load c1 hm rfl rfl rfl rfl ?_
          refine jz_eq c1 hm 377 rfl rfl (fun h122 => ?_) (fun h122 => ?_)
          ·
           refine jy_ic c1 hm rfl (by decide) ?_
           refine jx_goto c1 hm 390 rfl rfl ?_
           obtain ⟨M123, e123, hH123, hF123, k123, n123, q123⟩ := mup hH91 hF91 (c := 173) (i := 7) (v := 1) (A := 0) (B := 4) (bs_28_4 _ _ (by omega) (by omega)) ⟨by omega, by omega⟩ (jin_of 2 rfl ⟨by omega, by omega⟩)
           refine jm_puti c1 hm rfl sh_173 rfl e123 ?_
           have k124 : M123.1 173 5 = b97 := (n123 173 5 (by decide)).trans k98
           exact jx_retv c2 hm rfl rfl ⟨rfl, hH123, hF123, (GI.fin hgi (by omega) (by omega) (fun y => by rw [k98, ← hF91 174 (b97).toNat rfl]; omega) (fun j => hF123 174 j rfl) (hF123 173 3 rfl) (hF123 173 4 rfl) (n123 173 5 (by decide)) (n123 173 6 (by decide)) (n123 173 8 (by decide)) (q123 173 12) (by omega)), (hg.eq q123)⟩
          refine jx_load c1 hm rfl rfl rfl rfl ?_
          refine jx_geti c1 hm rfl sh_173 rfl k98 ?_
          refine jx_load c1 hm rfl rfl rfl rfl ?_
          refine jx_geti c1 hm rfl sh_173 rfl k100 ?_
          refine jy_sub c1 hm (-b10 + b97) rfl (by omega) ?_
          refine jx_load c1 hm rfl rfl rfl rfl ?_
          refine jz_eq c1 hm 373 rfl rfl (fun h125 => ?_) (fun h125 => ?_)
          ·
           refine jy_ic c1 hm rfl (by decide) ?_
           refine jc_le c1 hm 381 rfl rfl (fun h126 => ?_) (fun h126 => ?_)
           ·
            refine jx_load c1 hm rfl rfl rfl rfl ?_
            refine jz_eq c1 hm 389 rfl rfl (fun h127 => ?_) (fun h127 => ?_)
            ·
             refine jy_ic c1 hm rfl (by decide) ?_
             obtain ⟨M128, e128, hH128, hF128, k128, n128, q128⟩ := mup hH91 hF91 (c := 173) (i := 7) (v := 3) (A := 0) (B := 4) (bs_28_4 _ _ (by omega) (by omega)) ⟨by omega, by omega⟩ (jin_of 2 rfl ⟨by omega, by omega⟩)
             refine jm_puti c1 hm rfl sh_173 rfl e128 ?_
             have k129 : M128.1 173 5 = b97 := (n128 173 5 (by decide)).trans k98
             exact jx_retv c2 hm rfl rfl ⟨rfl, hH128, hF128, (GI.fin hgi (by omega) (by omega) (fun y => by rw [k98, ← hF91 174 (b97).toNat rfl]; omega) (fun j => hF128 174 j rfl) (hF128 173 3 rfl) (hF128 173 4 rfl) (n128 173 5 (by decide)) (n128 173 6 (by decide)) (n128 173 8 (by decide)) (q128 173 12) (by omega)), (hg.eq q128)⟩
            exfalso; omega
           refine jy_ic c1 hm rfl (by decide) ?_
           refine jx_goto c1 hm 390 rfl rfl ?_
           obtain ⟨M130, e130, hH130, hF130, k130, n130, q130⟩ := mup hH91 hF91 (c := 173) (i := 7) (v := 1) (A := 0) (B := 4) (bs_28_4 _ _ (by omega) (by omega)) ⟨by omega, by omega⟩ (jin_of 2 rfl ⟨by omega, by omega⟩)
           refine jm_puti c1 hm rfl sh_173 rfl e130 ?_
           have k131 : M130.1 173 5 = b97 := (n130 173 5 (by decide)).trans k98
           exact jx_retv c2 hm rfl rfl ⟨rfl, hH130, hF130, (GI.fin hgi (by omega) (by omega) (fun y => by rw [k98, ← hF91 174 (b97).toNat rfl]; omega) (fun j => hF130 174 j rfl) (hF130 173 3 rfl) (hF130 173 4 rfl) (n130 173 5 (by decide)) (n130 173 6 (by decide)) (n130 173 8 (by decide)) (q130 173 12) (by omega)), (hg.eq q130)⟩
          refine jy_bp c1 hm rfl (by decide) ?_
          refine jx_goto c1 hm 374 rfl rfl ?_
          refine jc_le c1 hm 381 rfl rfl (fun h132 => ?_) (fun h132 => ?_)
          ·
           refine jx_load c1 hm rfl rfl rfl rfl ?_
           refine jz_eq c1 hm 389 rfl rfl (fun h133 => ?_) (fun h133 => ?_)
           ·
            exfalso; omega
           refine jy_ic c1 hm rfl (by decide) ?_
           refine jx_goto c1 hm 390 rfl rfl ?_
           obtain ⟨M134, e134, hH134, hF134, k134, n134, q134⟩ := mup hH91 hF91 (c := 173) (i := 7) (v := 2) (A := 0) (B := 4) (bs_28_4 _ _ (by omega) (by omega)) ⟨by omega, by omega⟩ (jin_of 2 rfl ⟨by omega, by omega⟩)
           refine jm_puti c1 hm rfl sh_173 rfl e134 ?_
           have k135 : M134.1 173 5 = b97 := (n134 173 5 (by decide)).trans k98
           exact jx_retv c2 hm rfl rfl ⟨rfl, hH134, hF134, (GI.fin hgi (by omega) (by omega) (fun y => by rw [k98, ← hF91 174 (b97).toNat rfl]; omega) (fun j => hF134 174 j rfl) (hF134 173 3 rfl) (hF134 173 4 rfl) (n134 173 5 (by decide)) (n134 173 6 (by decide)) (n134 173 8 (by decide)) (q134 173 12) (by omega)), (hg.eq q134)⟩
          refine jy_ic c1 hm rfl (by decide) ?_
          refine jx_goto c1 hm 390 rfl rfl ?_
          obtain ⟨M136, e136, hH136, hF136, k136, n136, q136⟩ := mup hH91 hF91 (c := 173) (i := 7) (v := 1) (A := 0) (B := 4) (bs_28_4 _ _ (by omega) (by omega)) ⟨by omega, by omega⟩ (jin_of 2 rfl ⟨by omega, by omega⟩)
          refine jm_puti c1 hm rfl sh_173 rfl e136 ?_
          have k137 : M136.1 173 5 = b97 := (n136 173 5 (by decide)).trans k98
          exact jx_retv c2 hm rfl rfl ⟨rfl, hH136, hF136, (GI.fin hgi (by omega) (by omega) (fun y => by rw [k98, ← hF91 174 (b97).toNat rfl]; omega) (fun j => hF136 174 j rfl) (hF136 173 3 rfl) (hF136 173 4 rfl) (n136 173 5 (by decide)) (n136 173 6 (by decide)) (n136 173 8 (by decide)) (q136 173 12) (by omega)), (hg.eq q136)⟩
         exact J140 (by omega) (by rw [k98]; omega)
       have k92 : M88.1 173 3 = z3 := (n88 173 3 (by decide)).trans ((n87 173 3).trans k26)
       have k94 : M88.1 173 4 = z5 := (n88 173 4 (by decide)).trans ((n87 173 4).trans k27)
       have k96 : M88.1 173 5 = b10 := (n88 173 5 (by decide)).trans ((n87 173 5).trans k35)
       have k99 : M88.1 173 6 = b10 := (n88 173 6 (by decide)).trans ((n87 173 6).trans k25)
       exact W106 ((-b10 + 940) + 1 : Int).toNat 1 (by omega) none (Or.inl rfl) M88 hH88 hF88 k92 k94 b10 (by omega) k96 k99 0 (by omega) k88 (by omega) (GI.start (c := z37) hsk (((n88 173 6 (by decide)).trans (n87 173 6)).trans (k25.trans (by omega))) (((n88 173 5 (by decide)).trans (n87 173 5)).trans (n25 173 5 (by decide))) (by omega) (by omega) (by omega) (by omega) (by rw [k11, ← hF7 174 (b10).toNat rfl, ← (n25 174 (b10).toNat (fun h => absurd h.1 (by decide)))]; exact k38) (by omega) (by rw [q88 173 12, k87]; rfl) k88) (((hg.eq q25).st g87 rfl).eq q88) (by omega)
      refine jz_ne c1 hm 198 rfl rfl (fun h42 => ?_) (fun h42 => ?_)
      ·
       exact J83 (by omega) (by omega)
      refine jx_load c1 hm rfl rfl rfl rfl ?_
      refine jt_i c3 hm rfl rfl pj_X12_isDigit rfl rfl rfl ((ct_X12_isDigit X (by omega) M25 hH25 z37 ⟨by omega, by omega⟩).le (by decide)) (fun z43 _ ⟨rfl, lz43, uz43, p44, p45⟩ => ?_)
      refine jz_ne c1 hm 198 rfl rfl (fun h46 => ?_) (fun h46 => ?_)
      ·
       exact J83 (by omega) (by omega)
      refine jx_load c1 hm rfl rfl rfl rfl ?_
      refine jx_load c1 hm rfl rfl rfl rfl ?_
      refine jy_bp c1 hm rfl (by decide) ?_
      refine jc_eq c1 hm 174 rfl rfl (fun h47 => ?_) (fun h47 => ?_)
      ·
       refine jy_ic c1 hm rfl (by decide) ?_
       refine jx_goto c1 hm 179 rfl rfl ?_
       obtain ⟨M48, e48, hH48, hF48, k48, n48, q48⟩ := mup hH25 hF25 (c := 173) (i := 7) (v := 4) (A := 0) (B := 4) (bs_28_4 _ _ (by omega) (by omega)) ⟨by omega, by omega⟩ (jin_of 2 rfl ⟨by omega, by omega⟩)
       refine jm_puti c1 hm rfl sh_173 rfl e48 ?_
       refine jx_load c1 hm rfl rfl rfl rfl ?_
       refine jx_load c1 hm rfl rfl rfl rfl ?_
       obtain ⟨M49, e49, hH49, hF49, k49, n49, q49⟩ := mup hH48 hF48 (c := 173) (i := 9) (v := z37) (A := (-2147483648)) (B := 2147483647) (bs_28_5 _ _ (by omega) (by omega)) ⟨by omega, by omega⟩ (jin_of 4 rfl ⟨by omega, by omega⟩)
       refine jm_puti c1 hm rfl sh_173 rfl e49 ?_
       refine jx_load c1 hm rfl rfl rfl rfl ?_
       refine jx_dup c1 hm rfl rfl ?_
       have k50 : M49.1 173 5 = b10 := (n49 173 5 (by decide)).trans ((n48 173 5 (by decide)).trans k35)
       refine jx_geti c1 hm rfl sh_173 rfl k50 ?_
       refine jy_ic c1 hm rfl (by decide) ?_
       refine jy_add c1 hm (b10 + 1) rfl (by omega) ?_
       obtain ⟨M51, e51, hH51, hF51, k51, n51, q51⟩ := mup hH49 hF49 (c := 173) (i := 5) (v := (b10 + 1)) (A := 0) (B := 940) (bs_28_3 _ _ (by omega) (by omega)) ⟨by omega, by omega⟩ (jin_of 0 rfl ⟨by omega, by omega⟩)
       refine jm_puti c1 hm rfl sh_173 rfl e51 ?_
       exact jx_retv c2 hm rfl rfl ⟨rfl, hH51, hF51, (rx_sgn hsk (by omega) (by omega) (by omega) (by omega) (by rw [k11, ← hF7 174 (b10).toNat rfl, ← n25 174 (b10).toNat (fun h => absurd h.1 (by decide))]; exact k38) (by have y9 := hnw (by omega); rw [k11, ← hF7 174 (b10).toNat rfl, ← n25 174 (b10).toNat (fun h => absurd h.1 (by decide)), k38] at y9; omega) (by omega) (fun j => hF51 174 j rfl) (hF51 173 3 rfl) (hF51 173 4 rfl) (((n51 173 7 (by decide)).trans (n49 173 7 (by decide))).trans k48) (by omega) ((((n51 173 6 (by decide)).trans (n49 173 6 (by decide))).trans (n48 173 6 (by decide))).trans (k25.trans (by omega))) (by omega) ((n51 173 9 (by decide)).trans k49)), ((((hg.eq q25).eq q48).eq q49).eq q51)⟩
      refine jx_load c1 hm rfl rfl rfl rfl ?_
      refine jy_bp c1 hm rfl (by decide) ?_
      refine jc_eq c1 hm 174 rfl rfl (fun h52 => ?_) (fun h52 => ?_)
      ·
       refine jy_ic c1 hm rfl (by decide) ?_
       refine jx_goto c1 hm 179 rfl rfl ?_
       obtain ⟨M53, e53, hH53, hF53, k53, n53, q53⟩ := mup hH25 hF25 (c := 173) (i := 7) (v := 4) (A := 0) (B := 4) (bs_28_4 _ _ (by omega) (by omega)) ⟨by omega, by omega⟩ (jin_of 2 rfl ⟨by omega, by omega⟩)
       refine jm_puti c1 hm rfl sh_173 rfl e53 ?_
       refine jx_load c1 hm rfl rfl rfl rfl ?_
       refine jx_load c1 hm rfl rfl rfl rfl ?_
       obtain ⟨M54, e54, hH54, hF54, k54, n54, q54⟩ := mup hH53 hF53 (c := 173) (i := 9) (v := z37) (A := (-2147483648)) (B := 2147483647) (bs_28_5 _ _ (by omega) (by omega)) ⟨by omega, by omega⟩ (jin_of 4 rfl ⟨by omega, by omega⟩)
       refine jm_puti c1 hm rfl sh_173 rfl e54 ?_
       refine jx_load c1 hm rfl rfl rfl rfl ?_
       refine jx_dup c1 hm rfl rfl ?_
       have k55 : M54.1 173 5 = b10 := (n54 173 5 (by decide)).trans ((n53 173 5 (by decide)).trans k35)
       refine jx_geti c1 hm rfl sh_173 rfl k55 ?_
       refine jy_ic c1 hm rfl (by decide) ?_
       refine jy_add c1 hm (b10 + 1) rfl (by omega) ?_
       obtain ⟨M56, e56, hH56, hF56, k56, n56, q56⟩ := mup hH54 hF54 (c := 173) (i := 5) (v := (b10 + 1)) (A := 0) (B := 940) (bs_28_3 _ _ (by omega) (by omega)) ⟨by omega, by omega⟩ (jin_of 0 rfl ⟨by omega, by omega⟩)
       refine jm_puti c1 hm rfl sh_173 rfl e56 ?_
       exact jx_retv c2 hm rfl rfl ⟨rfl, hH56, hF56, (rx_sgn hsk (by omega) (by omega) (by omega) (by omega) (by rw [k11, ← hF7 174 (b10).toNat rfl, ← n25 174 (b10).toNat (fun h => absurd h.1 (by decide))]; exact k38) (by have y9 := hnw (by omega); rw [k11, ← hF7 174 (b10).toNat rfl, ← n25 174 (b10).toNat (fun h => absurd h.1 (by decide)), k38] at y9; omega) (by omega) (fun j => hF56 174 j rfl) (hF56 173 3 rfl) (hF56 173 4 rfl) (((n56 173 7 (by decide)).trans (n54 173 7 (by decide))).trans k53) (by omega) ((((n56 173 6 (by decide)).trans (n54 173 6 (by decide))).trans (n53 173 6 (by decide))).trans (k25.trans (by omega))) (by omega) ((n56 173 9 (by decide)).trans k54)), ((((hg.eq q25).eq q53).eq q54).eq q56)⟩
      refine jx_load c1 hm rfl rfl rfl rfl ?_
      refine jy_bp c1 hm rfl (by decide) ?_
      refine jc_eq c1 hm 174 rfl rfl (fun h57 => ?_) (fun h57 => ?_)
      ·
       refine jy_ic c1 hm rfl (by decide) ?_
       refine jx_goto c1 hm 179 rfl rfl ?_
       obtain ⟨M58, e58, hH58, hF58, k58, n58, q58⟩ := mup hH25 hF25 (c := 173) (i := 7) (v := 4) (A := 0) (B := 4) (bs_28_4 _ _ (by omega) (by omega)) ⟨by omega, by omega⟩ (jin_of 2 rfl ⟨by omega, by omega⟩)
       refine jm_puti c1 hm rfl sh_173 rfl e58 ?_
       refine jx_load c1 hm rfl rfl rfl rfl ?_
       refine jx_load c1 hm rfl rfl rfl rfl ?_
       obtain ⟨M59, e59, hH59, hF59, k59, n59, q59⟩ := mup hH58 hF58 (c := 173) (i := 9) (v := z37) (A := (-2147483648)) (B := 2147483647) (bs_28_5 _ _ (by omega) (by omega)) ⟨by omega, by omega⟩ (jin_of 4 rfl ⟨by omega, by omega⟩)
       refine jm_puti c1 hm rfl sh_173 rfl e59 ?_
       refine jx_load c1 hm rfl rfl rfl rfl ?_
       refine jx_dup c1 hm rfl rfl ?_
       have k60 : M59.1 173 5 = b10 := (n59 173 5 (by decide)).trans ((n58 173 5 (by decide)).trans k35)
       refine jx_geti c1 hm rfl sh_173 rfl k60 ?_
       refine jy_ic c1 hm rfl (by decide) ?_
       refine jy_add c1 hm (b10 + 1) rfl (by omega) ?_
       obtain ⟨M61, e61, hH61, hF61, k61, n61, q61⟩ := mup hH59 hF59 (c := 173) (i := 5) (v := (b10 + 1)) (A := 0) (B := 940) (bs_28_3 _ _ (by omega) (by omega)) ⟨by omega, by omega⟩ (jin_of 0 rfl ⟨by omega, by omega⟩)
       refine jm_puti c1 hm rfl sh_173 rfl e61 ?_
       exact jx_retv c2 hm rfl rfl ⟨rfl, hH61, hF61, (rx_sgn hsk (by omega) (by omega) (by omega) (by omega) (by rw [k11, ← hF7 174 (b10).toNat rfl, ← n25 174 (b10).toNat (fun h => absurd h.1 (by decide))]; exact k38) (by have y9 := hnw (by omega); rw [k11, ← hF7 174 (b10).toNat rfl, ← n25 174 (b10).toNat (fun h => absurd h.1 (by decide)), k38] at y9; omega) (by omega) (fun j => hF61 174 j rfl) (hF61 173 3 rfl) (hF61 173 4 rfl) (((n61 173 7 (by decide)).trans (n59 173 7 (by decide))).trans k58) (by omega) ((((n61 173 6 (by decide)).trans (n59 173 6 (by decide))).trans (n58 173 6 (by decide))).trans (k25.trans (by omega))) (by omega) ((n61 173 9 (by decide)).trans k59)), ((((hg.eq q25).eq q58).eq q59).eq q61)⟩
      refine jx_load c1 hm rfl rfl rfl rfl ?_
      refine jy_bp c1 hm rfl (by decide) ?_
      refine jc_eq c1 hm 174 rfl rfl (fun h62 => ?_) (fun h62 => ?_)
      ·
       refine jy_ic c1 hm rfl (by decide) ?_
       refine jx_goto c1 hm 179 rfl rfl ?_
       obtain ⟨M63, e63, hH63, hF63, k63, n63, q63⟩ := mup hH25 hF25 (c := 173) (i := 7) (v := 4) (A := 0) (B := 4) (bs_28_4 _ _ (by omega) (by omega)) ⟨by omega, by omega⟩ (jin_of 2 rfl ⟨by omega, by omega⟩)
       refine jm_puti c1 hm rfl sh_173 rfl e63 ?_
       refine jx_load c1 hm rfl rfl rfl rfl ?_
       refine jx_load c1 hm rfl rfl rfl rfl ?_
       obtain ⟨M64, e64, hH64, hF64, k64, n64, q64⟩ := mup hH63 hF63 (c := 173) (i := 9) (v := z37) (A := (-2147483648)) (B := 2147483647) (bs_28_5 _ _ (by omega) (by omega)) ⟨by omega, by omega⟩ (jin_of 4 rfl ⟨by omega, by omega⟩)
       refine jm_puti c1 hm rfl sh_173 rfl e64 ?_
       refine jx_load c1 hm rfl rfl rfl rfl ?_
       refine jx_dup c1 hm rfl rfl ?_
       have k65 : M64.1 173 5 = b10 := (n64 173 5 (by decide)).trans ((n63 173 5 (by decide)).trans k35)
       refine jx_geti c1 hm rfl sh_173 rfl k65 ?_
       refine jy_ic c1 hm rfl (by decide) ?_
       refine jy_add c1 hm (b10 + 1) rfl (by omega) ?_
       obtain ⟨M66, e66, hH66, hF66, k66, n66, q66⟩ := mup hH64 hF64 (c := 173) (i := 5) (v := (b10 + 1)) (A := 0) (B := 940) (bs_28_3 _ _ (by omega) (by omega)) ⟨by omega, by omega⟩ (jin_of 0 rfl ⟨by omega, by omega⟩)
       refine jm_puti c1 hm rfl sh_173 rfl e66 ?_
       exact jx_retv c2 hm rfl rfl ⟨rfl, hH66, hF66, (rx_sgn hsk (by omega) (by omega) (by omega) (by omega) (by rw [k11, ← hF7 174 (b10).toNat rfl, ← n25 174 (b10).toNat (fun h => absurd h.1 (by decide))]; exact k38) (by have y9 := hnw (by omega); rw [k11, ← hF7 174 (b10).toNat rfl, ← n25 174 (b10).toNat (fun h => absurd h.1 (by decide)), k38] at y9; omega) (by omega) (fun j => hF66 174 j rfl) (hF66 173 3 rfl) (hF66 173 4 rfl) (((n66 173 7 (by decide)).trans (n64 173 7 (by decide))).trans k63) (by omega) ((((n66 173 6 (by decide)).trans (n64 173 6 (by decide))).trans (n63 173 6 (by decide))).trans (k25.trans (by omega))) (by omega) ((n66 173 9 (by decide)).trans k64)), ((((hg.eq q25).eq q63).eq q64).eq q66)⟩
      refine jx_load c1 hm rfl rfl rfl rfl ?_
      refine jy_bp c1 hm rfl (by decide) ?_
      refine jc_eq c1 hm 174 rfl rfl (fun h67 => ?_) (fun h67 => ?_)
      ·
       refine jy_ic c1 hm rfl (by decide) ?_
       refine jx_goto c1 hm 179 rfl rfl ?_
       obtain ⟨M68, e68, hH68, hF68, k68, n68, q68⟩ := mup hH25 hF25 (c := 173) (i := 7) (v := 4) (A := 0) (B := 4) (bs_28_4 _ _ (by omega) (by omega)) ⟨by omega, by omega⟩ (jin_of 2 rfl ⟨by omega, by omega⟩)
       refine jm_puti c1 hm rfl sh_173 rfl e68 ?_
       refine jx_load c1 hm rfl rfl rfl rfl ?_
       refine jx_load c1 hm rfl rfl rfl rfl ?_
       obtain ⟨M69, e69, hH69, hF69, k69, n69, q69⟩ := mup hH68 hF68 (c := 173) (i := 9) (v := z37) (A := (-2147483648)) (B := 2147483647) (bs_28_5 _ _ (by omega) (by omega)) ⟨by omega, by omega⟩ (jin_of 4 rfl ⟨by omega, by omega⟩)
       refine jm_puti c1 hm rfl sh_173 rfl e69 ?_
       refine jx_load c1 hm rfl rfl rfl rfl ?_
       refine jx_dup c1 hm rfl rfl ?_
       have k70 : M69.1 173 5 = b10 := (n69 173 5 (by decide)).trans ((n68 173 5 (by decide)).trans k35)
       refine jx_geti c1 hm rfl sh_173 rfl k70 ?_
       refine jy_ic c1 hm rfl (by decide) ?_
       refine jy_add c1 hm (b10 + 1) rfl (by omega) ?_
       obtain ⟨M71, e71, hH71, hF71, k71, n71, q71⟩ := mup hH69 hF69 (c := 173) (i := 5) (v := (b10 + 1)) (A := 0) (B := 940) (bs_28_3 _ _ (by omega) (by omega)) ⟨by omega, by omega⟩ (jin_of 0 rfl ⟨by omega, by omega⟩)
       refine jm_puti c1 hm rfl sh_173 rfl e71 ?_
       exact jx_retv c2 hm rfl rfl ⟨rfl, hH71, hF71, (rx_sgn hsk (by omega) (by omega) (by omega) (by omega) (by rw [k11, ← hF7 174 (b10).toNat rfl, ← n25 174 (b10).toNat (fun h => absurd h.1 (by decide))]; exact k38) (by have y9 := hnw (by omega); rw [k11, ← hF7 174 (b10).toNat rfl, ← n25 174 (b10).toNat (fun h => absurd h.1 (by decide)), k38] at y9; omega) (by omega) (fun j => hF71 174 j rfl) (hF71 173 3 rfl) (hF71 173 4 rfl) (((n71 173 7 (by decide)).trans (n69 173 7 (by decide))).trans k68) (by omega) ((((n71 173 6 (by decide)).trans (n69 173 6 (by decide))).trans (n68 173 6 (by decide))).trans (k25.trans (by omega))) (by omega) ((n71 173 9 (by decide)).trans k69)), ((((hg.eq q25).eq q68).eq q69).eq q71)⟩
      refine jx_load c1 hm rfl rfl rfl rfl ?_
      refine jy_bp c1 hm rfl (by decide) ?_
      refine jc_ne c1 hm 178 rfl rfl (fun h72 => ?_) (fun h72 => ?_)
      ·
       refine jy_ic c1 hm rfl (by decide) ?_
       obtain ⟨M73, e73, hH73, hF73, k73, n73, q73⟩ := mup hH25 hF25 (c := 173) (i := 7) (v := 1) (A := 0) (B := 4) (bs_28_4 _ _ (by omega) (by omega)) ⟨by omega, by omega⟩ (jin_of 2 rfl ⟨by omega, by omega⟩)
       refine jm_puti c1 hm rfl sh_173 rfl e73 ?_
       refine jx_load c1 hm rfl rfl rfl rfl ?_
       refine jx_load c1 hm rfl rfl rfl rfl ?_
       obtain ⟨M74, e74, hH74, hF74, k74, n74, q74⟩ := mup hH73 hF73 (c := 173) (i := 9) (v := z37) (A := (-2147483648)) (B := 2147483647) (bs_28_5 _ _ (by omega) (by omega)) ⟨by omega, by omega⟩ (jin_of 4 rfl ⟨by omega, by omega⟩)
       refine jm_puti c1 hm rfl sh_173 rfl e74 ?_
       refine jx_load c1 hm rfl rfl rfl rfl ?_
       refine jx_dup c1 hm rfl rfl ?_
       have k75 : M74.1 173 5 = b10 := (n74 173 5 (by decide)).trans ((n73 173 5 (by decide)).trans k35)
       refine jx_geti c1 hm rfl sh_173 rfl k75 ?_
       refine jy_ic c1 hm rfl (by decide) ?_
       refine jy_add c1 hm (b10 + 1) rfl (by omega) ?_
       obtain ⟨M76, e76, hH76, hF76, k76, n76, q76⟩ := mup hH74 hF74 (c := 173) (i := 5) (v := (b10 + 1)) (A := 0) (B := 940) (bs_28_3 _ _ (by omega) (by omega)) ⟨by omega, by omega⟩ (jin_of 0 rfl ⟨by omega, by omega⟩)
       refine jm_puti c1 hm rfl sh_173 rfl e76 ?_
       exact jx_retv c2 hm rfl rfl ⟨rfl, hH76, hF76, (rx_sgn hsk (by omega) (by omega) (by omega) (by omega) (by rw [k11, ← hF7 174 (b10).toNat rfl, ← n25 174 (b10).toNat (fun h => absurd h.1 (by decide))]; exact k38) (by have y9 := hnw (by omega); rw [k11, ← hF7 174 (b10).toNat rfl, ← n25 174 (b10).toNat (fun h => absurd h.1 (by decide)), k38] at y9; omega) (by omega) (fun j => hF76 174 j rfl) (hF76 173 3 rfl) (hF76 173 4 rfl) (((n76 173 7 (by decide)).trans (n74 173 7 (by decide))).trans k73) (by omega) ((((n76 173 6 (by decide)).trans (n74 173 6 (by decide))).trans (n73 173 6 (by decide))).trans (k25.trans (by omega))) (by omega) ((n76 173 9 (by decide)).trans k74)), ((((hg.eq q25).eq q73).eq q74).eq q76)⟩
      refine jy_ic c1 hm rfl (by decide) ?_
      refine jx_goto c1 hm 179 rfl rfl ?_
      obtain ⟨M77, e77, hH77, hF77, k77, n77, q77⟩ := mup hH25 hF25 (c := 173) (i := 7) (v := 4) (A := 0) (B := 4) (bs_28_4 _ _ (by omega) (by omega)) ⟨by omega, by omega⟩ (jin_of 2 rfl ⟨by omega, by omega⟩)
      refine jm_puti c1 hm rfl sh_173 rfl e77 ?_
      refine jx_load c1 hm rfl rfl rfl rfl ?_
      refine jx_load c1 hm rfl rfl rfl rfl ?_
      obtain ⟨M78, e78, hH78, hF78, k78, n78, q78⟩ := mup hH77 hF77 (c := 173) (i := 9) (v := z37) (A := (-2147483648)) (B := 2147483647) (bs_28_5 _ _ (by omega) (by omega)) ⟨by omega, by omega⟩ (jin_of 4 rfl ⟨by omega, by omega⟩)
      refine jm_puti c1 hm rfl sh_173 rfl e78 ?_
      refine jx_load c1 hm rfl rfl rfl rfl ?_
      refine jx_dup c1 hm rfl rfl ?_
      have k79 : M78.1 173 5 = b10 := (n78 173 5 (by decide)).trans ((n77 173 5 (by decide)).trans k35)
      refine jx_geti c1 hm rfl sh_173 rfl k79 ?_
      refine jy_ic c1 hm rfl (by decide) ?_
      refine jy_add c1 hm (b10 + 1) rfl (by omega) ?_
      obtain ⟨M80, e80, hH80, hF80, k80, n80, q80⟩ := mup hH78 hF78 (c := 173) (i := 5) (v := (b10 + 1)) (A := 0) (B := 940) (bs_28_3 _ _ (by omega) (by omega)) ⟨by omega, by omega⟩ (jin_of 0 rfl ⟨by omega, by omega⟩)
      refine jm_puti c1 hm rfl sh_173 rfl e80 ?_
      exact jx_retv c2 hm rfl rfl ⟨rfl, hH80, hF80, (rx_sgn hsk (by omega) (by omega) (by omega) (by omega) (by rw [k11, ← hF7 174 (b10).toNat rfl, ← n25 174 (b10).toNat (fun h => absurd h.1 (by decide))]; exact k38) (by have y9 := hnw (by omega); rw [k11, ← hF7 174 (b10).toNat rfl, ← n25 174 (b10).toNat (fun h => absurd h.1 (by decide)), k38] at y9; omega) (by omega) (fun j => hF80 174 j rfl) (hF80 173 3 rfl) (hF80 173 4 rfl) (((n80 173 7 (by decide)).trans (n78 173 7 (by decide))).trans k77) (by omega) ((((n80 173 6 (by decide)).trans (n78 173 6 (by decide))).trans (n77 173 6 (by decide))).trans (k25.trans (by omega))) (by omega) ((n80 173 9 (by decide)).trans k78)), ((((hg.eq q25).eq q77).eq q78).eq q80)⟩
     refine jx_load c1 hm rfl rfl rfl rfl ?_
     refine jy_ic c1 hm rfl (by decide) ?_
     obtain ⟨M274, e274, hH274, hF274, k274, n274, q274⟩ := mup hH25 hF25 (c := 173) (i := 7) (v := 0) (A := 0) (B := 4) (bs_28_4 _ _ (by omega) (by omega)) ⟨by omega, by omega⟩ (jin_of 2 rfl ⟨by omega, by omega⟩)
     refine jm_puti c1 hm rfl sh_173 rfl e274 ?_
     have k275 : M274.1 173 5 = b10 := (n274 173 5 (by decide)).trans k35
     exact jx_retv c2 hm rfl rfl ⟨rfl, hH274, hF274, (rx_end hsk (by omega) (by omega) (by omega) (fun j => hF274 174 j rfl) (hF274 173 3 rfl) (hF274 173 4 rfl) k274 ((n274 173 6 (by decide)).trans (k25.trans (by omega)))), ((hg.eq q25).eq q274)⟩
    refine jc_le c1 hm 96 rfl rfl (fun h28 => ?_) (fun h28 => ?_)
    ·
     exact J34 (by omega)
    refine jx_load c1 hm rfl rfl rfl rfl ?_
    refine jx_geti c1 hm rfl sh_173 rfl k25 ?_
    refine jx_load c1 hm rfl rfl rfl rfl ?_
    refine jx_geti c1 hm rfl sh_173 rfl k27 ?_
    refine jc_lt c1 hm 96 rfl rfl (fun h29 => ?_) (fun h29 => ?_)
    ·
     exact J34 (by omega)
    refine jx_load c1 hm rfl rfl rfl rfl ?_
    refine jx_load c1 hm rfl rfl rfl rfl ?_
    refine jx_geti c1 hm rfl sh_173 rfl k27 ?_
    obtain ⟨M30, e30, hH30, hF30, k30, n30, q30⟩ := mup hH25 hF25 (c := 173) (i := 6) (v := z5) (A := 0) (B := 940) (bs_28_3 _ _ (by omega) (by omega)) ⟨by omega, by omega⟩ (jin_of 1 rfl ⟨by omega, by omega⟩)
    refine jm_puti c1 hm rfl sh_173 rfl e30 ?_
    refine jx_load c1 hm rfl rfl rfl rfl ?_
    refine jy_ic c1 hm rfl (by decide) ?_
    obtain ⟨M31, e31, hH31, hF31, k31, n31, q31⟩ := mup hH30 hF30 (c := 173) (i := 7) (v := 1) (A := 0) (B := 4) (bs_28_4 _ _ (by omega) (by omega)) ⟨by omega, by omega⟩ (jin_of 2 rfl ⟨by omega, by omega⟩)
    refine jm_puti c1 hm rfl sh_173 rfl e31 ?_
    have k32 : M31.1 173 5 = b10 := (n31 173 5 (by decide)).trans ((n30 173 5 (by decide)).trans ((n25 173 5 (by decide)).trans k11))
    exact jx_retv c2 hm rfl rfl ⟨rfl, hH31, hF31, (rx_out hsk (by omega) (by omega) (by omega) (fun j => hF31 174 j rfl) (hF31 173 3 rfl) (hF31 173 4 rfl) k31 ((n31 173 6 (by decide)).trans (k30.trans (by omega)))), (((hg.eq q25).eq q30).eq q31)⟩
   refine jc_ge c1 hm 52 rfl rfl (fun h16 => ?_) (fun h16 => ?_)
   ·
    exact J24 (fun y => absurd y (by omega))
   refine jx_load c1 hm rfl rfl rfl rfl ?_
   refine jx_getr c1 hm rfl sh_173 rfl ?_
   refine jx_load c1 hm rfl rfl rfl rfl ?_
   refine jx_geti c1 hm rfl sh_173 rfl k11 ?_
   obtain ⟨z17, k18, lz17, uz17⟩ := hH7.ld (c := 174) (i := (b10).toNat) (A := 0) (B := 255) rfl
   refine jx_iald c1 hm rfl sh_174 ⟨by omega, by omega⟩ k18 ?_
   refine jy_bp c1 hm rfl (by decide) ?_
   refine jc_eq c1 hm 39 rfl rfl (fun h19 => ?_) (fun h19 => ?_)
   ·
    refine jx_load c1 hm rfl rfl rfl rfl ?_
    refine jx_dup c1 hm rfl rfl ?_
    refine jx_geti c1 hm rfl sh_173 rfl k11 ?_
    refine jy_ic c1 hm rfl (by decide) ?_
    refine jy_add c1 hm (b10 + 1) rfl (by omega) ?_
    obtain ⟨M20, e20, hH20, hF20, k20, n20, q20⟩ := mup hH7 hF7 (c := 173) (i := 5) (v := (b10 + 1)) (A := 0) (B := 940) (bs_28_3 _ _ (by omega) (by omega)) ⟨by omega, by omega⟩ (jin_of 0 rfl ⟨by omega, by omega⟩)
    refine jm_puti c1 hm rfl sh_173 rfl e20 ?_
    refine jx_goto c1 hm 0 rfl rfl ?_
    have k276 : M20.1 173 3 = z3 := (n20 173 3 (by decide)).trans k8
    have k277 : M20.1 173 4 = z5 := (n20 173 4 (by decide)).trans k9
    exact ihW14 M20 hH20 hF20 k276 k277 (b10 + 1) (by omega) k20 (SKR.cg (SKR.st (b := z17) hsk (by omega) (by omega) (by omega) (by rw [k11, ← hF7 174 (b10).toNat rfl]; exact k18) (by omega)) (by omega)) (hg.eq q20) (by omega)
   refine jx_load c1 hm rfl rfl rfl rfl ?_
   refine jx_getr c1 hm rfl sh_173 rfl ?_
   refine jx_load c1 hm rfl rfl rfl rfl ?_
   refine jx_geti c1 hm rfl sh_173 rfl k11 ?_
   refine jx_iald c1 hm rfl sh_174 ⟨by omega, by omega⟩ k18 ?_
   refine jy_bp c1 hm rfl (by decide) ?_
   refine jc_ne c1 hm 52 rfl rfl (fun h21 => ?_) (fun h21 => ?_)
   ·
    exact J24 (fun _ => by rw [k11, ← hF7 174 (b10).toNat rfl, k18]; omega)
   refine jx_load c1 hm rfl rfl rfl rfl ?_
   refine jx_dup c1 hm rfl rfl ?_
   refine jx_geti c1 hm rfl sh_173 rfl k11 ?_
   refine jy_ic c1 hm rfl (by decide) ?_
   refine jy_add c1 hm (b10 + 1) rfl (by omega) ?_
   obtain ⟨M22, e22, hH22, hF22, k22, n22, q22⟩ := mup hH7 hF7 (c := 173) (i := 5) (v := (b10 + 1)) (A := 0) (B := 940) (bs_28_3 _ _ (by omega) (by omega)) ⟨by omega, by omega⟩ (jin_of 0 rfl ⟨by omega, by omega⟩)
   refine jm_puti c1 hm rfl sh_173 rfl e22 ?_
   refine jx_goto c1 hm 0 rfl rfl ?_
   have k278 : M22.1 173 3 = z3 := (n22 173 3 (by decide)).trans k8
   have k279 : M22.1 173 4 = z5 := (n22 173 4 (by decide)).trans k9
   exact ihW14 M22 hH22 hF22 k278 k279 (b10 + 1) (by omega) k22 (SKR.cg (SKR.st (b := z17) hsk (by omega) (by omega) (by omega) (by rw [k11, ← hF7 174 (b10).toNat rfl]; exact k18) (by omega)) (by omega)) (hg.eq q22) (by omega)
 exact W14 ((-z1 + 940) + 1 : Int).toNat M0 hH0 hF0 k4 k6 z1 (by omega) k2 SKR.start (LFr.rf _ _) (by omega)
