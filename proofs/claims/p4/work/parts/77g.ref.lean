/-! Contracts of the reference, exact (by wip/q/wlk.py). -/
def ml_X12_go_173p : List (Nat × (Nat × Nat)) := [(173, (12, 12))]
def md_X12_go_173p : List (Nat × (Nat × Nat)) := [(173, (5, 5)), (173, (6, 6)), (173, (7, 7)), (173, (8, 8)), (173, (9, 9))]
set_option maxHeartbeats 30000000 in
theorem ct_X12_go_173p (X : Int) (hX : 0 ≤ X ∧ X ≤ 100000000) (M0 : JM) (hH0 : HI X M0)  : JOk shp PJ 2 107 [.inr (.inr (.inl 173))] M0 (jRv (fun M' => HI X M' ∧ Fr md_X12_go_173p M0 M' ∧ (RTk M' (txR M0) (M0.1 173 5)) ∧ (LFr ml_X12_go_173p M0 M'))) := by
 refine ⟨jr_X12_go, pj_X12_go, fun F c1 c2 c3 => ?_⟩
 have hm := pj_X12_go
 change F 0 [some (.inr (.inr (.inl 173))), none, none, none, none] [] M0
 have hF0 : Fr md_X12_go_173p M0 M0 := Fr.rf _ _
 obtain ⟨z1, k2, lz1, uz1⟩ := hH0.ld (c := 173) (i := 5) (A := 0) (B := 940) (bs_28_3 _ _ (by omega) (by omega))
 obtain ⟨z3, k4, lz3, uz3⟩ := hH0.ld (c := 173) (i := 3) (A := 0) (B := 940) (bs_28_1 _ _ (by omega) (by omega))
 obtain ⟨z5, k6, lz5, uz5⟩ := hH0.ld (c := 173) (i := 4) (A := 0) (B := 900) (bs_28_2 _ _ (by omega) (by omega))
 have W14 : ∀ (n15 : Nat) (M7 : JM) (hH7 : HI (X) M7) (hF7 : Fr md_X12_go_173p M0 M7) (k8 : M7.1 173 3 = z3) (k9 : M7.1 173 4 = z5) (b10 : Int) (hb10 : 0 ≤ b10 ∧ b10 ≤ 940) (k11 : M7.1 173 5 = b10) (hsk : SKR M0 (M7.1 173 5)) (hg : LFr ml_X12_go_173p M0 M7), (-b10 + 940) < (n15 : Int) → F 0 [some (.inr (.inr (.inl 173))), none, none, none, none] [] M7 := by
  intro n15
  induction n15 with
  | zero => intros; omega
  | succ n15 ihW14 =>
   intro M7 hH7 hF7 k8 k9 b10 hb10 k11 hsk hg hrW14
   refine jx_load c1 hm rfl rfl rfl rfl ?_
   refine jx_geti c1 hm rfl sh_173 rfl k11 ?_
   skip
   refine jx_load c1 hm rfl rfl rfl rfl ?_
   refine jx_geti c1 hm rfl sh_173 rfl k8 ?_
   have J24 : ∀ (hnw : M7.1 173 5 < M7.1 173 3 → M0.1 174 (M7.1 173 5).toNat ≠ 32 ∧ M0.1 174 (M7.1 173 5).toNat ≠ 10), F 52 [some (.inr (.inr (.inl 173))), none, none, none, none] [] M7 := by
    intro hnw
    refine jx_load c1 hm rfl rfl rfl rfl ?_
    refine jx_load c1 hm rfl rfl rfl rfl ?_
    refine jx_geti c1 hm rfl sh_173 rfl k11 ?_
    obtain ⟨M25, e25, hH25, hF25, k25, n25, q25⟩ := mup hH7 hF7 (c := 173) (i := 6) (v := b10) (A := 0) (B := 940) (bs_28_3 _ _ (by omega) (by omega)) ⟨by omega, by omega⟩ (jin_of 1 rfl ⟨by omega, by omega⟩)
    refine jm_puti c1 hm rfl sh_173 rfl e25 ?_
    refine jx_load c1 hm rfl rfl rfl rfl ?_
    have k26 : M25.1 173 3 = z3 := (n25 173 3 (by decide)).trans k8
    refine jx_geti c1 hm rfl sh_173 rfl k26 ?_
    refine jx_load c1 hm rfl rfl rfl rfl ?_
    have k27 : M25.1 173 4 = z5 := (n25 173 4 (by decide)).trans k9
    refine jx_geti c1 hm rfl sh_173 rfl k27 ?_
    have J34 : ∀ (hlm : ¬ (M25.1 173 4 < M25.1 173 3 ∧ M25.1 173 4 ≤ M25.1 173 6)), F 96 [some (.inr (.inr (.inl 173))), none, none, none, none] [] M25 := by
     intro hlm
     refine jx_load c1 hm rfl rfl rfl rfl ?_
     have k35 : M25.1 173 5 = b10 := (n25 173 5 (by decide)).trans k11
     refine jx_geti c1 hm rfl sh_173 rfl k35 ?_
     refine jx_load c1 hm rfl rfl rfl rfl ?_
     refine jx_geti c1 hm rfl sh_173 rfl k26 ?_
     refine jc_lt c1 hm 113 rfl rfl (fun h36 => ?_) (fun h36 => ?_)
     ·
      refine jx_load c1 hm rfl rfl rfl rfl ?_
      refine jx_getr c1 hm rfl sh_173 rfl ?_
      refine jx_load c1 hm rfl rfl rfl rfl ?_
      refine jx_geti c1 hm rfl sh_173 rfl k35 ?_
      obtain ⟨z37, k38, lz37, uz37⟩ := hH25.ld (c := 174) (i := (b10).toNat) (A := 0) (B := 255) rfl
      refine jx_iald c1 hm rfl sh_174 ⟨by omega, by omega⟩ k38 ?_
      refine jx_stor c1 hm (L' := [some (.inr (.inr (.inl 173))), some (.inl z37), none, none, none]) rfl rfl rfl rfl rfl ?_
      refine jx_load c1 hm rfl rfl rfl rfl ?_
      refine jt_i c3 hm rfl rfl pj_X12_isLetter rfl rfl rfl ((ct_X12_isLetter X (by omega) M25 hH25 z37 ⟨by omega, by omega⟩).le (by decide)) (fun z39 _ ⟨rfl, lz39, uz39, p40, p41⟩ => ?_)
      have J83 : ∀ (h81 : 48 ≤ z37 ∧ z37 ≤ 122) (h82 : (97 ≤ z37 ∧ z37 ≤ 122) ∨ (48 ≤ z37 ∧ z37 ≤ 57)), F 198 [some (.inr (.inr (.inl 173))), some (.inl z37), none, none, none] [] M25 := by
       intro h81 h82
       refine jx_load c1 hm rfl rfl rfl rfl ?_
       refine jt_i c3 hm rfl rfl pj_X12_isLetter rfl rfl rfl ((ct_X12_isLetter X (by omega) M25 hH25 z37 ⟨by omega, by omega⟩).le (by decide)) (fun z84 _ ⟨rfl, lz84, uz84, p85, p86⟩ => ?_)
       refine jx_stor c1 hm (L' := [some (.inr (.inr (.inl 173))), some (.inl z37), some (.inl z84), none, none]) rfl rfl rfl rfl rfl ?_
       refine jy_ic c1 hm rfl (by decide) ?_
       refine jx_stor c1 hm (L' := [some (.inr (.inr (.inl 173))), some (.inl z37), some (.inl z84), some (.inl 1), none]) rfl rfl rfl rfl rfl ?_
       refine jx_load c1 hm rfl rfl rfl rfl ?_
       refine jx_lcon c1 hm (v := 0) rfl (by decide) ?_
       obtain ⟨M87, e87, hH87, hF87, n87, k87, g87⟩ := mul hH25 hF25 (c := 173) (i := 12) (v := 0) (fun _ => lb0)
       refine jm_putl c1 hm rfl sh_173 rfl e87 ?_
       refine jx_load c1 hm rfl rfl rfl rfl ?_
       refine jy_ic c1 hm rfl (by decide) ?_
       obtain ⟨M88, e88, hH88, hF88, k88, n88, q88⟩ := mup hH87 hF87 (c := 173) (i := 8) (v := 0) (A := (-2147483648)) (B := 2147483647) (bs_28_5 _ _ (by omega) (by omega)) ⟨by omega, by omega⟩ (jin_of 3 rfl ⟨by omega, by omega⟩)
       refine jm_puti c1 hm rfl sh_173 rfl e88 ?_
       have W106 : ∀ (n107 : Nat) (b89 : Int) (hb89 : 0 ≤ b89 ∧ b89 ≤ 1) (o90 : Option JV) (ho90 : o90 = none ∨ (∃ z, o90 = some (.inl z)) ∨ ∃ r, o90 = some (.inr (.inr r))) (M91 : JM) (hH91 : HI (X) M91) (hF91 : Fr md_X12_go_173p M0 M91) (k93 : M91.1 173 3 = z3) (k95 : M91.1 173 4 = z5) (b97 : Int) (hb97 : 0 ≤ b97 ∧ b97 ≤ 940) (k98 : M91.1 173 5 = b97) (k100 : M91.1 173 6 = b10) (b101 : Int) (hb101 : (-2147483648) ≤ b101 ∧ b101 ≤ 2147483647) (k102 : M91.1 173 8 = b101) (h103 : M91.1 173 6 ≤ M91.1 173 5) (hgi : GI M0 M91 z84 b89) (hg : LFr ml_X12_go_173p M0 M91), (-b97 + 940) < (n107 : Int) → F 215 [some (.inr (.inr (.inl 173))), some (.inl z37), some (.inl z84), some (.inl b89), o90] [] M91 := by
        intro n107
        induction n107 with
        | zero => intros; omega
        | succ n107 ihW106 =>
         intro b89 hb89 o90 ho90 M91 hH91 hF91 k93 k95 b97 hb97 k98 k100 b101 hb101 k102 h103 hgi hg hrW106
         refine jx_load c1 hm rfl rfl rfl rfl ?_
         refine jx_load c1 hm rfl rfl rfl rfl ?_
         refine jx_geti c1 hm rfl sh_173 rfl k98 ?_
         skip
         refine jv_i c3 hm rfl pj_X12_tapeAt rfl rfl ⟨_, _, _, rfl, sh_173⟩ rfl ((ct_X12_tapeAt_173 X (by omega) M91 hH91 b97 ⟨by omega, by omega⟩).le (by decide)) (fun z108 _ ⟨rfl, lz108, uz108, p109, p110⟩ => ?_)
         refine jt_i c3 hm rfl rfl pj_X12_isLetter rfl rfl rfl ((ct_X12_isLetter X (by omega) M91 hH91 z108 ⟨by omega, by omega⟩).le (by decide)) (fun z111 _ ⟨rfl, lz111, uz111, p112, p113⟩ => ?_)
         have J140 : ∀ (h138 : M91.1 173 5 < M91.1 173 3) (hch : (97 ≤ M91.1 174 (M91.1 173 5).toNat ∧ M91.1 174 (M91.1 173 5).toNat ≤ 122) ∨ (48 ≤ M91.1 174 (M91.1 173 5).toNat ∧ M91.1 174 (M91.1 173 5).toNat ≤ 57)), F 243 [some (.inr (.inr (.inl 173))), some (.inl z37), some (.inl z84), some (.inl b89), o90] [] M91 := by
          intro h138 hch
          refine jx_load c1 hm rfl rfl rfl rfl ?_
          refine jx_getr c1 hm rfl sh_173 rfl ?_
          refine jx_load c1 hm rfl rfl rfl rfl ?_
          refine jx_geti c1 hm rfl sh_173 rfl k98 ?_
          obtain ⟨z141, k142, lz141, uz141⟩ := hH91.ld (c := 174) (i := (b97).toNat) (A := 0) (B := 255) rfl
          refine jx_iald c1 hm rfl sh_174 ⟨by omega, by omega⟩ k142 ?_
          refine jx_stor c1 hm (L' := [some (.inr (.inr (.inl 173))), some (.inl z37), some (.inl z84), some (.inl b89), some (.inl z141)]) rfl rfl rfl rfl rfl ?_
          refine jx_load c1 hm rfl rfl rfl rfl ?_
          refine jz_eq c1 hm 271 rfl rfl (fun h143 => ?_) (fun h143 => ?_)
          ·
           refine jy_ic c1 hm rfl (by decide) ?_
           refine jx_stor c1 hm (L' := [some (.inr (.inr (.inl 173))), some (.inl z37), some (.inl z84), some (.inl 0), some (.inl z141)]) rfl rfl rfl rfl rfl ?_
           refine jx_load c1 hm rfl rfl rfl rfl ?_
           refine jx_geti c1 hm rfl sh_173 rfl k98 ?_
           refine jx_load c1 hm rfl rfl rfl rfl ?_
           refine jx_geti c1 hm rfl sh_173 rfl k100 ?_
           refine jy_sub c1 hm (-b10 + b97) rfl (by omega) ?_
           refine jy_bp c1 hm rfl (by decide) ?_
           refine jc_ge c1 hm 307 rfl rfl (fun h144 => ?_) (fun h144 => ?_)
           ·
            refine jx_load c1 hm rfl rfl rfl rfl ?_
            refine jx_geti c1 hm rfl sh_173 rfl k98 ?_
            refine jx_load c1 hm rfl rfl rfl rfl ?_
            refine jx_geti c1 hm rfl sh_173 rfl k100 ?_
            refine jy_sub c1 hm (-b10 + b97) rfl (by omega) ?_
            refine jy_ic c1 hm rfl (by decide) ?_
            refine jc_ge c1 hm 337 rfl rfl (fun h145 => ?_) (fun h145 => ?_)
            ·
             refine jx_load c1 hm rfl rfl rfl rfl ?_
             refine jx_dup c1 hm rfl rfl ?_
             refine jx_geti c1 hm rfl sh_173 rfl k98 ?_
             refine jy_ic c1 hm rfl (by decide) ?_
             refine jy_add c1 hm (b97 + 1) rfl (by omega) ?_
             obtain ⟨M146, e146, hH146, hF146, k146, n146, q146⟩ := mup hH91 hF91 (c := 173) (i := 5) (v := (b97 + 1)) (A := 0) (B := 940) (bs_28_3 _ _ (by omega) (by omega)) ⟨by omega, by omega⟩ (jin_of 0 rfl ⟨by omega, by omega⟩)
             refine jm_puti c1 hm rfl sh_173 rfl e146 ?_
             refine jx_goto c1 hm 215 rfl rfl ?_
             have k226 : M146.1 173 3 = z3 := (n146 173 3 (by decide)).trans k93
             have k227 : M146.1 173 4 = z5 := (n146 173 4 (by decide)).trans k95
             have k228 : M146.1 173 6 = b10 := (n146 173 6 (by decide)).trans k100
             have k229 : M146.1 173 8 = b101 := (n146 173 8 (by decide)).trans k102
             exact ihW106 0 (by omega) (some (.inl z141)) (Or.inr (Or.inl ⟨_, rfl⟩)) M146 hH146 hF146 k226 k227 (b97 + 1) (by omega) k146 k228 b101 (by omega) k229 (by omega) (GI.st (c := z141) hgi (by omega) (by omega) (by omega) (by rw [k98, ← hF91 174 (b97).toNat rfl]; exact k142) (by omega) (n146 173 6 (by decide)) (by omega) (by omega) (fun y => absurd y (by omega)) (fun y => absurd y (by omega))) (hg.eq q146) (by omega)
            refine jx_load c1 hm rfl rfl rfl rfl ?_
            refine jy_bp c1 hm rfl (by decide) ?_
            refine jx_load c1 hm rfl rfl rfl rfl ?_
            refine jx_geti c1 hm rfl sh_173 rfl k102 ?_
            refine jx_iope c1 hm rfl rfl (fun z147 lz147 uz147 ez147 => ?_)
            refine jx_load c1 hm rfl rfl rfl rfl ?_
            refine jx_iope c1 hm rfl rfl (fun z148 lz148 uz148 ez148 => ?_)
            refine jy_bp c1 hm rfl (by decide) ?_
            refine jx_iope c1 hm rfl rfl (fun z149 lz149 uz149 ez149 => ?_)
            obtain ⟨M150, e150, hH150, hF150, k150, n150, q150⟩ := mup hH91 hF91 (c := 173) (i := 8) (v := z149) (A := (-2147483648)) (B := 2147483647) (bs_28_5 _ _ (by omega) (by omega)) ⟨by omega, by omega⟩ (jin_of 3 rfl ⟨by omega, by omega⟩)
            refine jm_puti c1 hm rfl sh_173 rfl e150 ?_
            refine jx_load c1 hm rfl rfl rfl rfl ?_
            refine jx_dup c1 hm rfl rfl ?_
            have k151 : M150.1 173 5 = b97 := (n150 173 5 (by decide)).trans k98
            refine jx_geti c1 hm rfl sh_173 rfl k151 ?_
            refine jy_ic c1 hm rfl (by decide) ?_
            refine jy_add c1 hm (b97 + 1) rfl (by omega) ?_
            obtain ⟨M152, e152, hH152, hF152, k152, n152, q152⟩ := mup hH150 hF150 (c := 173) (i := 5) (v := (b97 + 1)) (A := 0) (B := 940) (bs_28_3 _ _ (by omega) (by omega)) ⟨by omega, by omega⟩ (jin_of 0 rfl ⟨by omega, by omega⟩)
            refine jm_puti c1 hm rfl sh_173 rfl e152 ?_
            refine jx_goto c1 hm 215 rfl rfl ?_
            have k230 : M152.1 173 3 = z3 := (n152 173 3 (by decide)).trans ((n150 173 3 (by decide)).trans k93)
            have k231 : M152.1 173 4 = z5 := (n152 173 4 (by decide)).trans ((n150 173 4 (by decide)).trans k95)
            have k232 : M152.1 173 6 = b10 := (n152 173 6 (by decide)).trans ((n150 173 6 (by decide)).trans k100)
            have k233 : M152.1 173 8 = z149 := (n152 173 8 (by decide)).trans k150
            exact ihW106 0 (by omega) (some (.inl z141)) (Or.inr (Or.inl ⟨_, rfl⟩)) M152 hH152 hF152 k230 k231 (b97 + 1) (by omega) k152 k232 z149 (by omega) k233 (by omega) (GI.st (c := z141) hgi (by omega) (by omega) (by omega) (by rw [k98, ← hF91 174 (b97).toNat rfl]; exact k142) (by omega) ((n152 173 6 (by decide)).trans (n150 173 6 (by decide))) (by omega) (by omega) (fun y => absurd y (by omega)) (fun _ z9 y1 y2 y3 => by rw [(n152 173 8 (by decide)), k150]; exact iv_dg ez147 ez148 ez149 (by omega) y2 y3 (by omega))) ((hg.eq q150).eq q152) (by omega)
           refine jx_load c1 hm rfl rfl rfl rfl ?_
           refine jx_ldc2 c1 hm (v := 27) rfl (by decide) ?_
           refine jx_load c1 hm rfl rfl rfl rfl ?_
           obtain ⟨w153, kw153⟩ : ∃ w, M91.2 173 12 = w := ⟨_, rfl⟩
           have bw153 : LB w153.toInt := kw153 ▸ hH91.2.1 173 12 rfl
           have tw153 : (M91.2 173 12).toInt = w153.toInt := by rw [kw153]
           refine jx_getl c1 hm rfl sh_173 rfl kw153 ?_
           have hwb := GI.wb hgi (by omega) (by omega)
           refine jx_lop c1 hm rfl rfl (fun w154 ew154 => ?_)
           have tw154 : w154.toInt = 27 * w153.toInt := jl_mul ew154 (by decide) rfl (by omega)
           clear ew154
           refine jx_load c1 hm rfl rfl rfl rfl ?_
           refine jx_i2l c1 hm rfl (fun w155 ew155 => ?_)
           have tw155 : w155.toInt = z141 := jl_i2l ew155 (by omega)
           clear ew155
           refine jx_lop c1 hm rfl rfl (fun w156 ew156 => ?_)
           have tw156 : w156.toInt = w154.toInt + w155.toInt := jl_add ew156 rfl rfl (by omega)
           clear ew156
           refine jx_ldc2 c1 hm (v := 96) rfl (by decide) ?_
           refine jx_lop c1 hm rfl rfl (fun w157 ew157 => ?_)
           have tw157 : w157.toInt = w156.toInt - 96 := jl_sub ew157 rfl (by decide) (by omega)
           clear ew157
           have bw157 : LB w157.toInt := by unfold LB; omega
           obtain ⟨M158, e158, hH158, hF158, n158, k158, g158⟩ := mul hH91 hF91 (c := 173) (i := 12) (v := w157) (fun _ => bw157)
           refine jm_putl c1 hm rfl sh_173 rfl e158 ?_
           refine jx_load c1 hm rfl rfl rfl rfl ?_
           have k159 : M158.1 173 5 = b97 := (n158 173 5).trans k98
           refine jx_geti c1 hm rfl sh_173 rfl k159 ?_
           refine jx_load c1 hm rfl rfl rfl rfl ?_
           have k160 : M158.1 173 6 = b10 := (n158 173 6).trans k100
           refine jx_geti c1 hm rfl sh_173 rfl k160 ?_
           refine jy_sub c1 hm (-b10 + b97) rfl (by omega) ?_
           refine jy_ic c1 hm rfl (by decide) ?_
           refine jc_ge c1 hm 337 rfl rfl (fun h161 => ?_) (fun h161 => ?_)
           ·
            refine jx_load c1 hm rfl rfl rfl rfl ?_
            refine jx_dup c1 hm rfl rfl ?_
            refine jx_geti c1 hm rfl sh_173 rfl k159 ?_
            refine jy_ic c1 hm rfl (by decide) ?_
            refine jy_add c1 hm (b97 + 1) rfl (by omega) ?_
            obtain ⟨M162, e162, hH162, hF162, k162, n162, q162⟩ := mup hH158 hF158 (c := 173) (i := 5) (v := (b97 + 1)) (A := 0) (B := 940) (bs_28_3 _ _ (by omega) (by omega)) ⟨by omega, by omega⟩ (jin_of 0 rfl ⟨by omega, by omega⟩)
            refine jm_puti c1 hm rfl sh_173 rfl e162 ?_
            refine jx_goto c1 hm 215 rfl rfl ?_
            have k234 : M162.1 173 3 = z3 := (n162 173 3 (by decide)).trans ((n158 173 3).trans k93)
            have k235 : M162.1 173 4 = z5 := (n162 173 4 (by decide)).trans ((n158 173 4).trans k95)
            have k236 : M162.1 173 6 = b10 := (n162 173 6 (by decide)).trans k160
            have k237 : M162.1 173 8 = b101 := (n162 173 8 (by decide)).trans ((n158 173 8).trans k102)
            exact ihW106 0 (by omega) (some (.inl z141)) (Or.inr (Or.inl ⟨_, rfl⟩)) M162 hH162 hF162 k234 k235 (b97 + 1) (by omega) k162 k236 b101 (by omega) k237 (by omega) (GI.st (c := z141) hgi (by omega) (by omega) (by omega) (by rw [k98, ← hF91 174 (b97).toNat rfl]; exact k142) (by omega) ((n162 173 6 (by decide)).trans (n158 173 6)) (by omega) (by omega) (fun _ => by rw [(q162 173 12), k158]; omega) (fun y => absurd y (by omega))) ((hg.st g158 rfl).eq q162) (by omega)
           refine jx_load c1 hm rfl rfl rfl rfl ?_
           refine jy_bp c1 hm rfl (by decide) ?_
           refine jx_load c1 hm rfl rfl rfl rfl ?_
           have k163 : M158.1 173 8 = b101 := (n158 173 8).trans k102
           refine jx_geti c1 hm rfl sh_173 rfl k163 ?_
           refine jx_iope c1 hm rfl rfl (fun z164 lz164 uz164 ez164 => ?_)
           refine jx_load c1 hm rfl rfl rfl rfl ?_
           refine jx_iope c1 hm rfl rfl (fun z165 lz165 uz165 ez165 => ?_)
           refine jy_bp c1 hm rfl (by decide) ?_
           refine jx_iope c1 hm rfl rfl (fun z166 lz166 uz166 ez166 => ?_)
           obtain ⟨M167, e167, hH167, hF167, k167, n167, q167⟩ := mup hH158 hF158 (c := 173) (i := 8) (v := z166) (A := (-2147483648)) (B := 2147483647) (bs_28_5 _ _ (by omega) (by omega)) ⟨by omega, by omega⟩ (jin_of 3 rfl ⟨by omega, by omega⟩)
           refine jm_puti c1 hm rfl sh_173 rfl e167 ?_
           refine jx_load c1 hm rfl rfl rfl rfl ?_
           refine jx_dup c1 hm rfl rfl ?_
           have k168 : M167.1 173 5 = b97 := (n167 173 5 (by decide)).trans k159
           refine jx_geti c1 hm rfl sh_173 rfl k168 ?_
           refine jy_ic c1 hm rfl (by decide) ?_
           refine jy_add c1 hm (b97 + 1) rfl (by omega) ?_
           obtain ⟨M169, e169, hH169, hF169, k169, n169, q169⟩ := mup hH167 hF167 (c := 173) (i := 5) (v := (b97 + 1)) (A := 0) (B := 940) (bs_28_3 _ _ (by omega) (by omega)) ⟨by omega, by omega⟩ (jin_of 0 rfl ⟨by omega, by omega⟩)
           refine jm_puti c1 hm rfl sh_173 rfl e169 ?_
           refine jx_goto c1 hm 215 rfl rfl ?_
           have k238 : M169.1 173 3 = z3 := (n169 173 3 (by decide)).trans ((n167 173 3 (by decide)).trans ((n158 173 3).trans k93))
           have k239 : M169.1 173 4 = z5 := (n169 173 4 (by decide)).trans ((n167 173 4 (by decide)).trans ((n158 173 4).trans k95))
           have k240 : M169.1 173 6 = b10 := (n169 173 6 (by decide)).trans ((n167 173 6 (by decide)).trans k160)
           have k241 : M169.1 173 8 = z166 := (n169 173 8 (by decide)).trans k167
           exact ihW106 0 (by omega) (some (.inl z141)) (Or.inr (Or.inl ⟨_, rfl⟩)) M169 hH169 hF169 k238 k239 (b97 + 1) (by omega) k169 k240 z166 (by omega) k241 (by omega) (GI.st (c := z141) hgi (by omega) (by omega) (by omega) (by rw [k98, ← hF91 174 (b97).toNat rfl]; exact k142) (by omega) (((n169 173 6 (by decide)).trans (n167 173 6 (by decide))).trans (n158 173 6)) (by omega) (by omega) (fun _ => by rw [((q169 173 12).trans (q167 173 12)), k158]; omega) (fun _ z9 y1 y2 y3 => by rw [(n169 173 8 (by decide)), k167]; exact iv_dg ez164 ez165 ez166 (by omega) y2 y3 (by omega))) (((hg.st g158 rfl).eq q167).eq q169) (by omega)
          refine jx_load c1 hm rfl rfl rfl rfl ?_
          refine jt_i c3 hm rfl rfl pj_X12_isLetter rfl rfl rfl ((ct_X12_isLetter X (by omega) M91 hH91 z141 ⟨by omega, by omega⟩).le (by decide)) (fun z170 _ ⟨rfl, lz170, uz170, p171, p172⟩ => ?_)
          refine jx_load c1 hm rfl rfl rfl rfl ?_
          refine jc_ne c1 hm 271 rfl rfl (fun h173 => ?_) (fun h173 => ?_)
          ·
           refine jy_ic c1 hm rfl (by decide) ?_
           refine jx_stor c1 hm (L' := [some (.inr (.inr (.inl 173))), some (.inl z37), some (.inl z84), some (.inl 0), some (.inl z141)]) rfl rfl rfl rfl rfl ?_
           refine jx_load c1 hm rfl rfl rfl rfl ?_
           refine jx_geti c1 hm rfl sh_173 rfl k98 ?_
           refine jx_load c1 hm rfl rfl rfl rfl ?_
           refine jx_geti c1 hm rfl sh_173 rfl k100 ?_
           refine jy_sub c1 hm (-b10 + b97) rfl (by omega) ?_
           refine jy_bp c1 hm rfl (by decide) ?_
           refine jc_ge c1 hm 307 rfl rfl (fun h174 => ?_) (fun h174 => ?_)
           ·
            refine jx_load c1 hm rfl rfl rfl rfl ?_
            refine jx_geti c1 hm rfl sh_173 rfl k98 ?_
            refine jx_load c1 hm rfl rfl rfl rfl ?_
            refine jx_geti c1 hm rfl sh_173 rfl k100 ?_
            refine jy_sub c1 hm (-b10 + b97) rfl (by omega) ?_
            refine jy_ic c1 hm rfl (by decide) ?_
            refine jc_ge c1 hm 337 rfl rfl (fun h175 => ?_) (fun h175 => ?_)
            ·
             refine jx_load c1 hm rfl rfl rfl rfl ?_
             refine jx_dup c1 hm rfl rfl ?_
             refine jx_geti c1 hm rfl sh_173 rfl k98 ?_
             refine jy_ic c1 hm rfl (by decide) ?_
             refine jy_add c1 hm (b97 + 1) rfl (by omega) ?_
             obtain ⟨M176, e176, hH176, hF176, k176, n176, q176⟩ := mup hH91 hF91 (c := 173) (i := 5) (v := (b97 + 1)) (A := 0) (B := 940) (bs_28_3 _ _ (by omega) (by omega)) ⟨by omega, by omega⟩ (jin_of 0 rfl ⟨by omega, by omega⟩)
             refine jm_puti c1 hm rfl sh_173 rfl e176 ?_
             refine jx_goto c1 hm 215 rfl rfl ?_
             have k242 : M176.1 173 3 = z3 := (n176 173 3 (by decide)).trans k93
             have k243 : M176.1 173 4 = z5 := (n176 173 4 (by decide)).trans k95
             have k244 : M176.1 173 6 = b10 := (n176 173 6 (by decide)).trans k100
             have k245 : M176.1 173 8 = b101 := (n176 173 8 (by decide)).trans k102
             exact ihW106 0 (by omega) (some (.inl z141)) (Or.inr (Or.inl ⟨_, rfl⟩)) M176 hH176 hF176 k242 k243 (b97 + 1) (by omega) k176 k244 b101 (by omega) k245 (by omega) (GI.st (c := z141) hgi (by omega) (by omega) (by omega) (by rw [k98, ← hF91 174 (b97).toNat rfl]; exact k142) (by omega) (n176 173 6 (by decide)) (by omega) (by omega) (fun y => absurd y (by omega)) (fun y => absurd y (by omega))) (hg.eq q176) (by omega)
            refine jx_load c1 hm rfl rfl rfl rfl ?_
            refine jy_bp c1 hm rfl (by decide) ?_
            refine jx_load c1 hm rfl rfl rfl rfl ?_
            refine jx_geti c1 hm rfl sh_173 rfl k102 ?_
            refine jx_iope c1 hm rfl rfl (fun z177 lz177 uz177 ez177 => ?_)
            refine jx_load c1 hm rfl rfl rfl rfl ?_
            refine jx_iope c1 hm rfl rfl (fun z178 lz178 uz178 ez178 => ?_)
            refine jy_bp c1 hm rfl (by decide) ?_
            refine jx_iope c1 hm rfl rfl (fun z179 lz179 uz179 ez179 => ?_)
            obtain ⟨M180, e180, hH180, hF180, k180, n180, q180⟩ := mup hH91 hF91 (c := 173) (i := 8) (v := z179) (A := (-2147483648)) (B := 2147483647) (bs_28_5 _ _ (by omega) (by omega)) ⟨by omega, by omega⟩ (jin_of 3 rfl ⟨by omega, by omega⟩)
            refine jm_puti c1 hm rfl sh_173 rfl e180 ?_
            refine jx_load c1 hm rfl rfl rfl rfl ?_
            refine jx_dup c1 hm rfl rfl ?_
            have k181 : M180.1 173 5 = b97 := (n180 173 5 (by decide)).trans k98
            refine jx_geti c1 hm rfl sh_173 rfl k181 ?_
            refine jy_ic c1 hm rfl (by decide) ?_
            refine jy_add c1 hm (b97 + 1) rfl (by omega) ?_
            obtain ⟨M182, e182, hH182, hF182, k182, n182, q182⟩ := mup hH180 hF180 (c := 173) (i := 5) (v := (b97 + 1)) (A := 0) (B := 940) (bs_28_3 _ _ (by omega) (by omega)) ⟨by omega, by omega⟩ (jin_of 0 rfl ⟨by omega, by omega⟩)
            refine jm_puti c1 hm rfl sh_173 rfl e182 ?_
            refine jx_goto c1 hm 215 rfl rfl ?_
            have k246 : M182.1 173 3 = z3 := (n182 173 3 (by decide)).trans ((n180 173 3 (by decide)).trans k93)
            have k247 : M182.1 173 4 = z5 := (n182 173 4 (by decide)).trans ((n180 173 4 (by decide)).trans k95)
            have k248 : M182.1 173 6 = b10 := (n182 173 6 (by decide)).trans ((n180 173 6 (by decide)).trans k100)
            have k249 : M182.1 173 8 = z179 := (n182 173 8 (by decide)).trans k180
            exact ihW106 0 (by omega) (some (.inl z141)) (Or.inr (Or.inl ⟨_, rfl⟩)) M182 hH182 hF182 k246 k247 (b97 + 1) (by omega) k182 k248 z179 (by omega) k249 (by omega) (GI.st (c := z141) hgi (by omega) (by omega) (by omega) (by rw [k98, ← hF91 174 (b97).toNat rfl]; exact k142) (by omega) ((n182 173 6 (by decide)).trans (n180 173 6 (by decide))) (by omega) (by omega) (fun y => absurd y (by omega)) (fun _ z9 y1 y2 y3 => by rw [(n182 173 8 (by decide)), k180]; exact iv_dg ez177 ez178 ez179 (by omega) y2 y3 (by omega))) ((hg.eq q180).eq q182) (by omega)
           refine jx_load c1 hm rfl rfl rfl rfl ?_
           refine jx_ldc2 c1 hm (v := 27) rfl (by decide) ?_
           refine jx_load c1 hm rfl rfl rfl rfl ?_
           obtain ⟨w183, kw183⟩ : ∃ w, M91.2 173 12 = w := ⟨_, rfl⟩
           have bw183 : LB w183.toInt := kw183 ▸ hH91.2.1 173 12 rfl
           have tw183 : (M91.2 173 12).toInt = w183.toInt := by rw [kw183]
           refine jx_getl c1 hm rfl sh_173 rfl kw183 ?_
           have hwb := GI.wb hgi (by omega) (by omega)
           refine jx_lop c1 hm rfl rfl (fun w184 ew184 => ?_)
           have tw184 : w184.toInt = 27 * w183.toInt := jl_mul ew184 (by decide) rfl (by omega)
           clear ew184
           refine jx_load c1 hm rfl rfl rfl rfl ?_
           refine jx_i2l c1 hm rfl (fun w185 ew185 => ?_)
           have tw185 : w185.toInt = z141 := jl_i2l ew185 (by omega)
           clear ew185
           refine jx_lop c1 hm rfl rfl (fun w186 ew186 => ?_)
           have tw186 : w186.toInt = w184.toInt + w185.toInt := jl_add ew186 rfl rfl (by omega)
           clear ew186
           refine jx_ldc2 c1 hm (v := 96) rfl (by decide) ?_
           refine jx_lop c1 hm rfl rfl (fun w187 ew187 => ?_)
           have tw187 : w187.toInt = w186.toInt - 96 := jl_sub ew187 rfl (by decide) (by omega)
           clear ew187
           have bw187 : LB w187.toInt := by unfold LB; omega
           obtain ⟨M188, e188, hH188, hF188, n188, k188, g188⟩ := mul hH91 hF91 (c := 173) (i := 12) (v := w187) (fun _ => bw187)
           refine jm_putl c1 hm rfl sh_173 rfl e188 ?_
           refine jx_load c1 hm rfl rfl rfl rfl ?_
           have k189 : M188.1 173 5 = b97 := (n188 173 5).trans k98
           refine jx_geti c1 hm rfl sh_173 rfl k189 ?_
           refine jx_load c1 hm rfl rfl rfl rfl ?_
           have k190 : M188.1 173 6 = b10 := (n188 173 6).trans k100
           refine jx_geti c1 hm rfl sh_173 rfl k190 ?_
           refine jy_sub c1 hm (-b10 + b97) rfl (by omega) ?_
           refine jy_ic c1 hm rfl (by decide) ?_
           refine jc_ge c1 hm 337 rfl rfl (fun h191 => ?_) (fun h191 => ?_)
           ·
            refine jx_load c1 hm rfl rfl rfl rfl ?_
            refine jx_dup c1 hm rfl rfl ?_
            refine jx_geti c1 hm rfl sh_173 rfl k189 ?_
            refine jy_ic c1 hm rfl (by decide) ?_
            refine jy_add c1 hm (b97 + 1) rfl (by omega) ?_
            obtain ⟨M192, e192, hH192, hF192, k192, n192, q192⟩ := mup hH188 hF188 (c := 173) (i := 5) (v := (b97 + 1)) (A := 0) (B := 940) (bs_28_3 _ _ (by omega) (by omega)) ⟨by omega, by omega⟩ (jin_of 0 rfl ⟨by omega, by omega⟩)
            refine jm_puti c1 hm rfl sh_173 rfl e192 ?_
            refine jx_goto c1 hm 215 rfl rfl ?_
            have k250 : M192.1 173 3 = z3 := (n192 173 3 (by decide)).trans ((n188 173 3).trans k93)
            have k251 : M192.1 173 4 = z5 := (n192 173 4 (by decide)).trans ((n188 173 4).trans k95)
            have k252 : M192.1 173 6 = b10 := (n192 173 6 (by decide)).trans k190
            have k253 : M192.1 173 8 = b101 := (n192 173 8 (by decide)).trans ((n188 173 8).trans k102)
            exact ihW106 0 (by omega) (some (.inl z141)) (Or.inr (Or.inl ⟨_, rfl⟩)) M192 hH192 hF192 k250 k251 (b97 + 1) (by omega) k192 k252 b101 (by omega) k253 (by omega) (GI.st (c := z141) hgi (by omega) (by omega) (by omega) (by rw [k98, ← hF91 174 (b97).toNat rfl]; exact k142) (by omega) ((n192 173 6 (by decide)).trans (n188 173 6)) (by omega) (by omega) (fun _ => by rw [(q192 173 12), k188]; omega) (fun y => absurd y (by omega))) ((hg.st g188 rfl).eq q192) (by omega)
           refine jx_load c1 hm rfl rfl rfl rfl ?_
           refine jy_bp c1 hm rfl (by decide) ?_
           refine jx_load c1 hm rfl rfl rfl rfl ?_
           have k193 : M188.1 173 8 = b101 := (n188 173 8).trans k102
           refine jx_geti c1 hm rfl sh_173 rfl k193 ?_
           refine jx_iope c1 hm rfl rfl (fun z194 lz194 uz194 ez194 => ?_)
           refine jx_load c1 hm rfl rfl rfl rfl ?_
           refine jx_iope c1 hm rfl rfl (fun z195 lz195 uz195 ez195 => ?_)
           refine jy_bp c1 hm rfl (by decide) ?_
           refine jx_iope c1 hm rfl rfl (fun z196 lz196 uz196 ez196 => ?_)
           obtain ⟨M197, e197, hH197, hF197, k197, n197, q197⟩ := mup hH188 hF188 (c := 173) (i := 8) (v := z196) (A := (-2147483648)) (B := 2147483647) (bs_28_5 _ _ (by omega) (by omega)) ⟨by omega, by omega⟩ (jin_of 3 rfl ⟨by omega, by omega⟩)
           refine jm_puti c1 hm rfl sh_173 rfl e197 ?_
           refine jx_load c1 hm rfl rfl rfl rfl ?_
           refine jx_dup c1 hm rfl rfl ?_
           have k198 : M197.1 173 5 = b97 := (n197 173 5 (by decide)).trans k189
           refine jx_geti c1 hm rfl sh_173 rfl k198 ?_
           refine jy_ic c1 hm rfl (by decide) ?_
           refine jy_add c1 hm (b97 + 1) rfl (by omega) ?_
           obtain ⟨M199, e199, hH199, hF199, k199, n199, q199⟩ := mup hH197 hF197 (c := 173) (i := 5) (v := (b97 + 1)) (A := 0) (B := 940) (bs_28_3 _ _ (by omega) (by omega)) ⟨by omega, by omega⟩ (jin_of 0 rfl ⟨by omega, by omega⟩)
           refine jm_puti c1 hm rfl sh_173 rfl e199 ?_
           refine jx_goto c1 hm 215 rfl rfl ?_
           have k254 : M199.1 173 3 = z3 := (n199 173 3 (by decide)).trans ((n197 173 3 (by decide)).trans ((n188 173 3).trans k93))
           have k255 : M199.1 173 4 = z5 := (n199 173 4 (by decide)).trans ((n197 173 4 (by decide)).trans ((n188 173 4).trans k95))
           have k256 : M199.1 173 6 = b10 := (n199 173 6 (by decide)).trans ((n197 173 6 (by decide)).trans k190)
           have k257 : M199.1 173 8 = z196 := (n199 173 8 (by decide)).trans k197
           exact ihW106 0 (by omega) (some (.inl z141)) (Or.inr (Or.inl ⟨_, rfl⟩)) M199 hH199 hF199 k254 k255 (b97 + 1) (by omega) k199 k256 z196 (by omega) k257 (by omega) (GI.st (c := z141) hgi (by omega) (by omega) (by omega) (by rw [k98, ← hF91 174 (b97).toNat rfl]; exact k142) (by omega) (((n199 173 6 (by decide)).trans (n197 173 6 (by decide))).trans (n188 173 6)) (by omega) (by omega) (fun _ => by rw [((q199 173 12).trans (q197 173 12)), k188]; omega) (fun _ z9 y1 y2 y3 => by rw [(n199 173 8 (by decide)), k197]; exact iv_dg ez194 ez195 ez196 (by omega) y2 y3 (by omega))) (((hg.st g188 rfl).eq q197).eq q199) (by omega)
          refine jy_ic c1 hm rfl (by decide) ?_
          refine jx_goto c1 hm 272 rfl rfl ?_
          refine jx_stor c1 hm (L' := [some (.inr (.inr (.inl 173))), some (.inl z37), some (.inl z84), some (.inl 1), some (.inl z141)]) rfl rfl rfl rfl rfl ?_
          refine jx_load c1 hm rfl rfl rfl rfl ?_
          refine jx_geti c1 hm rfl sh_173 rfl k98 ?_
          refine jx_load c1 hm rfl rfl rfl rfl ?_
          refine jx_geti c1 hm rfl sh_173 rfl k100 ?_
          refine jy_sub c1 hm (-b10 + b97) rfl (by omega) ?_
          refine jy_bp c1 hm rfl (by decide) ?_
          refine jc_ge c1 hm 307 rfl rfl (fun h200 => ?_) (fun h200 => ?_)
          ·
           refine jx_load c1 hm rfl rfl rfl rfl ?_
           refine jx_geti c1 hm rfl sh_173 rfl k98 ?_
           refine jx_load c1 hm rfl rfl rfl rfl ?_
           refine jx_geti c1 hm rfl sh_173 rfl k100 ?_
           refine jy_sub c1 hm (-b10 + b97) rfl (by omega) ?_
           refine jy_ic c1 hm rfl (by decide) ?_
           refine jc_ge c1 hm 337 rfl rfl (fun h201 => ?_) (fun h201 => ?_)
           ·
            refine jx_load c1 hm rfl rfl rfl rfl ?_
            refine jx_dup c1 hm rfl rfl ?_
            refine jx_geti c1 hm rfl sh_173 rfl k98 ?_
            refine jy_ic c1 hm rfl (by decide) ?_
            refine jy_add c1 hm (b97 + 1) rfl (by omega) ?_
            obtain ⟨M202, e202, hH202, hF202, k202, n202, q202⟩ := mup hH91 hF91 (c := 173) (i := 5) (v := (b97 + 1)) (A := 0) (B := 940) (bs_28_3 _ _ (by omega) (by omega)) ⟨by omega, by omega⟩ (jin_of 0 rfl ⟨by omega, by omega⟩)
            refine jm_puti c1 hm rfl sh_173 rfl e202 ?_
            refine jx_goto c1 hm 215 rfl rfl ?_
            have k258 : M202.1 173 3 = z3 := (n202 173 3 (by decide)).trans k93
            have k259 : M202.1 173 4 = z5 := (n202 173 4 (by decide)).trans k95
            have k260 : M202.1 173 6 = b10 := (n202 173 6 (by decide)).trans k100
            have k261 : M202.1 173 8 = b101 := (n202 173 8 (by decide)).trans k102
            exact ihW106 1 (by omega) (some (.inl z141)) (Or.inr (Or.inl ⟨_, rfl⟩)) M202 hH202 hF202 k258 k259 (b97 + 1) (by omega) k202 k260 b101 (by omega) k261 (by omega) (GI.st (c := z141) hgi (by omega) (by omega) (by omega) (by rw [k98, ← hF91 174 (b97).toNat rfl]; exact k142) (by omega) (n202 173 6 (by decide)) (by omega) (by omega) (fun y => absurd y (by omega)) (fun y => absurd y (by omega))) (hg.eq q202) (by omega)
           refine jx_load c1 hm rfl rfl rfl rfl ?_
           refine jy_bp c1 hm rfl (by decide) ?_
           refine jx_load c1 hm rfl rfl rfl rfl ?_
           refine jx_geti c1 hm rfl sh_173 rfl k102 ?_
           refine jx_iope c1 hm rfl rfl (fun z203 lz203 uz203 ez203 => ?_)
           refine jx_load c1 hm rfl rfl rfl rfl ?_
           refine jx_iope c1 hm rfl rfl (fun z204 lz204 uz204 ez204 => ?_)
           refine jy_bp c1 hm rfl (by decide) ?_
           refine jx_iope c1 hm rfl rfl (fun z205 lz205 uz205 ez205 => ?_)
           obtain ⟨M206, e206, hH206, hF206, k206, n206, q206⟩ := mup hH91 hF91 (c := 173) (i := 8) (v := z205) (A := (-2147483648)) (B := 2147483647) (bs_28_5 _ _ (by omega) (by omega)) ⟨by omega, by omega⟩ (jin_of 3 rfl ⟨by omega, by omega⟩)
           refine jm_puti c1 hm rfl sh_173 rfl e206 ?_
           refine jx_load c1 hm rfl rfl rfl rfl ?_
           refine jx_dup c1 hm rfl rfl ?_
           have k207 : M206.1 173 5 = b97 := (n206 173 5 (by decide)).trans k98
           refine jx_geti c1 hm rfl sh_173 rfl k207 ?_
           refine jy_ic c1 hm rfl (by decide) ?_
           refine jy_add c1 hm (b97 + 1) rfl (by omega) ?_
           obtain ⟨M208, e208, hH208, hF208, k208, n208, q208⟩ := mup hH206 hF206 (c := 173) (i := 5) (v := (b97 + 1)) (A := 0) (B := 940) (bs_28_3 _ _ (by omega) (by omega)) ⟨by omega, by omega⟩ (jin_of 0 rfl ⟨by omega, by omega⟩)
           refine jm_puti c1 hm rfl sh_173 rfl e208 ?_
           refine jx_goto c1 hm 215 rfl rfl ?_
           have k262 : M208.1 173 3 = z3 := (n208 173 3 (by decide)).trans ((n206 173 3 (by decide)).trans k93)
           have k263 : M208.1 173 4 = z5 := (n208 173 4 (by decide)).trans ((n206 173 4 (by decide)).trans k95)
           have k264 : M208.1 173 6 = b10 := (n208 173 6 (by decide)).trans ((n206 173 6 (by decide)).trans k100)
           have k265 : M208.1 173 8 = z205 := (n208 173 8 (by decide)).trans k206
           exact ihW106 1 (by omega) (some (.inl z141)) (Or.inr (Or.inl ⟨_, rfl⟩)) M208 hH208 hF208 k262 k263 (b97 + 1) (by omega) k208 k264 z205 (by omega) k265 (by omega) (GI.st (c := z141) hgi (by omega) (by omega) (by omega) (by rw [k98, ← hF91 174 (b97).toNat rfl]; exact k142) (by omega) ((n208 173 6 (by decide)).trans (n206 173 6 (by decide))) (by omega) (by omega) (fun y => absurd y (by omega)) (fun _ z9 y1 y2 y3 => by rw [(n208 173 8 (by decide)), k206]; exact iv_dg ez203 ez204 ez205 (by omega) y2 y3 (by omega))) ((hg.eq q206).eq q208) (by omega)
          refine jx_load c1 hm rfl rfl rfl rfl ?_
          refine jx_ldc2 c1 hm (v := 27) rfl (by decide) ?_
          refine jx_load c1 hm rfl rfl rfl rfl ?_
          obtain ⟨w209, kw209⟩ : ∃ w, M91.2 173 12 = w := ⟨_, rfl⟩
          have bw209 : LB w209.toInt := kw209 ▸ hH91.2.1 173 12 rfl
          have tw209 : (M91.2 173 12).toInt = w209.toInt := by rw [kw209]
          refine jx_getl c1 hm rfl sh_173 rfl kw209 ?_
          have hwb := GI.wb hgi (by omega) (by omega)
          refine jx_lop c1 hm rfl rfl (fun w210 ew210 => ?_)
          have tw210 : w210.toInt = 27 * w209.toInt := jl_mul ew210 (by decide) rfl (by omega)
          clear ew210
          refine jx_load c1 hm rfl rfl rfl rfl ?_
          refine jx_i2l c1 hm rfl (fun w211 ew211 => ?_)
          have tw211 : w211.toInt = z141 := jl_i2l ew211 (by omega)
          clear ew211
          refine jx_lop c1 hm rfl rfl (fun w212 ew212 => ?_)
          have tw212 : w212.toInt = w210.toInt + w211.toInt := jl_add ew212 rfl rfl (by omega)
          clear ew212
          refine jx_ldc2 c1 hm (v := 96) rfl (by decide) ?_
          refine jx_lop c1 hm rfl rfl (fun w213 ew213 => ?_)
          have tw213 : w213.toInt = w212.toInt - 96 := jl_sub ew213 rfl (by decide) (by omega)
          clear ew213
          have bw213 : LB w213.toInt := by unfold LB; omega
          obtain ⟨M214, e214, hH214, hF214, n214, k214, g214⟩ := mul hH91 hF91 (c := 173) (i := 12) (v := w213) (fun _ => bw213)
          refine jm_putl c1 hm rfl sh_173 rfl e214 ?_
          refine jx_load c1 hm rfl rfl rfl rfl ?_
          have k215 : M214.1 173 5 = b97 := (n214 173 5).trans k98
          refine jx_geti c1 hm rfl sh_173 rfl k215 ?_
          refine jx_load c1 hm rfl rfl rfl rfl ?_
          have k216 : M214.1 173 6 = b10 := (n214 173 6).trans k100
          refine jx_geti c1 hm rfl sh_173 rfl k216 ?_
          refine jy_sub c1 hm (-b10 + b97) rfl (by omega) ?_
          refine jy_ic c1 hm rfl (by decide) ?_
          refine jc_ge c1 hm 337 rfl rfl (fun h217 => ?_) (fun h217 => ?_)
          ·
           refine jx_load c1 hm rfl rfl rfl rfl ?_
           refine jx_dup c1 hm rfl rfl ?_
           refine jx_geti c1 hm rfl sh_173 rfl k215 ?_
           refine jy_ic c1 hm rfl (by decide) ?_
           refine jy_add c1 hm (b97 + 1) rfl (by omega) ?_
           obtain ⟨M218, e218, hH218, hF218, k218, n218, q218⟩ := mup hH214 hF214 (c := 173) (i := 5) (v := (b97 + 1)) (A := 0) (B := 940) (bs_28_3 _ _ (by omega) (by omega)) ⟨by omega, by omega⟩ (jin_of 0 rfl ⟨by omega, by omega⟩)
           refine jm_puti c1 hm rfl sh_173 rfl e218 ?_
           refine jx_goto c1 hm 215 rfl rfl ?_
           have k266 : M218.1 173 3 = z3 := (n218 173 3 (by decide)).trans ((n214 173 3).trans k93)
           have k267 : M218.1 173 4 = z5 := (n218 173 4 (by decide)).trans ((n214 173 4).trans k95)
           have k268 : M218.1 173 6 = b10 := (n218 173 6 (by decide)).trans k216
           have k269 : M218.1 173 8 = b101 := (n218 173 8 (by decide)).trans ((n214 173 8).trans k102)
           exact ihW106 1 (by omega) (some (.inl z141)) (Or.inr (Or.inl ⟨_, rfl⟩)) M218 hH218 hF218 k266 k267 (b97 + 1) (by omega) k218 k268 b101 (by omega) k269 (by omega) (GI.st (c := z141) hgi (by omega) (by omega) (by omega) (by rw [k98, ← hF91 174 (b97).toNat rfl]; exact k142) (by omega) ((n218 173 6 (by decide)).trans (n214 173 6)) (by omega) (by omega) (fun _ => by rw [(q218 173 12), k214]; omega) (fun y => absurd y (by omega))) ((hg.st g214 rfl).eq q218) (by omega)
          refine jx_load c1 hm rfl rfl rfl rfl ?_
          refine jy_bp c1 hm rfl (by decide) ?_
          refine jx_load c1 hm rfl rfl rfl rfl ?_
          have k219 : M214.1 173 8 = b101 := (n214 173 8).trans k102
          refine jx_geti c1 hm rfl sh_173 rfl k219 ?_
          refine jx_iope c1 hm rfl rfl (fun z220 lz220 uz220 ez220 => ?_)
          refine jx_load c1 hm rfl rfl rfl rfl ?_
          refine jx_iope c1 hm rfl rfl (fun z221 lz221 uz221 ez221 => ?_)
          refine jy_bp c1 hm rfl (by decide) ?_
          refine jx_iope c1 hm rfl rfl (fun z222 lz222 uz222 ez222 => ?_)
          obtain ⟨M223, e223, hH223, hF223, k223, n223, q223⟩ := mup hH214 hF214 (c := 173) (i := 8) (v := z222) (A := (-2147483648)) (B := 2147483647) (bs_28_5 _ _ (by omega) (by omega)) ⟨by omega, by omega⟩ (jin_of 3 rfl ⟨by omega, by omega⟩)
          refine jm_puti c1 hm rfl sh_173 rfl e223 ?_
          refine jx_load c1 hm rfl rfl rfl rfl ?_
          refine jx_dup c1 hm rfl rfl ?_
          have k224 : M223.1 173 5 = b97 := (n223 173 5 (by decide)).trans k215
          refine jx_geti c1 hm rfl sh_173 rfl k224 ?_
          refine jy_ic c1 hm rfl (by decide) ?_
          refine jy_add c1 hm (b97 + 1) rfl (by omega) ?_
          obtain ⟨M225, e225, hH225, hF225, k225, n225, q225⟩ := mup hH223 hF223 (c := 173) (i := 5) (v := (b97 + 1)) (A := 0) (B := 940) (bs_28_3 _ _ (by omega) (by omega)) ⟨by omega, by omega⟩ (jin_of 0 rfl ⟨by omega, by omega⟩)
          refine jm_puti c1 hm rfl sh_173 rfl e225 ?_
          refine jx_goto c1 hm 215 rfl rfl ?_
          have k270 : M225.1 173 3 = z3 := (n225 173 3 (by decide)).trans ((n223 173 3 (by decide)).trans ((n214 173 3).trans k93))
          have k271 : M225.1 173 4 = z5 := (n225 173 4 (by decide)).trans ((n223 173 4 (by decide)).trans ((n214 173 4).trans k95))
          have k272 : M225.1 173 6 = b10 := (n225 173 6 (by decide)).trans ((n223 173 6 (by decide)).trans k216)
          have k273 : M225.1 173 8 = z222 := (n225 173 8 (by decide)).trans k223
          exact ihW106 1 (by omega) (some (.inl z141)) (Or.inr (Or.inl ⟨_, rfl⟩)) M225 hH225 hF225 k270 k271 (b97 + 1) (by omega) k225 k272 z222 (by omega) k273 (by omega) (GI.st (c := z141) hgi (by omega) (by omega) (by omega) (by rw [k98, ← hF91 174 (b97).toNat rfl]; exact k142) (by omega) (((n225 173 6 (by decide)).trans (n223 173 6 (by decide))).trans (n214 173 6)) (by omega) (by omega) (fun _ => by rw [((q225 173 12).trans (q223 173 12)), k214]; omega) (fun _ z9 y1 y2 y3 => by rw [(n225 173 8 (by decide)), k223]; exact iv_dg ez220 ez221 ez222 (by omega) y2 y3 (by omega))) (((hg.st g214 rfl).eq q223).eq q225) (by omega)
         refine jz_ne c1 hm 243 rfl rfl (fun h114 => ?_) (fun h114 => ?_)
         ·
          exact J140 (by omega) (by rw [k98]; omega)
         refine jx_load c1 hm rfl rfl rfl rfl ?_
         refine jx_load c1 hm rfl rfl rfl rfl ?_
         refine jx_geti c1 hm rfl sh_173 rfl k98 ?_
         refine jv_i c3 hm rfl pj_X12_tapeAt rfl rfl ⟨_, _, _, rfl, sh_173⟩ rfl ((ct_X12_tapeAt_173 X (by omega) M91 hH91 b97 ⟨by omega, by omega⟩).le (by decide)) (fun z115 _ ⟨rfl, lz115, uz115, p116, p117⟩ => ?_)
         refine jt_i c3 hm rfl rfl pj_X12_isDigit rfl rfl rfl ((ct_X12_isDigit X (by omega) M91 hH91 z115 ⟨by omega, by omega⟩).le (by decide)) (fun z118 _ ⟨rfl, lz118, uz118, p119, p120⟩ => ?_)
         refine jz_eq c1 hm 350 rfl rfl (fun h121 => ?_) (fun h121 => ?_)
         ·
          refine jx_load c1 hm rfl rfl rfl rfl ?_
          refine jx_load c1 hm rfl rfl rfl rfl ?_
          refine jz_eq c1 hm 377 rfl rfl (fun h122 => ?_) (fun h122 => ?_)
          ·
           refine jy_ic c1 hm rfl (by decide) ?_
           refine jx_goto c1 hm 390 rfl rfl ?_
           obtain ⟨M123, e123, hH123, hF123, k123, n123, q123⟩ := mup hH91 hF91 (c := 173) (i := 7) (v := 1) (A := 0) (B := 4) (bs_28_4 _ _ (by omega) (by omega)) ⟨by omega, by omega⟩ (jin_of 2 rfl ⟨by omega, by omega⟩)
           refine jm_puti c1 hm rfl sh_173 rfl e123 ?_
           have k124 : M123.1 173 5 = b97 := (n123 173 5 (by decide)).trans k98
           exact jx_retv c2 hm rfl rfl ⟨rfl, hH123, hF123, (GI.fin hgi (by omega) (by omega) (fun y => by rw [k98, ← hF91 174 (b97).toNat rfl]; omega) (fun j => hF123 174 j rfl) (hF123 173 3 rfl) (hF123 173 4 rfl) (n123 173 5 (by decide)) (n123 173 6 (by decide)) (n123 173 8 (by decide)) (q123 173 12) (by omega)), (hg.eq q123)⟩
          refine jx_load c1 hm rfl rfl rfl rfl ?_
          refine jx_geti c1 hm rfl sh_173 rfl k98 ?_
          refine jx_load c1 hm rfl rfl rfl rfl ?_
          refine jx_geti c1 hm rfl sh_173 rfl k100 ?_
          refine jy_sub c1 hm (-b10 + b97) rfl (by omega) ?_
          refine jx_load c1 hm rfl rfl rfl rfl ?_
          refine jz_eq c1 hm 373 rfl rfl (fun h125 => ?_) (fun h125 => ?_)
          ·
           refine jy_ic c1 hm rfl (by decide) ?_
           refine jc_le c1 hm 381 rfl rfl (fun h126 => ?_) (fun h126 => ?_)
           ·
            refine jx_load c1 hm rfl rfl rfl rfl ?_
            refine jz_eq c1 hm 389 rfl rfl (fun h127 => ?_) (fun h127 => ?_)
            ·
             refine jy_ic c1 hm rfl (by decide) ?_
             obtain ⟨M128, e128, hH128, hF128, k128, n128, q128⟩ := mup hH91 hF91 (c := 173) (i := 7) (v := 3) (A := 0) (B := 4) (bs_28_4 _ _ (by omega) (by omega)) ⟨by omega, by omega⟩ (jin_of 2 rfl ⟨by omega, by omega⟩)
             refine jm_puti c1 hm rfl sh_173 rfl e128 ?_
             have k129 : M128.1 173 5 = b97 := (n128 173 5 (by decide)).trans k98
             exact jx_retv c2 hm rfl rfl ⟨rfl, hH128, hF128, (GI.fin hgi (by omega) (by omega) (fun y => by rw [k98, ← hF91 174 (b97).toNat rfl]; omega) (fun j => hF128 174 j rfl) (hF128 173 3 rfl) (hF128 173 4 rfl) (n128 173 5 (by decide)) (n128 173 6 (by decide)) (n128 173 8 (by decide)) (q128 173 12) (by omega)), (hg.eq q128)⟩
            exfalso; omega
           refine jy_ic c1 hm rfl (by decide) ?_
           refine jx_goto c1 hm 390 rfl rfl ?_
           obtain ⟨M130, e130, hH130, hF130, k130, n130, q130⟩ := mup hH91 hF91 (c := 173) (i := 7) (v := 1) (A := 0) (B := 4) (bs_28_4 _ _ (by omega) (by omega)) ⟨by omega, by omega⟩ (jin_of 2 rfl ⟨by omega, by omega⟩)
           refine jm_puti c1 hm rfl sh_173 rfl e130 ?_
           have k131 : M130.1 173 5 = b97 := (n130 173 5 (by decide)).trans k98
           exact jx_retv c2 hm rfl rfl ⟨rfl, hH130, hF130, (GI.fin hgi (by omega) (by omega) (fun y => by rw [k98, ← hF91 174 (b97).toNat rfl]; omega) (fun j => hF130 174 j rfl) (hF130 173 3 rfl) (hF130 173 4 rfl) (n130 173 5 (by decide)) (n130 173 6 (by decide)) (n130 173 8 (by decide)) (q130 173 12) (by omega)), (hg.eq q130)⟩
          refine jy_bp c1 hm rfl (by decide) ?_
          refine jx_goto c1 hm 374 rfl rfl ?_
          refine jc_le c1 hm 381 rfl rfl (fun h132 => ?_) (fun h132 => ?_)
          ·
           refine jx_load c1 hm rfl rfl rfl rfl ?_
           refine jz_eq c1 hm 389 rfl rfl (fun h133 => ?_) (fun h133 => ?_)
           ·
            exfalso; omega
           refine jy_ic c1 hm rfl (by decide) ?_
           refine jx_goto c1 hm 390 rfl rfl ?_
           obtain ⟨M134, e134, hH134, hF134, k134, n134, q134⟩ := mup hH91 hF91 (c := 173) (i := 7) (v := 2) (A := 0) (B := 4) (bs_28_4 _ _ (by omega) (by omega)) ⟨by omega, by omega⟩ (jin_of 2 rfl ⟨by omega, by omega⟩)
           refine jm_puti c1 hm rfl sh_173 rfl e134 ?_
           have k135 : M134.1 173 5 = b97 := (n134 173 5 (by decide)).trans k98
           exact jx_retv c2 hm rfl rfl ⟨rfl, hH134, hF134, (GI.fin hgi (by omega) (by omega) (fun y => by rw [k98, ← hF91 174 (b97).toNat rfl]; omega) (fun j => hF134 174 j rfl) (hF134 173 3 rfl) (hF134 173 4 rfl) (n134 173 5 (by decide)) (n134 173 6 (by decide)) (n134 173 8 (by decide)) (q134 173 12) (by omega)), (hg.eq q134)⟩
          refine jy_ic c1 hm rfl (by decide) ?_
          refine jx_goto c1 hm 390 rfl rfl ?_
          obtain ⟨M136, e136, hH136, hF136, k136, n136, q136⟩ := mup hH91 hF91 (c := 173) (i := 7) (v := 1) (A := 0) (B := 4) (bs_28_4 _ _ (by omega) (by omega)) ⟨by omega, by omega⟩ (jin_of 2 rfl ⟨by omega, by omega⟩)
          refine jm_puti c1 hm rfl sh_173 rfl e136 ?_
          have k137 : M136.1 173 5 = b97 := (n136 173 5 (by decide)).trans k98
          exact jx_retv c2 hm rfl rfl ⟨rfl, hH136, hF136, (GI.fin hgi (by omega) (by omega) (fun y => by rw [k98, ← hF91 174 (b97).toNat rfl]; omega) (fun j => hF136 174 j rfl) (hF136 173 3 rfl) (hF136 173 4 rfl) (n136 173 5 (by decide)) (n136 173 6 (by decide)) (n136 173 8 (by decide)) (q136 173 12) (by omega)), (hg.eq q136)⟩
         exact J140 (by omega) (by rw [k98]; omega)
       have k92 : M88.1 173 3 = z3 := (n88 173 3 (by decide)).trans ((n87 173 3).trans k26)
       have k94 : M88.1 173 4 = z5 := (n88 173 4 (by decide)).trans ((n87 173 4).trans k27)
       have k96 : M88.1 173 5 = b10 := (n88 173 5 (by decide)).trans ((n87 173 5).trans k35)
       have k99 : M88.1 173 6 = b10 := (n88 173 6 (by decide)).trans ((n87 173 6).trans k25)
       exact W106 ((-b10 + 940) + 1 : Int).toNat 1 (by omega) none (Or.inl rfl) M88 hH88 hF88 k92 k94 b10 (by omega) k96 k99 0 (by omega) k88 (by omega) (GI.start (c := z37) hsk (((n88 173 6 (by decide)).trans (n87 173 6)).trans (k25.trans (by omega))) (((n88 173 5 (by decide)).trans (n87 173 5)).trans (n25 173 5 (by decide))) (by omega) (by omega) (by omega) (by omega) (by rw [k11, ← hF7 174 (b10).toNat rfl, ← (n25 174 (b10).toNat (fun h => absurd h.1 (by decide)))]; exact k38) (by omega) (by rw [q88 173 12, k87]; rfl) k88) (((hg.eq q25).st g87 rfl).eq q88) (by omega)
      refine jz_ne c1 hm 198 rfl rfl (fun h42 => ?_) (fun h42 => ?_)
      ·
       exact J83 (by omega) (by omega)
      refine jx_load c1 hm rfl rfl rfl rfl ?_
      refine jt_i c3 hm rfl rfl pj_X12_isDigit rfl rfl rfl ((ct_X12_isDigit X (by omega) M25 hH25 z37 ⟨by omega, by omega⟩).le (by decide)) (fun z43 _ ⟨rfl, lz43, uz43, p44, p45⟩ => ?_)
      refine jz_ne c1 hm 198 rfl rfl (fun h46 => ?_) (fun h46 => ?_)
      ·
       exact J83 (by omega) (by omega)
      refine jx_load c1 hm rfl rfl rfl rfl ?_
      refine jx_load c1 hm rfl rfl rfl rfl ?_
      refine jy_bp c1 hm rfl (by decide) ?_
      refine jc_eq c1 hm 174 rfl rfl (fun h47 => ?_) (fun h47 => ?_)
      ·
       refine jy_ic c1 hm rfl (by decide) ?_
       refine jx_goto c1 hm 179 rfl rfl ?_
       obtain ⟨M48, e48, hH48, hF48, k48, n48, q48⟩ := mup hH25 hF25 (c := 173) (i := 7) (v := 4) (A := 0) (B := 4) (bs_28_4 _ _ (by omega) (by omega)) ⟨by omega, by omega⟩ (jin_of 2 rfl ⟨by omega, by omega⟩)
       refine jm_puti c1 hm rfl sh_173 rfl e48 ?_
       refine jx_load c1 hm rfl rfl rfl rfl ?_
       refine jx_load c1 hm rfl rfl rfl rfl ?_
       obtain ⟨M49, e49, hH49, hF49, k49, n49, q49⟩ := mup hH48 hF48 (c := 173) (i := 9) (v := z37) (A := (-2147483648)) (B := 2147483647) (bs_28_5 _ _ (by omega) (by omega)) ⟨by omega, by omega⟩ (jin_of 4 rfl ⟨by omega, by omega⟩)
       refine jm_puti c1 hm rfl sh_173 rfl e49 ?_
       refine jx_load c1 hm rfl rfl rfl rfl ?_
       refine jx_dup c1 hm rfl rfl ?_
       have k50 : M49.1 173 5 = b10 := (n49 173 5 (by decide)).trans ((n48 173 5 (by decide)).trans k35)
       refine jx_geti c1 hm rfl sh_173 rfl k50 ?_
       refine jy_ic c1 hm rfl (by decide) ?_
       refine jy_add c1 hm (b10 + 1) rfl (by omega) ?_
       obtain ⟨M51, e51, hH51, hF51, k51, n51, q51⟩ := mup hH49 hF49 (c := 173) (i := 5) (v := (b10 + 1)) (A := 0) (B := 940) (bs_28_3 _ _ (by omega) (by omega)) ⟨by omega, by omega⟩ (jin_of 0 rfl ⟨by omega, by omega⟩)
       refine jm_puti c1 hm rfl sh_173 rfl e51 ?_
       exact jx_retv c2 hm rfl rfl ⟨rfl, hH51, hF51, (rx_sgn hsk (by omega) (by omega) (by omega) (by omega) (by rw [k11, ← hF7 174 (b10).toNat rfl, ← n25 174 (b10).toNat (fun h => absurd h.1 (by decide))]; exact k38) (by have y9 := hnw (by omega); rw [k11, ← hF7 174 (b10).toNat rfl, ← n25 174 (b10).toNat (fun h => absurd h.1 (by decide)), k38] at y9; omega) (by omega) (fun j => hF51 174 j rfl) (hF51 173 3 rfl) (hF51 173 4 rfl) (((n51 173 7 (by decide)).trans (n49 173 7 (by decide))).trans k48) (by omega) ((((n51 173 6 (by decide)).trans (n49 173 6 (by decide))).trans (n48 173 6 (by decide))).trans (k25.trans (by omega))) (by omega) ((n51 173 9 (by decide)).trans k49)), ((((hg.eq q25).eq q48).eq q49).eq q51)⟩
      refine jx_load c1 hm rfl rfl rfl rfl ?_
      refine jy_bp c1 hm rfl (by decide) ?_
      refine jc_eq c1 hm 174 rfl rfl (fun h52 => ?_) (fun h52 => ?_)
      ·
       refine jy_ic c1 hm rfl (by decide) ?_
       refine jx_goto c1 hm 179 rfl rfl ?_
       obtain ⟨M53, e53, hH53, hF53, k53, n53, q53⟩ := mup hH25 hF25 (c := 173) (i := 7) (v := 4) (A := 0) (B := 4) (bs_28_4 _ _ (by omega) (by omega)) ⟨by omega, by omega⟩ (jin_of 2 rfl ⟨by omega, by omega⟩)
       refine jm_puti c1 hm rfl sh_173 rfl e53 ?_
       refine jx_load c1 hm rfl rfl rfl rfl ?_
       refine jx_load c1 hm rfl rfl rfl rfl ?_
       obtain ⟨M54, e54, hH54, hF54, k54, n54, q54⟩ := mup hH53 hF53 (c := 173) (i := 9) (v := z37) (A := (-2147483648)) (B := 2147483647) (bs_28_5 _ _ (by omega) (by omega)) ⟨by omega, by omega⟩ (jin_of 4 rfl ⟨by omega, by omega⟩)
       refine jm_puti c1 hm rfl sh_173 rfl e54 ?_
       refine jx_load c1 hm rfl rfl rfl rfl ?_
       refine jx_dup c1 hm rfl rfl ?_
       have k55 : M54.1 173 5 = b10 := (n54 173 5 (by decide)).trans ((n53 173 5 (by decide)).trans k35)
       refine jx_geti c1 hm rfl sh_173 rfl k55 ?_
       refine jy_ic c1 hm rfl (by decide) ?_
       refine jy_add c1 hm (b10 + 1) rfl (by omega) ?_
       obtain ⟨M56, e56, hH56, hF56, k56, n56, q56⟩ := mup hH54 hF54 (c := 173) (i := 5) (v := (b10 + 1)) (A := 0) (B := 940) (bs_28_3 _ _ (by omega) (by omega)) ⟨by omega, by omega⟩ (jin_of 0 rfl ⟨by omega, by omega⟩)
       refine jm_puti c1 hm rfl sh_173 rfl e56 ?_
       exact jx_retv c2 hm rfl rfl ⟨rfl, hH56, hF56, (rx_sgn hsk (by omega) (by omega) (by omega) (by omega) (by rw [k11, ← hF7 174 (b10).toNat rfl, ← n25 174 (b10).toNat (fun h => absurd h.1 (by decide))]; exact k38) (by have y9 := hnw (by omega); rw [k11, ← hF7 174 (b10).toNat rfl, ← n25 174 (b10).toNat (fun h => absurd h.1 (by decide)), k38] at y9; omega) (by omega) (fun j => hF56 174 j rfl) (hF56 173 3 rfl) (hF56 173 4 rfl) (((n56 173 7 (by decide)).trans (n54 173 7 (by decide))).trans k53) (by omega) ((((n56 173 6 (by decide)).trans (n54 173 6 (by decide))).trans (n53 173 6 (by decide))).trans (k25.trans (by omega))) (by omega) ((n56 173 9 (by decide)).trans k54)), ((((hg.eq q25).eq q53).eq q54).eq q56)⟩
      refine jx_load c1 hm rfl rfl rfl rfl ?_
      refine jy_bp c1 hm rfl (by decide) ?_
      refine jc_eq c1 hm 174 rfl rfl (fun h57 => ?_) (fun h57 => ?_)
      ·
       refine jy_ic c1 hm rfl (by decide) ?_
       refine jx_goto c1 hm 179 rfl rfl ?_
       obtain ⟨M58, e58, hH58, hF58, k58, n58, q58⟩ := mup hH25 hF25 (c := 173) (i := 7) (v := 4) (A := 0) (B := 4) (bs_28_4 _ _ (by omega) (by omega)) ⟨by omega, by omega⟩ (jin_of 2 rfl ⟨by omega, by omega⟩)
       refine jm_puti c1 hm rfl sh_173 rfl e58 ?_
       refine jx_load c1 hm rfl rfl rfl rfl ?_
       refine jx_load c1 hm rfl rfl rfl rfl ?_
       obtain ⟨M59, e59, hH59, hF59, k59, n59, q59⟩ := mup hH58 hF58 (c := 173) (i := 9) (v := z37) (A := (-2147483648)) (B := 2147483647) (bs_28_5 _ _ (by omega) (by omega)) ⟨by omega, by omega⟩ (jin_of 4 rfl ⟨by omega, by omega⟩)
       refine jm_puti c1 hm rfl sh_173 rfl e59 ?_
       refine jx_load c1 hm rfl rfl rfl rfl ?_
       refine jx_dup c1 hm rfl rfl ?_
       have k60 : M59.1 173 5 = b10 := (n59 173 5 (by decide)).trans ((n58 173 5 (by decide)).trans k35)
       refine jx_geti c1 hm rfl sh_173 rfl k60 ?_
       refine jy_ic c1 hm rfl (by decide) ?_
       refine jy_add c1 hm (b10 + 1) rfl (by omega) ?_
       obtain ⟨M61, e61, hH61, hF61, k61, n61, q61⟩ := mup hH59 hF59 (c := 173) (i := 5) (v := (b10 + 1)) (A := 0) (B := 940) (bs_28_3 _ _ (by omega) (by omega)) ⟨by omega, by omega⟩ (jin_of 0 rfl ⟨by omega, by omega⟩)
       refine jm_puti c1 hm rfl sh_173 rfl e61 ?_
       exact jx_retv c2 hm rfl rfl ⟨rfl, hH61, hF61, (rx_sgn hsk (by omega) (by omega) (by omega) (by omega) (by rw [k11, ← hF7 174 (b10).toNat rfl, ← n25 174 (b10).toNat (fun h => absurd h.1 (by decide))]; exact k38) (by have y9 := hnw (by omega); rw [k11, ← hF7 174 (b10).toNat rfl, ← n25 174 (b10).toNat (fun h => absurd h.1 (by decide)), k38] at y9; omega) (by omega) (fun j => hF61 174 j rfl) (hF61 173 3 rfl) (hF61 173 4 rfl) (((n61 173 7 (by decide)).trans (n59 173 7 (by decide))).trans k58) (by omega) ((((n61 173 6 (by decide)).trans (n59 173 6 (by decide))).trans (n58 173 6 (by decide))).trans (k25.trans (by omega))) (by omega) ((n61 173 9 (by decide)).trans k59)), ((((hg.eq q25).eq q58).eq q59).eq q61)⟩
      refine jx_load c1 hm rfl rfl rfl rfl ?_
      refine jy_bp c1 hm rfl (by decide) ?_
      refine jc_eq c1 hm 174 rfl rfl (fun h62 => ?_) (fun h62 => ?_)
      ·
       refine jy_ic c1 hm rfl (by decide) ?_
       refine jx_goto c1 hm 179 rfl rfl ?_
       obtain ⟨M63, e63, hH63, hF63, k63, n63, q63⟩ := mup hH25 hF25 (c := 173) (i := 7) (v := 4) (A := 0) (B := 4) (bs_28_4 _ _ (by omega) (by omega)) ⟨by omega, by omega⟩ (jin_of 2 rfl ⟨by omega, by omega⟩)
       refine jm_puti c1 hm rfl sh_173 rfl e63 ?_
       refine jx_load c1 hm rfl rfl rfl rfl ?_
       refine jx_load c1 hm rfl rfl rfl rfl ?_
       obtain ⟨M64, e64, hH64, hF64, k64, n64, q64⟩ := mup hH63 hF63 (c := 173) (i := 9) (v := z37) (A := (-2147483648)) (B := 2147483647) (bs_28_5 _ _ (by omega) (by omega)) ⟨by omega, by omega⟩ (jin_of 4 rfl ⟨by omega, by omega⟩)
       refine jm_puti c1 hm rfl sh_173 rfl e64 ?_
       refine jx_load c1 hm rfl rfl rfl rfl ?_
       refine jx_dup c1 hm rfl rfl ?_
       have k65 : M64.1 173 5 = b10 := (n64 173 5 (by decide)).trans ((n63 173 5 (by decide)).trans k35)
       refine jx_geti c1 hm rfl sh_173 rfl k65 ?_
       refine jy_ic c1 hm rfl (by decide) ?_
       refine jy_add c1 hm (b10 + 1) rfl (by omega) ?_
       obtain ⟨M66, e66, hH66, hF66, k66, n66, q66⟩ := mup hH64 hF64 (c := 173) (i := 5) (v := (b10 + 1)) (A := 0) (B := 940) (bs_28_3 _ _ (by omega) (by omega)) ⟨by omega, by omega⟩ (jin_of 0 rfl ⟨by omega, by omega⟩)
       refine jm_puti c1 hm rfl sh_173 rfl e66 ?_
       exact jx_retv c2 hm rfl rfl ⟨rfl, hH66, hF66, (rx_sgn hsk (by omega) (by omega) (by omega) (by omega) (by rw [k11, ← hF7 174 (b10).toNat rfl, ← n25 174 (b10).toNat (fun h => absurd h.1 (by decide))]; exact k38) (by have y9 := hnw (by omega); rw [k11, ← hF7 174 (b10).toNat rfl, ← n25 174 (b10).toNat (fun h => absurd h.1 (by decide)), k38] at y9; omega) (by omega) (fun j => hF66 174 j rfl) (hF66 173 3 rfl) (hF66 173 4 rfl) (((n66 173 7 (by decide)).trans (n64 173 7 (by decide))).trans k63) (by omega) ((((n66 173 6 (by decide)).trans (n64 173 6 (by decide))).trans (n63 173 6 (by decide))).trans (k25.trans (by omega))) (by omega) ((n66 173 9 (by decide)).trans k64)), ((((hg.eq q25).eq q63).eq q64).eq q66)⟩
      refine jx_load c1 hm rfl rfl rfl rfl ?_
      refine jy_bp c1 hm rfl (by decide) ?_
      refine jc_eq c1 hm 174 rfl rfl (fun h67 => ?_) (fun h67 => ?_)
      ·
       refine jy_ic c1 hm rfl (by decide) ?_
       refine jx_goto c1 hm 179 rfl rfl ?_
       obtain ⟨M68, e68, hH68, hF68, k68, n68, q68⟩ := mup hH25 hF25 (c := 173) (i := 7) (v := 4) (A := 0) (B := 4) (bs_28_4 _ _ (by omega) (by omega)) ⟨by omega, by omega⟩ (jin_of 2 rfl ⟨by omega, by omega⟩)
       refine jm_puti c1 hm rfl sh_173 rfl e68 ?_
       refine jx_load c1 hm rfl rfl rfl rfl ?_
       refine jx_load c1 hm rfl rfl rfl rfl ?_
       obtain ⟨M69, e69, hH69, hF69, k69, n69, q69⟩ := mup hH68 hF68 (c := 173) (i := 9) (v := z37) (A := (-2147483648)) (B := 2147483647) (bs_28_5 _ _ (by omega) (by omega)) ⟨by omega, by omega⟩ (jin_of 4 rfl ⟨by omega, by omega⟩)
       refine jm_puti c1 hm rfl sh_173 rfl e69 ?_
       refine jx_load c1 hm rfl rfl rfl rfl ?_
       refine jx_dup c1 hm rfl rfl ?_
       have k70 : M69.1 173 5 = b10 := (n69 173 5 (by decide)).trans ((n68 173 5 (by decide)).trans k35)
       refine jx_geti c1 hm rfl sh_173 rfl k70 ?_
       refine jy_ic c1 hm rfl (by decide) ?_
       refine jy_add c1 hm (b10 + 1) rfl (by omega) ?_
       obtain ⟨M71, e71, hH71, hF71, k71, n71, q71⟩ := mup hH69 hF69 (c := 173) (i := 5) (v := (b10 + 1)) (A := 0) (B := 940) (bs_28_3 _ _ (by omega) (by omega)) ⟨by omega, by omega⟩ (jin_of 0 rfl ⟨by omega, by omega⟩)
       refine jm_puti c1 hm rfl sh_173 rfl e71 ?_
       exact jx_retv c2 hm rfl rfl ⟨rfl, hH71, hF71, (rx_sgn hsk (by omega) (by omega) (by omega) (by omega) (by rw [k11, ← hF7 174 (b10).toNat rfl, ← n25 174 (b10).toNat (fun h => absurd h.1 (by decide))]; exact k38) (by have y9 := hnw (by omega); rw [k11, ← hF7 174 (b10).toNat rfl, ← n25 174 (b10).toNat (fun h => absurd h.1 (by decide)), k38] at y9; omega) (by omega) (fun j => hF71 174 j rfl) (hF71 173 3 rfl) (hF71 173 4 rfl) (((n71 173 7 (by decide)).trans (n69 173 7 (by decide))).trans k68) (by omega) ((((n71 173 6 (by decide)).trans (n69 173 6 (by decide))).trans (n68 173 6 (by decide))).trans (k25.trans (by omega))) (by omega) ((n71 173 9 (by decide)).trans k69)), ((((hg.eq q25).eq q68).eq q69).eq q71)⟩
      refine jx_load c1 hm rfl rfl rfl rfl ?_
      refine jy_bp c1 hm rfl (by decide) ?_
      refine jc_ne c1 hm 178 rfl rfl (fun h72 => ?_) (fun h72 => ?_)
      ·
       refine jy_ic c1 hm rfl (by decide) ?_
       obtain ⟨M73, e73, hH73, hF73, k73, n73, q73⟩ := mup hH25 hF25 (c := 173) (i := 7) (v := 1) (A := 0) (B := 4) (bs_28_4 _ _ (by omega) (by omega)) ⟨by omega, by omega⟩ (jin_of 2 rfl ⟨by omega, by omega⟩)
       refine jm_puti c1 hm rfl sh_173 rfl e73 ?_
       refine jx_load c1 hm rfl rfl rfl rfl ?_
       refine jx_load c1 hm rfl rfl rfl rfl ?_
       obtain ⟨M74, e74, hH74, hF74, k74, n74, q74⟩ := mup hH73 hF73 (c := 173) (i := 9) (v := z37) (A := (-2147483648)) (B := 2147483647) (bs_28_5 _ _ (by omega) (by omega)) ⟨by omega, by omega⟩ (jin_of 4 rfl ⟨by omega, by omega⟩)
       refine jm_puti c1 hm rfl sh_173 rfl e74 ?_
       refine jx_load c1 hm rfl rfl rfl rfl ?_
       refine jx_dup c1 hm rfl rfl ?_
       have k75 : M74.1 173 5 = b10 := (n74 173 5 (by decide)).trans ((n73 173 5 (by decide)).trans k35)
       refine jx_geti c1 hm rfl sh_173 rfl k75 ?_
       refine jy_ic c1 hm rfl (by decide) ?_
       refine jy_add c1 hm (b10 + 1) rfl (by omega) ?_
       obtain ⟨M76, e76, hH76, hF76, k76, n76, q76⟩ := mup hH74 hF74 (c := 173) (i := 5) (v := (b10 + 1)) (A := 0) (B := 940) (bs_28_3 _ _ (by omega) (by omega)) ⟨by omega, by omega⟩ (jin_of 0 rfl ⟨by omega, by omega⟩)
       refine jm_puti c1 hm rfl sh_173 rfl e76 ?_
       exact jx_retv c2 hm rfl rfl ⟨rfl, hH76, hF76, (rx_sgn hsk (by omega) (by omega) (by omega) (by omega) (by rw [k11, ← hF7 174 (b10).toNat rfl, ← n25 174 (b10).toNat (fun h => absurd h.1 (by decide))]; exact k38) (by have y9 := hnw (by omega); rw [k11, ← hF7 174 (b10).toNat rfl, ← n25 174 (b10).toNat (fun h => absurd h.1 (by decide)), k38] at y9; omega) (by omega) (fun j => hF76 174 j rfl) (hF76 173 3 rfl) (hF76 173 4 rfl) (((n76 173 7 (by decide)).trans (n74 173 7 (by decide))).trans k73) (by omega) ((((n76 173 6 (by decide)).trans (n74 173 6 (by decide))).trans (n73 173 6 (by decide))).trans (k25.trans (by omega))) (by omega) ((n76 173 9 (by decide)).trans k74)), ((((hg.eq q25).eq q73).eq q74).eq q76)⟩
      refine jy_ic c1 hm rfl (by decide) ?_
      refine jx_goto c1 hm 179 rfl rfl ?_
      obtain ⟨M77, e77, hH77, hF77, k77, n77, q77⟩ := mup hH25 hF25 (c := 173) (i := 7) (v := 4) (A := 0) (B := 4) (bs_28_4 _ _ (by omega) (by omega)) ⟨by omega, by omega⟩ (jin_of 2 rfl ⟨by omega, by omega⟩)
      refine jm_puti c1 hm rfl sh_173 rfl e77 ?_
      refine jx_load c1 hm rfl rfl rfl rfl ?_
      refine jx_load c1 hm rfl rfl rfl rfl ?_
      obtain ⟨M78, e78, hH78, hF78, k78, n78, q78⟩ := mup hH77 hF77 (c := 173) (i := 9) (v := z37) (A := (-2147483648)) (B := 2147483647) (bs_28_5 _ _ (by omega) (by omega)) ⟨by omega, by omega⟩ (jin_of 4 rfl ⟨by omega, by omega⟩)
      refine jm_puti c1 hm rfl sh_173 rfl e78 ?_
      refine jx_load c1 hm rfl rfl rfl rfl ?_
      refine jx_dup c1 hm rfl rfl ?_
      have k79 : M78.1 173 5 = b10 := (n78 173 5 (by decide)).trans ((n77 173 5 (by decide)).trans k35)
      refine jx_geti c1 hm rfl sh_173 rfl k79 ?_
      refine jy_ic c1 hm rfl (by decide) ?_
      refine jy_add c1 hm (b10 + 1) rfl (by omega) ?_
      obtain ⟨M80, e80, hH80, hF80, k80, n80, q80⟩ := mup hH78 hF78 (c := 173) (i := 5) (v := (b10 + 1)) (A := 0) (B := 940) (bs_28_3 _ _ (by omega) (by omega)) ⟨by omega, by omega⟩ (jin_of 0 rfl ⟨by omega, by omega⟩)
      refine jm_puti c1 hm rfl sh_173 rfl e80 ?_
      exact jx_retv c2 hm rfl rfl ⟨rfl, hH80, hF80, (rx_sgn hsk (by omega) (by omega) (by omega) (by omega) (by rw [k11, ← hF7 174 (b10).toNat rfl, ← n25 174 (b10).toNat (fun h => absurd h.1 (by decide))]; exact k38) (by have y9 := hnw (by omega); rw [k11, ← hF7 174 (b10).toNat rfl, ← n25 174 (b10).toNat (fun h => absurd h.1 (by decide)), k38] at y9; omega) (by omega) (fun j => hF80 174 j rfl) (hF80 173 3 rfl) (hF80 173 4 rfl) (((n80 173 7 (by decide)).trans (n78 173 7 (by decide))).trans k77) (by omega) ((((n80 173 6 (by decide)).trans (n78 173 6 (by decide))).trans (n77 173 6 (by decide))).trans (k25.trans (by omega))) (by omega) ((n80 173 9 (by decide)).trans k78)), ((((hg.eq q25).eq q77).eq q78).eq q80)⟩
     refine jx_load c1 hm rfl rfl rfl rfl ?_
     refine jy_ic c1 hm rfl (by decide) ?_
     obtain ⟨M274, e274, hH274, hF274, k274, n274, q274⟩ := mup hH25 hF25 (c := 173) (i := 7) (v := 0) (A := 0) (B := 4) (bs_28_4 _ _ (by omega) (by omega)) ⟨by omega, by omega⟩ (jin_of 2 rfl ⟨by omega, by omega⟩)
     refine jm_puti c1 hm rfl sh_173 rfl e274 ?_
     have k275 : M274.1 173 5 = b10 := (n274 173 5 (by decide)).trans k35
     exact jx_retv c2 hm rfl rfl ⟨rfl, hH274, hF274, (rx_end hsk (by omega) (by omega) (by omega) (fun j => hF274 174 j rfl) (hF274 173 3 rfl) (hF274 173 4 rfl) k274 ((n274 173 6 (by decide)).trans (k25.trans (by omega)))), ((hg.eq q25).eq q274)⟩
    refine jc_le c1 hm 96 rfl rfl (fun h28 => ?_) (fun h28 => ?_)
    ·
     exact J34 (by omega)
    refine jx_load c1 hm rfl rfl rfl rfl ?_
    refine jx_geti c1 hm rfl sh_173 rfl k25 ?_
    refine jx_load c1 hm rfl rfl rfl rfl ?_
    refine jx_geti c1 hm rfl sh_173 rfl k27 ?_
    refine jc_lt c1 hm 96 rfl rfl (fun h29 => ?_) (fun h29 => ?_)
    ·
     exact J34 (by omega)
    refine jx_load c1 hm rfl rfl rfl rfl ?_
    refine jx_load c1 hm rfl rfl rfl rfl ?_
    refine jx_geti c1 hm rfl sh_173 rfl k27 ?_
    obtain ⟨M30, e30, hH30, hF30, k30, n30, q30⟩ := mup hH25 hF25 (c := 173) (i := 6) (v := z5) (A := 0) (B := 940) (bs_28_3 _ _ (by omega) (by omega)) ⟨by omega, by omega⟩ (jin_of 1 rfl ⟨by omega, by omega⟩)
    refine jm_puti c1 hm rfl sh_173 rfl e30 ?_
    refine jx_load c1 hm rfl rfl rfl rfl ?_
    refine jy_ic c1 hm rfl (by decide) ?_
    obtain ⟨M31, e31, hH31, hF31, k31, n31, q31⟩ := mup hH30 hF30 (c := 173) (i := 7) (v := 1) (A := 0) (B := 4) (bs_28_4 _ _ (by omega) (by omega)) ⟨by omega, by omega⟩ (jin_of 2 rfl ⟨by omega, by omega⟩)
    refine jm_puti c1 hm rfl sh_173 rfl e31 ?_
    have k32 : M31.1 173 5 = b10 := (n31 173 5 (by decide)).trans ((n30 173 5 (by decide)).trans ((n25 173 5 (by decide)).trans k11))
    exact jx_retv c2 hm rfl rfl ⟨rfl, hH31, hF31, (rx_out hsk (by omega) (by omega) (by omega) (fun j => hF31 174 j rfl) (hF31 173 3 rfl) (hF31 173 4 rfl) k31 ((n31 173 6 (by decide)).trans (k30.trans (by omega)))), (((hg.eq q25).eq q30).eq q31)⟩
   refine jc_ge c1 hm 52 rfl rfl (fun h16 => ?_) (fun h16 => ?_)
   ·
    exact J24 (fun y => absurd y (by omega))
   refine jx_load c1 hm rfl rfl rfl rfl ?_
   refine jx_getr c1 hm rfl sh_173 rfl ?_
   refine jx_load c1 hm rfl rfl rfl rfl ?_
   refine jx_geti c1 hm rfl sh_173 rfl k11 ?_
   obtain ⟨z17, k18, lz17, uz17⟩ := hH7.ld (c := 174) (i := (b10).toNat) (A := 0) (B := 255) rfl
   refine jx_iald c1 hm rfl sh_174 ⟨by omega, by omega⟩ k18 ?_
   refine jy_bp c1 hm rfl (by decide) ?_
   refine jc_eq c1 hm 39 rfl rfl (fun h19 => ?_) (fun h19 => ?_)
   ·
    refine jx_load c1 hm rfl rfl rfl rfl ?_
    refine jx_dup c1 hm rfl rfl ?_
    refine jx_geti c1 hm rfl sh_173 rfl k11 ?_
    refine jy_ic c1 hm rfl (by decide) ?_
    refine jy_add c1 hm (b10 + 1) rfl (by omega) ?_
    obtain ⟨M20, e20, hH20, hF20, k20, n20, q20⟩ := mup hH7 hF7 (c := 173) (i := 5) (v := (b10 + 1)) (A := 0) (B := 940) (bs_28_3 _ _ (by omega) (by omega)) ⟨by omega, by omega⟩ (jin_of 0 rfl ⟨by omega, by omega⟩)
    refine jm_puti c1 hm rfl sh_173 rfl e20 ?_
    refine jx_goto c1 hm 0 rfl rfl ?_
    have k276 : M20.1 173 3 = z3 := (n20 173 3 (by decide)).trans k8
    have k277 : M20.1 173 4 = z5 := (n20 173 4 (by decide)).trans k9
    exact ihW14 M20 hH20 hF20 k276 k277 (b10 + 1) (by omega) k20 (SKR.cg (SKR.st (b := z17) hsk (by omega) (by omega) (by omega) (by rw [k11, ← hF7 174 (b10).toNat rfl]; exact k18) (by omega)) (by omega)) (hg.eq q20) (by omega)
   refine jx_load c1 hm rfl rfl rfl rfl ?_
   refine jx_getr c1 hm rfl sh_173 rfl ?_
   refine jx_load c1 hm rfl rfl rfl rfl ?_
   refine jx_geti c1 hm rfl sh_173 rfl k11 ?_
   refine jx_iald c1 hm rfl sh_174 ⟨by omega, by omega⟩ k18 ?_
   refine jy_bp c1 hm rfl (by decide) ?_
   refine jc_ne c1 hm 52 rfl rfl (fun h21 => ?_) (fun h21 => ?_)
   ·
    exact J24 (fun _ => by rw [k11, ← hF7 174 (b10).toNat rfl, k18]; omega)
   refine jx_load c1 hm rfl rfl rfl rfl ?_
   refine jx_dup c1 hm rfl rfl ?_
   refine jx_geti c1 hm rfl sh_173 rfl k11 ?_
   refine jy_ic c1 hm rfl (by decide) ?_
   refine jy_add c1 hm (b10 + 1) rfl (by omega) ?_
   obtain ⟨M22, e22, hH22, hF22, k22, n22, q22⟩ := mup hH7 hF7 (c := 173) (i := 5) (v := (b10 + 1)) (A := 0) (B := 940) (bs_28_3 _ _ (by omega) (by omega)) ⟨by omega, by omega⟩ (jin_of 0 rfl ⟨by omega, by omega⟩)
   refine jm_puti c1 hm rfl sh_173 rfl e22 ?_
   refine jx_goto c1 hm 0 rfl rfl ?_
   have k278 : M22.1 173 3 = z3 := (n22 173 3 (by decide)).trans k8
   have k279 : M22.1 173 4 = z5 := (n22 173 4 (by decide)).trans k9
   exact ihW14 M22 hH22 hF22 k278 k279 (b10 + 1) (by omega) k22 (SKR.cg (SKR.st (b := z17) hsk (by omega) (by omega) (by omega) (by rw [k11, ← hF7 174 (b10).toNat rfl]; exact k18) (by omega)) (by omega)) (hg.eq q22) (by omega)
 exact W14 ((-z1 + 940) + 1 : Int).toNat M0 hH0 hF0 k4 k6 z1 (by omega) k2 SKR.start (LFr.rf _ _) (by omega)
theorem ct_X12_speltp (X : Int) (hX : 0 ≤ X ∧ X ≤ 100000000) (M0 : JM) (hH0 : HI X M0) (a0 : Int) (ha0 : 0 ≤ a0 ∧ a0 ≤ 122) (a1 : Int) (ha1 : 0 ≤ a1 ∧ a1 ≤ 122) (a2 : Int) (ha2 : 0 ≤ a2 ∧ a2 ≤ 122) (a3 : Int) (ha3 : 0 ≤ a3 ∧ a3 ≤ 122) (a4 : Int) (ha4 : 0 ≤ a4 ∧ a4 ≤ 122) (a5 : Int) (ha5 : 0 ≤ a5 ∧ a5 ≤ 122) (a6 : Int) (ha6 : 0 ≤ a6 ∧ a6 ≤ 122) : JOk shp PJ 1 183 [.inl a0, .inl a1, .inl a2, .inl a3, .inl a4, .inl a5, .inl a6] M0 (jRl (fun v M' => M0 = M' ∧ LB v.toInt ∧ (v.toInt = spS a0 a1 a2 a3 a4 a5 a6))) := by
 refine ⟨jr_X12_spelt, pj_X12_spelt, fun F c1 c2 c3 => ?_⟩
 have hm := pj_X12_spelt
 change F 0 [some (.inl a0), some (.inl a1), some (.inl a2), some (.inl a3), some (.inl a4), some (.inl a5), some (.inl a6), none, none] [] M0
 refine jx_ldc2 c1 hm (v := 27) rfl (by decide) ?_
 refine jx_load c1 hm rfl rfl rfl rfl ?_
 refine jx_i2l c1 hm rfl (fun w1 ew1 => ?_)
 have tw1 : w1.toInt = a0 := jl_i2l ew1 (by omega)
 clear ew1
 refine jx_ldc2 c1 hm (v := 96) rfl (by decide) ?_
 refine jx_lop c1 hm rfl rfl (fun w2 ew2 => ?_)
 have tw2 : w2.toInt = w1.toInt - 96 := jl_sub ew2 rfl (by decide) (by omega)
 clear ew2
 refine jx_lop c1 hm rfl rfl (fun w3 ew3 => ?_)
 have tw3 : w3.toInt = 27 * w2.toInt := jl_mul ew3 (by decide) rfl (by omega)
 clear ew3
 refine jx_load c1 hm rfl rfl rfl rfl ?_
 refine jx_i2l c1 hm rfl (fun w4 ew4 => ?_)
 have tw4 : w4.toInt = a1 := jl_i2l ew4 (by omega)
 clear ew4
 refine jx_lop c1 hm rfl rfl (fun w5 ew5 => ?_)
 have tw5 : w5.toInt = w3.toInt + w4.toInt := jl_add ew5 rfl rfl (by omega)
 clear ew5
 refine jx_ldc2 c1 hm (v := 96) rfl (by decide) ?_
 refine jx_lop c1 hm rfl rfl (fun w6 ew6 => ?_)
 have tw6 : w6.toInt = w5.toInt - 96 := jl_sub ew6 rfl (by decide) (by omega)
 clear ew6
 refine jx_stor c1 hm (L' := [some (.inl a0), some (.inl a1), some (.inl a2), some (.inl a3), some (.inl a4), some (.inl a5), some (.inl a6), some (.inr (.inl w6)), none]) rfl rfl rfl rfl rfl ?_
 refine jx_load c1 hm rfl rfl rfl rfl ?_
 have J15 : ∀ (w12 : Int64) (h13 : -72672 ≤ w12.toInt ∧ w12.toInt ≤ 72672) (hs38 : w12.toInt = (spx (27 * (a0 - 96) + a1 - 96) a2)), F 38 [some (.inl a0), some (.inl a1), some (.inl a2), some (.inl a3), some (.inl a4), some (.inl a5), some (.inl a6), some (.inr (.inl w12)), none] [] M0 := by
  intro w12 h13 hs38
  refine jx_load c1 hm rfl rfl rfl rfl ?_
  have J24 : ∀ (w21 : Int64) (h22 : -1962240 ≤ w21.toInt ∧ w21.toInt ≤ 1962240) (hs57 : w21.toInt = (spx (spx (27 * (a0 - 96) + a1 - 96) a2) a3)), F 57 [some (.inl a0), some (.inl a1), some (.inl a2), some (.inl a3), some (.inl a4), some (.inl a5), some (.inl a6), some (.inr (.inl w21)), none] [] M0 := by
   intro w21 h22 hs57
   refine jx_load c1 hm rfl rfl rfl rfl ?_
   have J33 : ∀ (w30 : Int64) (h31 : -52980576 ≤ w30.toInt ∧ w30.toInt ≤ 52980576) (hs78 : w30.toInt = (spx (spx (spx (27 * (a0 - 96) + a1 - 96) a2) a3) a4)), F 78 [some (.inl a0), some (.inl a1), some (.inl a2), some (.inl a3), some (.inl a4), some (.inl a5), some (.inl a6), some (.inr (.inl w30)), none] [] M0 := by
    intro w30 h31 hs78
    refine jx_load c1 hm rfl rfl rfl rfl ?_
    have J42 : ∀ (w39 : Int64) (h40 : -1430475648 ≤ w39.toInt ∧ w39.toInt ≤ 1430475648) (hs99 : w39.toInt = (spx (spx (spx (spx (27 * (a0 - 96) + a1 - 96) a2) a3) a4) a5)), F 99 [some (.inl a0), some (.inl a1), some (.inl a2), some (.inl a3), some (.inl a4), some (.inl a5), some (.inl a6), some (.inr (.inl w39)), none] [] M0 := by
     intro w39 h40 hs99
     refine jx_load c1 hm rfl rfl rfl rfl ?_
     refine jz_le c1 hm 120 rfl rfl (fun h43 => ?_) (fun h43 => ?_)
     ·
      refine jx_load c1 hm rfl rfl rfl rfl ?_
      have bw39 : LB w39.toInt := by unfold LB; omega
      exact jx_retl c2 hm rfl rfl ⟨_, rfl, rfl, bw39, (by first | exact spx_y hs99 (by omega) (by omega) | exact spx_n hs99 (by omega) (by omega))⟩
     refine jx_ldc2 c1 hm (v := 27) rfl (by decide) ?_
     refine jx_load c1 hm rfl rfl rfl rfl ?_
     refine jx_lop c1 hm rfl rfl (fun w44 ew44 => ?_)
     have tw44 : w44.toInt = 27 * w39.toInt := jl_mul ew44 (by decide) rfl (by omega)
     clear ew44
     refine jx_load c1 hm rfl rfl rfl rfl ?_
     refine jx_i2l c1 hm rfl (fun w45 ew45 => ?_)
     have tw45 : w45.toInt = a6 := jl_i2l ew45 (by omega)
     clear ew45
     refine jx_lop c1 hm rfl rfl (fun w46 ew46 => ?_)
     have tw46 : w46.toInt = w44.toInt + w45.toInt := jl_add ew46 rfl rfl (by omega)
     clear ew46
     refine jx_ldc2 c1 hm (v := 96) rfl (by decide) ?_
     refine jx_lop c1 hm rfl rfl (fun w47 ew47 => ?_)
     have tw47 : w47.toInt = w46.toInt - 96 := jl_sub ew47 rfl (by decide) (by omega)
     clear ew47
     refine jx_stor c1 hm (L' := [some (.inl a0), some (.inl a1), some (.inl a2), some (.inl a3), some (.inl a4), some (.inl a5), some (.inl a6), some (.inr (.inl w47)), none]) rfl rfl rfl rfl rfl ?_
     refine jx_load c1 hm rfl rfl rfl rfl ?_
     have bw47 : LB w47.toInt := by unfold LB; omega
     exact jx_retl c2 hm rfl rfl ⟨_, rfl, rfl, bw47, (by first | exact spx_y hs99 (by omega) (by omega) | exact spx_n hs99 (by omega) (by omega))⟩
    refine jz_le c1 hm 99 rfl rfl (fun h34 => ?_) (fun h34 => ?_)
    ·
     exact J42 w30 (by omega) (by first | exact spx_y hs78 (by omega) (by omega) | exact spx_n hs78 (by omega) (by omega))
    refine jx_ldc2 c1 hm (v := 27) rfl (by decide) ?_
    refine jx_load c1 hm rfl rfl rfl rfl ?_
    refine jx_lop c1 hm rfl rfl (fun w35 ew35 => ?_)
    have tw35 : w35.toInt = 27 * w30.toInt := jl_mul ew35 (by decide) rfl (by omega)
    clear ew35
    refine jx_load c1 hm rfl rfl rfl rfl ?_
    refine jx_i2l c1 hm rfl (fun w36 ew36 => ?_)
    have tw36 : w36.toInt = a5 := jl_i2l ew36 (by omega)
    clear ew36
    refine jx_lop c1 hm rfl rfl (fun w37 ew37 => ?_)
    have tw37 : w37.toInt = w35.toInt + w36.toInt := jl_add ew37 rfl rfl (by omega)
    clear ew37
    refine jx_ldc2 c1 hm (v := 96) rfl (by decide) ?_
    refine jx_lop c1 hm rfl rfl (fun w38 ew38 => ?_)
    have tw38 : w38.toInt = w37.toInt - 96 := jl_sub ew38 rfl (by decide) (by omega)
    clear ew38
    refine jx_stor c1 hm (L' := [some (.inl a0), some (.inl a1), some (.inl a2), some (.inl a3), some (.inl a4), some (.inl a5), some (.inl a6), some (.inr (.inl w38)), none]) rfl rfl rfl rfl rfl ?_
    exact J42 w38 (by omega) (by first | exact spx_y hs78 (by omega) (by omega) | exact spx_n hs78 (by omega) (by omega))
   refine jz_le c1 hm 78 rfl rfl (fun h25 => ?_) (fun h25 => ?_)
   ·
    exact J33 w21 (by omega) (by first | exact spx_y hs57 (by omega) (by omega) | exact spx_n hs57 (by omega) (by omega))
   refine jx_ldc2 c1 hm (v := 27) rfl (by decide) ?_
   refine jx_load c1 hm rfl rfl rfl rfl ?_
   refine jx_lop c1 hm rfl rfl (fun w26 ew26 => ?_)
   have tw26 : w26.toInt = 27 * w21.toInt := jl_mul ew26 (by decide) rfl (by omega)
   clear ew26
   refine jx_load c1 hm rfl rfl rfl rfl ?_
   refine jx_i2l c1 hm rfl (fun w27 ew27 => ?_)
   have tw27 : w27.toInt = a4 := jl_i2l ew27 (by omega)
   clear ew27
   refine jx_lop c1 hm rfl rfl (fun w28 ew28 => ?_)
   have tw28 : w28.toInt = w26.toInt + w27.toInt := jl_add ew28 rfl rfl (by omega)
   clear ew28
   refine jx_ldc2 c1 hm (v := 96) rfl (by decide) ?_
   refine jx_lop c1 hm rfl rfl (fun w29 ew29 => ?_)
   have tw29 : w29.toInt = w28.toInt - 96 := jl_sub ew29 rfl (by decide) (by omega)
   clear ew29
   refine jx_stor c1 hm (L' := [some (.inl a0), some (.inl a1), some (.inl a2), some (.inl a3), some (.inl a4), some (.inl a5), some (.inl a6), some (.inr (.inl w29)), none]) rfl rfl rfl rfl rfl ?_
   exact J33 w29 (by omega) (by first | exact spx_y hs57 (by omega) (by omega) | exact spx_n hs57 (by omega) (by omega))
  refine jz_le c1 hm 57 rfl rfl (fun h16 => ?_) (fun h16 => ?_)
  ·
   exact J24 w12 (by omega) (by first | exact spx_y hs38 (by omega) (by omega) | exact spx_n hs38 (by omega) (by omega))
  refine jx_ldc2 c1 hm (v := 27) rfl (by decide) ?_
  refine jx_load c1 hm rfl rfl rfl rfl ?_
  refine jx_lop c1 hm rfl rfl (fun w17 ew17 => ?_)
  have tw17 : w17.toInt = 27 * w12.toInt := jl_mul ew17 (by decide) rfl (by omega)
  clear ew17
  refine jx_load c1 hm rfl rfl rfl rfl ?_
  refine jx_i2l c1 hm rfl (fun w18 ew18 => ?_)
  have tw18 : w18.toInt = a3 := jl_i2l ew18 (by omega)
  clear ew18
  refine jx_lop c1 hm rfl rfl (fun w19 ew19 => ?_)
  have tw19 : w19.toInt = w17.toInt + w18.toInt := jl_add ew19 rfl rfl (by omega)
  clear ew19
  refine jx_ldc2 c1 hm (v := 96) rfl (by decide) ?_
  refine jx_lop c1 hm rfl rfl (fun w20 ew20 => ?_)
  have tw20 : w20.toInt = w19.toInt - 96 := jl_sub ew20 rfl (by decide) (by omega)
  clear ew20
  refine jx_stor c1 hm (L' := [some (.inl a0), some (.inl a1), some (.inl a2), some (.inl a3), some (.inl a4), some (.inl a5), some (.inl a6), some (.inr (.inl w20)), none]) rfl rfl rfl rfl rfl ?_
  exact J24 w20 (by omega) (by first | exact spx_y hs38 (by omega) (by omega) | exact spx_n hs38 (by omega) (by omega))
 refine jz_le c1 hm 38 rfl rfl (fun h7 => ?_) (fun h7 => ?_)
 ·
  exact J15 w6 (by omega) (by first | exact spx_y (v := 27 * (a0 - 96) + a1 - 96) (W := 27 * (a0 - 96) + a1 - 96) rfl (by omega) (by omega) | exact spx_n (v := 27 * (a0 - 96) + a1 - 96) (W := 27 * (a0 - 96) + a1 - 96) rfl (by omega) (by omega))
 refine jx_ldc2 c1 hm (v := 27) rfl (by decide) ?_
 refine jx_load c1 hm rfl rfl rfl rfl ?_
 refine jx_lop c1 hm rfl rfl (fun w8 ew8 => ?_)
 have tw8 : w8.toInt = 27 * w6.toInt := jl_mul ew8 (by decide) rfl (by omega)
 clear ew8
 refine jx_load c1 hm rfl rfl rfl rfl ?_
 refine jx_i2l c1 hm rfl (fun w9 ew9 => ?_)
 have tw9 : w9.toInt = a2 := jl_i2l ew9 (by omega)
 clear ew9
 refine jx_lop c1 hm rfl rfl (fun w10 ew10 => ?_)
 have tw10 : w10.toInt = w8.toInt + w9.toInt := jl_add ew10 rfl rfl (by omega)
 clear ew10
 refine jx_ldc2 c1 hm (v := 96) rfl (by decide) ?_
 refine jx_lop c1 hm rfl rfl (fun w11 ew11 => ?_)
 have tw11 : w11.toInt = w10.toInt - 96 := jl_sub ew11 rfl (by decide) (by omega)
 clear ew11
 refine jx_stor c1 hm (L' := [some (.inl a0), some (.inl a1), some (.inl a2), some (.inl a3), some (.inl a4), some (.inl a5), some (.inl a6), some (.inr (.inl w11)), none]) rfl rfl rfl rfl rfl ?_
 exact J15 w11 (by omega) (by first | exact spx_y (v := 27 * (a0 - 96) + a1 - 96) (W := 27 * (a0 - 96) + a1 - 96) rfl (by omega) (by omega) | exact spx_n (v := 27 * (a0 - 96) + a1 - 96) (W := 27 * (a0 - 96) + a1 - 96) rfl (by omega) (by omega))
theorem ct_X12_wordOfp (X : Int) (hX : 0 ≤ X ∧ X ≤ 100000000) (M0 : JM) (hH0 : HI X M0) (a0 : Int) (ha0 : (-2147483648) ≤ a0 ∧ a0 ≤ 2147483647) : JOk shp PJ 2 201 [.inl a0] M0 (jRl (fun v M' => M0 = M' ∧ LB v.toInt ∧ (0 ≤ a0 ∧ a0 ≤ 23 → v.toInt = kwR.getD (a0).toNat 0))) := by
 refine ⟨jr_X12_wordOf, pj_X12_wordOf, fun F c1 c2 c3 => ?_⟩
 have hm := pj_X12_wordOf
 change F 0 [some (.inl a0)] [] M0
 refine jx_load c1 hm rfl rfl rfl rfl ?_
 by_cases h1 : a0 = 0
 ·
  refine jx_tswI c1 hm 108 rfl ⟨by omega, by omega⟩ (by rw [h1] <;> rfl) rfl ?_
  refine jy_bp c1 hm rfl (by decide) ?_
  refine jy_bp c1 hm rfl (by decide) ?_
  refine jy_bp c1 hm rfl (by decide) ?_
  refine jy_ic c1 hm rfl (by decide) ?_
  refine jy_ic c1 hm rfl (by decide) ?_
  refine jy_ic c1 hm rfl (by decide) ?_
  refine jy_ic c1 hm rfl (by decide) ?_
  refine jt_l c3 hm rfl rfl pj_X12_spelt rfl rfl rfl ((ct_X12_speltp X (by omega) M0 hH0 109 ⟨by omega, by omega⟩ 97 ⟨by omega, by omega⟩ 110 ⟨by omega, by omega⟩ 0 ⟨by omega, by omega⟩ 0 ⟨by omega, by omega⟩ 0 ⟨by omega, by omega⟩ 0 ⟨by omega, by omega⟩).le (by decide)) (fun w2 _ ⟨rfl, bw2, p3⟩ => ?_)
  exact jx_retl c2 hm rfl rfl ⟨_, rfl, rfl, bw2, (fun hk9 => by rw [show a0 = 0 by omega, p3]; rfl)⟩
 by_cases h4 : a0 = 1
 ·
  refine jx_tswI c1 hm 122 rfl ⟨by omega, by omega⟩ (by rw [h4] <;> rfl) rfl ?_
  refine jy_bp c1 hm rfl (by decide) ?_
  refine jy_bp c1 hm rfl (by decide) ?_
  refine jy_bp c1 hm rfl (by decide) ?_
  refine jy_bp c1 hm rfl (by decide) ?_
  refine jy_bp c1 hm rfl (by decide) ?_
  refine jy_bp c1 hm rfl (by decide) ?_
  refine jy_bp c1 hm rfl (by decide) ?_
  refine jt_l c3 hm rfl rfl pj_X12_spelt rfl rfl rfl ((ct_X12_speltp X (by omega) M0 hH0 102 ⟨by omega, by omega⟩ 111 ⟨by omega, by omega⟩ 114 ⟨by omega, by omega⟩ 102 ⟨by omega, by omega⟩ 101 ⟨by omega, by omega⟩ 105 ⟨by omega, by omega⟩ 116 ⟨by omega, by omega⟩).le (by decide)) (fun w5 _ ⟨rfl, bw5, p6⟩ => ?_)
  exact jx_retl c2 hm rfl rfl ⟨_, rfl, rfl, bw5, (fun hk9 => by rw [show a0 = 1 by omega, p6]; rfl)⟩
 by_cases h7 : a0 = 2
 ·
  refine jx_tswI c1 hm 140 rfl ⟨by omega, by omega⟩ (by rw [h7] <;> rfl) rfl ?_
  refine jy_bp c1 hm rfl (by decide) ?_
  refine jy_bp c1 hm rfl (by decide) ?_
  refine jy_bp c1 hm rfl (by decide) ?_
  refine jy_bp c1 hm rfl (by decide) ?_
  refine jy_bp c1 hm rfl (by decide) ?_
  refine jy_ic c1 hm rfl (by decide) ?_
  refine jy_ic c1 hm rfl (by decide) ?_
  refine jt_l c3 hm rfl rfl pj_X12_spelt rfl rfl rfl ((ct_X12_speltp X (by omega) M0 hH0 109 ⟨by omega, by omega⟩ 105 ⟨by omega, by omega⟩ 110 ⟨by omega, by omega⟩ 100 ⟨by omega, by omega⟩ 115 ⟨by omega, by omega⟩ 0 ⟨by omega, by omega⟩ 0 ⟨by omega, by omega⟩).le (by decide)) (fun w8 _ ⟨rfl, bw8, p9⟩ => ?_)
  exact jx_retl c2 hm rfl rfl ⟨_, rfl, rfl, bw8, (fun hk9 => by rw [show a0 = 2 by omega, p9]; rfl)⟩
 by_cases h10 : a0 = 3
 ·
  refine jx_tswI c1 hm 156 rfl ⟨by omega, by omega⟩ (by rw [h10] <;> rfl) rfl ?_
  refine jy_bp c1 hm rfl (by decide) ?_
  refine jy_bp c1 hm rfl (by decide) ?_
  refine jy_bp c1 hm rfl (by decide) ?_
  refine jy_bp c1 hm rfl (by decide) ?_
  refine jy_ic c1 hm rfl (by decide) ?_
  refine jy_ic c1 hm rfl (by decide) ?_
  refine jy_ic c1 hm rfl (by decide) ?_
  refine jt_l c3 hm rfl rfl pj_X12_spelt rfl rfl rfl ((ct_X12_speltp X (by omega) M0 hH0 103 ⟨by omega, by omega⟩ 111 ⟨by omega, by omega⟩ 111 ⟨by omega, by omega⟩ 100 ⟨by omega, by omega⟩ 0 ⟨by omega, by omega⟩ 0 ⟨by omega, by omega⟩ 0 ⟨by omega, by omega⟩).le (by decide)) (fun w11 _ ⟨rfl, bw11, p12⟩ => ?_)
  exact jx_retl c2 hm rfl rfl ⟨_, rfl, rfl, bw11, (fun hk9 => by rw [show a0 = 3 by omega, p12]; rfl)⟩
 by_cases h13 : a0 = 4
 ·
  refine jx_tswI c1 hm 171 rfl ⟨by omega, by omega⟩ (by rw [h13] <;> rfl) rfl ?_
  refine jy_bp c1 hm rfl (by decide) ?_
  refine jy_bp c1 hm rfl (by decide) ?_
  refine jy_bp c1 hm rfl (by decide) ?_
  refine jy_bp c1 hm rfl (by decide) ?_
  refine jy_ic c1 hm rfl (by decide) ?_
  refine jy_ic c1 hm rfl (by decide) ?_
  refine jy_ic c1 hm rfl (by decide) ?_
  refine jt_l c3 hm rfl rfl pj_X12_spelt rfl rfl rfl ((ct_X12_speltp X (by omega) M0 hH0 111 ⟨by omega, by omega⟩ 119 ⟨by omega, by omega⟩ 101 ⟨by omega, by omega⟩ 115 ⟨by omega, by omega⟩ 0 ⟨by omega, by omega⟩ 0 ⟨by omega, by omega⟩ 0 ⟨by omega, by omega⟩).le (by decide)) (fun w14 _ ⟨rfl, bw14, p15⟩ => ?_)
  exact jx_retl c2 hm rfl rfl ⟨_, rfl, rfl, bw14, (fun hk9 => by rw [show a0 = 4 by omega, p15]; rfl)⟩
 by_cases h16 : a0 = 5
 ·
  refine jx_tswI c1 hm 186 rfl ⟨by omega, by omega⟩ (by rw [h16] <;> rfl) rfl ?_
  refine jy_bp c1 hm rfl (by decide) ?_
  refine jy_bp c1 hm rfl (by decide) ?_
  refine jy_bp c1 hm rfl (by decide) ?_
  refine jy_bp c1 hm rfl (by decide) ?_
  refine jy_bp c1 hm rfl (by decide) ?_
  refine jy_ic c1 hm rfl (by decide) ?_
  refine jy_ic c1 hm rfl (by decide) ?_
  refine jt_l c3 hm rfl rfl pj_X12_spelt rfl rfl rfl ((ct_X12_speltp X (by omega) M0 hH0 119 ⟨by omega, by omega⟩ 101 ⟨by omega, by omega⟩ 97 ⟨by omega, by omega⟩ 114 ⟨by omega, by omega⟩ 115 ⟨by omega, by omega⟩ 0 ⟨by omega, by omega⟩ 0 ⟨by omega, by omega⟩).le (by decide)) (fun w17 _ ⟨rfl, bw17, p18⟩ => ?_)
  exact jx_retl c2 hm rfl rfl ⟨_, rfl, rfl, bw17, (fun hk9 => by rw [show a0 = 5 by omega, p18]; rfl)⟩
 by_cases h19 : a0 = 6
 ·
  refine jx_tswI c1 hm 202 rfl ⟨by omega, by omega⟩ (by rw [h19] <;> rfl) rfl ?_
  refine jy_bp c1 hm rfl (by decide) ?_
  refine jy_bp c1 hm rfl (by decide) ?_
  refine jy_bp c1 hm rfl (by decide) ?_
  refine jy_bp c1 hm rfl (by decide) ?_
  refine jy_bp c1 hm rfl (by decide) ?_
  refine jy_ic c1 hm rfl (by decide) ?_
  refine jy_ic c1 hm rfl (by decide) ?_
  refine jt_l c3 hm rfl rfl pj_X12_spelt rfl rfl rfl ((ct_X12_speltp X (by omega) M0 hH0 109 ⟨by omega, by omega⟩ 101 ⟨by omega, by omega⟩ 110 ⟨by omega, by omega⟩ 100 ⟨by omega, by omega⟩ 115 ⟨by omega, by omega⟩ 0 ⟨by omega, by omega⟩ 0 ⟨by omega, by omega⟩).le (by decide)) (fun w20 _ ⟨rfl, bw20, p21⟩ => ?_)
  exact jx_retl c2 hm rfl rfl ⟨_, rfl, rfl, bw20, (fun hk9 => by rw [show a0 = 6 by omega, p21]; rfl)⟩
 by_cases h22 : a0 = 7
 ·
  refine jx_tswI c1 hm 218 rfl ⟨by omega, by omega⟩ (by rw [h22] <;> rfl) rfl ?_
  refine jy_bp c1 hm rfl (by decide) ?_
  refine jy_bp c1 hm rfl (by decide) ?_
  refine jy_bp c1 hm rfl (by decide) ?_
  refine jy_bp c1 hm rfl (by decide) ?_
  refine jy_ic c1 hm rfl (by decide) ?_
  refine jy_ic c1 hm rfl (by decide) ?_
  refine jy_ic c1 hm rfl (by decide) ?_
  refine jt_l c3 hm rfl rfl pj_X12_spelt rfl rfl rfl ((ct_X12_speltp X (by omega) M0 hH0 100 ⟨by omega, by omega⟩ 111 ⟨by omega, by omega⟩ 101 ⟨by omega, by omega⟩ 115 ⟨by omega, by omega⟩ 0 ⟨by omega, by omega⟩ 0 ⟨by omega, by omega⟩ 0 ⟨by omega, by omega⟩).le (by decide)) (fun w23 _ ⟨rfl, bw23, p24⟩ => ?_)
  exact jx_retl c2 hm rfl rfl ⟨_, rfl, rfl, bw23, (fun hk9 => by rw [show a0 = 7 by omega, p24]; rfl)⟩
 by_cases h25 : a0 = 8
 ·
  refine jx_tswI c1 hm 233 rfl ⟨by omega, by omega⟩ (by rw [h25] <;> rfl) rfl ?_
  refine jy_bp c1 hm rfl (by decide) ?_
  refine jy_bp c1 hm rfl (by decide) ?_
  refine jy_bp c1 hm rfl (by decide) ?_
  refine jy_bp c1 hm rfl (by decide) ?_
  refine jy_ic c1 hm rfl (by decide) ?_
  refine jy_ic c1 hm rfl (by decide) ?_
  refine jy_ic c1 hm rfl (by decide) ?_
  refine jt_l c3 hm rfl rfl pj_X12_spelt rfl rfl rfl ((ct_X12_speltp X (by omega) M0 hH0 98 ⟨by omega, by omega⟩ 117 ⟨by omega, by omega⟩ 121 ⟨by omega, by omega⟩ 115 ⟨by omega, by omega⟩ 0 ⟨by omega, by omega⟩ 0 ⟨by omega, by omega⟩ 0 ⟨by omega, by omega⟩).le (by decide)) (fun w26 _ ⟨rfl, bw26, p27⟩ => ?_)
  exact jx_retl c2 hm rfl rfl ⟨_, rfl, rfl, bw26, (fun hk9 => by rw [show a0 = 8 by omega, p27]; rfl)⟩
 by_cases h28 : a0 = 9
 ·
  refine jx_tswI c1 hm 248 rfl ⟨by omega, by omega⟩ (by rw [h28] <;> rfl) rfl ?_
  refine jy_bp c1 hm rfl (by decide) ?_
  refine jy_bp c1 hm rfl (by decide) ?_
  refine jy_bp c1 hm rfl (by decide) ?_
  refine jy_bp c1 hm rfl (by decide) ?_
  refine jy_bp c1 hm rfl (by decide) ?_
  refine jy_ic c1 hm rfl (by decide) ?_
  refine jy_ic c1 hm rfl (by decide) ?_
  refine jt_l c3 hm rfl rfl pj_X12_spelt rfl rfl rfl ((ct_X12_speltp X (by omega) M0 hH0 108 ⟨by omega, by omega⟩ 101 ⟨by omega, by omega⟩ 110 ⟨by omega, by omega⟩ 100 ⟨by omega, by omega⟩ 115 ⟨by omega, by omega⟩ 0 ⟨by omega, by omega⟩ 0 ⟨by omega, by omega⟩).le (by decide)) (fun w29 _ ⟨rfl, bw29, p30⟩ => ?_)
  exact jx_retl c2 hm rfl rfl ⟨_, rfl, rfl, bw29, (fun hk9 => by rw [show a0 = 9 by omega, p30]; rfl)⟩
 by_cases h31 : a0 = 10
 ·
  refine jx_tswI c1 hm 264 rfl ⟨by omega, by omega⟩ (by rw [h31] <;> rfl) rfl ?_
  refine jy_bp c1 hm rfl (by decide) ?_
  refine jy_bp c1 hm rfl (by decide) ?_
  refine jy_bp c1 hm rfl (by decide) ?_
  refine jy_bp c1 hm rfl (by decide) ?_
  refine jy_bp c1 hm rfl (by decide) ?_
  refine jy_bp c1 hm rfl (by decide) ?_
  refine jy_ic c1 hm rfl (by decide) ?_
  refine jt_l c3 hm rfl rfl pj_X12_spelt rfl rfl rfl ((ct_X12_speltp X (by omega) M0 hH0 114 ⟨by omega, by omega⟩ 101 ⟨by omega, by omega⟩ 112 ⟨by omega, by omega⟩ 97 ⟨by omega, by omega⟩ 121 ⟨by omega, by omega⟩ 115 ⟨by omega, by omega⟩ 0 ⟨by omega, by omega⟩).le (by decide)) (fun w32 _ ⟨rfl, bw32, p33⟩ => ?_)
  exact jx_retl c2 hm rfl rfl ⟨_, rfl, rfl, bw32, (fun hk9 => by rw [show a0 = 10 by omega, p33]; rfl)⟩
 by_cases h34 : a0 = 11
 ·
  refine jx_tswI c1 hm 281 rfl ⟨by omega, by omega⟩ (by rw [h34] <;> rfl) rfl ?_
  refine jy_bp c1 hm rfl (by decide) ?_
  refine jy_bp c1 hm rfl (by decide) ?_
  refine jy_bp c1 hm rfl (by decide) ?_
  refine jy_bp c1 hm rfl (by decide) ?_
  refine jy_bp c1 hm rfl (by decide) ?_
  refine jy_bp c1 hm rfl (by decide) ?_
  refine jy_ic c1 hm rfl (by decide) ?_
  refine jt_l c3 hm rfl rfl pj_X12_spelt rfl rfl rfl ((ct_X12_speltp X (by omega) M0 hH0 115 ⟨by omega, by omega⟩ 116 ⟨by omega, by omega⟩ 114 ⟨by omega, by omega⟩ 105 ⟨by omega, by omega⟩ 107 ⟨by omega, by omega⟩ 101 ⟨by omega, by omega⟩ 0 ⟨by omega, by omega⟩).le (by decide)) (fun w35 _ ⟨rfl, bw35, p36⟩ => ?_)
  exact jx_retl c2 hm rfl rfl ⟨_, rfl, rfl, bw35, (fun hk9 => by rw [show a0 = 11 by omega, p36]; rfl)⟩
 by_cases h37 : a0 = 12
 ·
  refine jx_tswI c1 hm 298 rfl ⟨by omega, by omega⟩ (by rw [h37] <;> rfl) rfl ?_
  refine jy_bp c1 hm rfl (by decide) ?_
  refine jy_bp c1 hm rfl (by decide) ?_
  refine jy_bp c1 hm rfl (by decide) ?_
  refine jy_bp c1 hm rfl (by decide) ?_
  refine jy_ic c1 hm rfl (by decide) ?_
  refine jy_ic c1 hm rfl (by decide) ?_
  refine jy_ic c1 hm rfl (by decide) ?_
  refine jt_l c3 hm rfl rfl pj_X12_spelt rfl rfl rfl ((ct_X12_speltp X (by omega) M0 hH0 119 ⟨by omega, by omega⟩ 101 ⟨by omega, by omega⟩ 101 ⟨by omega, by omega⟩ 107 ⟨by omega, by omega⟩ 0 ⟨by omega, by omega⟩ 0 ⟨by omega, by omega⟩ 0 ⟨by omega, by omega⟩).le (by decide)) (fun w38 _ ⟨rfl, bw38, p39⟩ => ?_)
  exact jx_retl c2 hm rfl rfl ⟨_, rfl, rfl, bw38, (fun hk9 => by rw [show a0 = 12 by omega, p39]; rfl)⟩
 by_cases h40 : a0 = 13
 ·
  refine jx_tswI c1 hm 313 rfl ⟨by omega, by omega⟩ (by rw [h40] <;> rfl) rfl ?_
  refine jy_bp c1 hm rfl (by decide) ?_
  refine jy_bp c1 hm rfl (by decide) ?_
  refine jy_ic c1 hm rfl (by decide) ?_
  refine jy_ic c1 hm rfl (by decide) ?_
  refine jy_ic c1 hm rfl (by decide) ?_
  refine jy_ic c1 hm rfl (by decide) ?_
  refine jy_ic c1 hm rfl (by decide) ?_
  refine jt_l c3 hm rfl rfl pj_X12_spelt rfl rfl rfl ((ct_X12_speltp X (by omega) M0 hH0 111 ⟨by omega, by omega⟩ 114 ⟨by omega, by omega⟩ 0 ⟨by omega, by omega⟩ 0 ⟨by omega, by omega⟩ 0 ⟨by omega, by omega⟩ 0 ⟨by omega, by omega⟩ 0 ⟨by omega, by omega⟩).le (by decide)) (fun w41 _ ⟨rfl, bw41, p42⟩ => ?_)
  exact jx_retl c2 hm rfl rfl ⟨_, rfl, rfl, bw41, (fun hk9 => by rw [show a0 = 13 by omega, p42]; rfl)⟩
 by_cases h43 : a0 = 14
 ·
  refine jx_tswI c1 hm 326 rfl ⟨by omega, by omega⟩ (by rw [h43] <;> rfl) rfl ?_
  refine jy_bp c1 hm rfl (by decide) ?_
  refine jy_bp c1 hm rfl (by decide) ?_
  refine jy_bp c1 hm rfl (by decide) ?_
  refine jy_ic c1 hm rfl (by decide) ?_
  refine jy_ic c1 hm rfl (by decide) ?_
  refine jy_ic c1 hm rfl (by decide) ?_
  refine jy_ic c1 hm rfl (by decide) ?_
  refine jt_l c3 hm rfl rfl pj_X12_spelt rfl rfl rfl ((ct_X12_speltp X (by omega) M0 hH0 97 ⟨by omega, by omega⟩ 110 ⟨by omega, by omega⟩ 100 ⟨by omega, by omega⟩ 0 ⟨by omega, by omega⟩ 0 ⟨by omega, by omega⟩ 0 ⟨by omega, by omega⟩ 0 ⟨by omega, by omega⟩).le (by decide)) (fun w44 _ ⟨rfl, bw44, p45⟩ => ?_)
  exact jx_retl c2 hm rfl rfl ⟨_, rfl, rfl, bw44, (fun hk9 => by rw [show a0 = 14 by omega, p45]; rfl)⟩
 by_cases h46 : a0 = 15
 ·
  refine jx_tswI c1 hm 340 rfl ⟨by omega, by omega⟩ (by rw [h46] <;> rfl) rfl ?_
  refine jy_bp c1 hm rfl (by decide) ?_
  refine jy_bp c1 hm rfl (by decide) ?_
  refine jy_bp c1 hm rfl (by decide) ?_
  refine jy_ic c1 hm rfl (by decide) ?_
  refine jy_ic c1 hm rfl (by decide) ?_
  refine jy_ic c1 hm rfl (by decide) ?_
  refine jy_ic c1 hm rfl (by decide) ?_
  refine jt_l c3 hm rfl rfl pj_X12_spelt rfl rfl rfl ((ct_X12_speltp X (by omega) M0 hH0 110 ⟨by omega, by omega⟩ 111 ⟨by omega, by omega⟩ 116 ⟨by omega, by omega⟩ 0 ⟨by omega, by omega⟩ 0 ⟨by omega, by omega⟩ 0 ⟨by omega, by omega⟩ 0 ⟨by omega, by omega⟩).le (by decide)) (fun w47 _ ⟨rfl, bw47, p48⟩ => ?_)
  exact jx_retl c2 hm rfl rfl ⟨_, rfl, rfl, bw47, (fun hk9 => by rw [show a0 = 15 by omega, p48]; rfl)⟩
 by_cases h49 : a0 = 16
 ·
  refine jx_tswI c1 hm 354 rfl ⟨by omega, by omega⟩ (by rw [h49] <;> rfl) rfl ?_
  refine jy_bp c1 hm rfl (by decide) ?_
  refine jy_bp c1 hm rfl (by decide) ?_
  refine jy_bp c1 hm rfl (by decide) ?_
  refine jy_bp c1 hm rfl (by decide) ?_
  refine jy_bp c1 hm rfl (by decide) ?_
  refine jy_ic c1 hm rfl (by decide) ?_
  refine jy_ic c1 hm rfl (by decide) ?_
  refine jt_l c3 hm rfl rfl pj_X12_spelt rfl rfl rfl ((ct_X12_speltp X (by omega) M0 hH0 112 ⟨by omega, by omega⟩ 114 ⟨by omega, by omega⟩ 111 ⟨by omega, by omega⟩ 117 ⟨by omega, by omega⟩ 100 ⟨by omega, by omega⟩ 0 ⟨by omega, by omega⟩ 0 ⟨by omega, by omega⟩).le (by decide)) (fun w50 _ ⟨rfl, bw50, p51⟩ => ?_)
  exact jx_retl c2 hm rfl rfl ⟨_, rfl, rfl, bw50, (fun hk9 => by rw [show a0 = 16 by omega, p51]; rfl)⟩
 by_cases h52 : a0 = 17
 ·
  refine jx_tswI c1 hm 370 rfl ⟨by omega, by omega⟩ (by rw [h52] <;> rfl) rfl ?_
  refine jy_bp c1 hm rfl (by decide) ?_
  refine jy_bp c1 hm rfl (by decide) ?_
  refine jy_bp c1 hm rfl (by decide) ?_
  refine jy_bp c1 hm rfl (by decide) ?_
  refine jy_bp c1 hm rfl (by decide) ?_
  refine jy_ic c1 hm rfl (by decide) ?_
  refine jy_ic c1 hm rfl (by decide) ?_
  refine jt_l c3 hm rfl rfl pj_X12_spelt rfl rfl rfl ((ct_X12_speltp X (by omega) M0 hH0 111 ⟨by omega, by omega⟩ 119 ⟨by omega, by omega⟩ 105 ⟨by omega, by omega⟩ 110 ⟨by omega, by omega⟩ 103 ⟨by omega, by omega⟩ 0 ⟨by omega, by omega⟩ 0 ⟨by omega, by omega⟩).le (by decide)) (fun w53 _ ⟨rfl, bw53, p54⟩ => ?_)
  exact jx_retl c2 hm rfl rfl ⟨_, rfl, rfl, bw53, (fun hk9 => by rw [show a0 = 17 by omega, p54]; rfl)⟩
 by_cases h55 : a0 = 18
 ·
  refine jx_tswI c1 hm 386 rfl ⟨by omega, by omega⟩ (by rw [h55] <;> rfl) rfl ?_
  refine jy_bp c1 hm rfl (by decide) ?_
  refine jy_bp c1 hm rfl (by decide) ?_
  refine jy_bp c1 hm rfl (by decide) ?_
  refine jy_ic c1 hm rfl (by decide) ?_
  refine jy_ic c1 hm rfl (by decide) ?_
  refine jy_ic c1 hm rfl (by decide) ?_
  refine jy_ic c1 hm rfl (by decide) ?_
  refine jt_l c3 hm rfl rfl pj_X12_spelt rfl rfl rfl ((ct_X12_speltp X (by omega) M0 hH0 104 ⟨by omega, by omega⟩ 97 ⟨by omega, by omega⟩ 115 ⟨by omega, by omega⟩ 0 ⟨by omega, by omega⟩ 0 ⟨by omega, by omega⟩ 0 ⟨by omega, by omega⟩ 0 ⟨by omega, by omega⟩).le (by decide)) (fun w56 _ ⟨rfl, bw56, p57⟩ => ?_)
  exact jx_retl c2 hm rfl rfl ⟨_, rfl, rfl, bw56, (fun hk9 => by rw [show a0 = 18 by omega, p57]; rfl)⟩
 by_cases h58 : a0 = 19
 ·
  refine jx_tswI c1 hm 400 rfl ⟨by omega, by omega⟩ (by rw [h58] <;> rfl) rfl ?_
  refine jy_bp c1 hm rfl (by decide) ?_
  refine jy_bp c1 hm rfl (by decide) ?_
  refine jy_bp c1 hm rfl (by decide) ?_
  refine jy_ic c1 hm rfl (by decide) ?_
  refine jy_ic c1 hm rfl (by decide) ?_
  refine jy_ic c1 hm rfl (by decide) ?_
  refine jy_ic c1 hm rfl (by decide) ?_
  refine jt_l c3 hm rfl rfl pj_X12_spelt rfl rfl rfl ((ct_X12_speltp X (by omega) M0 hH0 100 ⟨by omega, by omega⟩ 105 ⟨by omega, by omega⟩ 100 ⟨by omega, by omega⟩ 0 ⟨by omega, by omega⟩ 0 ⟨by omega, by omega⟩ 0 ⟨by omega, by omega⟩ 0 ⟨by omega, by omega⟩).le (by decide)) (fun w59 _ ⟨rfl, bw59, p60⟩ => ?_)
  exact jx_retl c2 hm rfl rfl ⟨_, rfl, rfl, bw59, (fun hk9 => by rw [show a0 = 19 by omega, p60]; rfl)⟩
 by_cases h61 : a0 = 20
 ·
  refine jx_tswI c1 hm 414 rfl ⟨by omega, by omega⟩ (by rw [h61] <;> rfl) rfl ?_
  refine jy_bp c1 hm rfl (by decide) ?_
  refine jy_bp c1 hm rfl (by decide) ?_
  refine jy_bp c1 hm rfl (by decide) ?_
  refine jy_bp c1 hm rfl (by decide) ?_
  refine jy_bp c1 hm rfl (by decide) ?_
  refine jy_ic c1 hm rfl (by decide) ?_
  refine jy_ic c1 hm rfl (by decide) ?_
  refine jt_l c3 hm rfl rfl pj_X12_spelt rfl rfl rfl ((ct_X12_speltp X (by omega) M0 hH0 112 ⟨by omega, by omega⟩ 114 ⟨by omega, by omega⟩ 105 ⟨by omega, by omega⟩ 100 ⟨by omega, by omega⟩ 101 ⟨by omega, by omega⟩ 0 ⟨by omega, by omega⟩ 0 ⟨by omega, by omega⟩).le (by decide)) (fun w62 _ ⟨rfl, bw62, p63⟩ => ?_)
  exact jx_retl c2 hm rfl rfl ⟨_, rfl, rfl, bw62, (fun hk9 => by rw [show a0 = 20 by omega, p63]; rfl)⟩
 by_cases h64 : a0 = 21
 ·
  refine jx_tswI c1 hm 430 rfl ⟨by omega, by omega⟩ (by rw [h64] <;> rfl) rfl ?_
  refine jy_bp c1 hm rfl (by decide) ?_
  refine jy_bp c1 hm rfl (by decide) ?_
  refine jy_bp c1 hm rfl (by decide) ?_
  refine jy_bp c1 hm rfl (by decide) ?_
  refine jy_bp c1 hm rfl (by decide) ?_
  refine jy_bp c1 hm rfl (by decide) ?_
  refine jy_ic c1 hm rfl (by decide) ?_
  refine jt_l c3 hm rfl rfl pj_X12_spelt rfl rfl rfl ((ct_X12_speltp X (by omega) M0 hH0 99 ⟨by omega, by omega⟩ 114 ⟨by omega, by omega⟩ 101 ⟨by omega, by omega⟩ 100 ⟨by omega, by omega⟩ 105 ⟨by omega, by omega⟩ 116 ⟨by omega, by omega⟩ 0 ⟨by omega, by omega⟩).le (by decide)) (fun w65 _ ⟨rfl, bw65, p66⟩ => ?_)
  exact jx_retl c2 hm rfl rfl ⟨_, rfl, rfl, bw65, (fun hk9 => by rw [show a0 = 21 by omega, p66]; rfl)⟩
 by_cases h67 : a0 = 22
 ·
  refine jx_tswI c1 hm 447 rfl ⟨by omega, by omega⟩ (by rw [h67] <;> rfl) rfl ?_
  refine jy_bp c1 hm rfl (by decide) ?_
  refine jy_bp c1 hm rfl (by decide) ?_
  refine jy_bp c1 hm rfl (by decide) ?_
  refine jy_bp c1 hm rfl (by decide) ?_
  refine jy_bp c1 hm rfl (by decide) ?_
  refine jy_ic c1 hm rfl (by decide) ?_
  refine jy_ic c1 hm rfl (by decide) ?_
  refine jt_l c3 hm rfl rfl pj_X12_spelt rfl rfl rfl ((ct_X12_speltp X (by omega) M0 hH0 100 ⟨by omega, by omega⟩ 101 ⟨by omega, by omega⟩ 98 ⟨by omega, by omega⟩ 116 ⟨by omega, by omega⟩ 115 ⟨by omega, by omega⟩ 0 ⟨by omega, by omega⟩ 0 ⟨by omega, by omega⟩).le (by decide)) (fun w68 _ ⟨rfl, bw68, p69⟩ => ?_)
  exact jx_retl c2 hm rfl rfl ⟨_, rfl, rfl, bw68, (fun hk9 => by rw [show a0 = 22 by omega, p69]; rfl)⟩
 refine jx_tswO c1 hm 463 rfl (by omega) rfl ?_
 refine jy_bp c1 hm rfl (by decide) ?_
 refine jy_bp c1 hm rfl (by decide) ?_
 refine jy_bp c1 hm rfl (by decide) ?_
 refine jy_bp c1 hm rfl (by decide) ?_
 refine jy_bp c1 hm rfl (by decide) ?_
 refine jy_bp c1 hm rfl (by decide) ?_
 refine jy_ic c1 hm rfl (by decide) ?_
 refine jt_l c3 hm rfl rfl pj_X12_spelt rfl rfl rfl ((ct_X12_speltp X (by omega) M0 hH0 110 ⟨by omega, by omega⟩ 117 ⟨by omega, by omega⟩ 109 ⟨by omega, by omega⟩ 98 ⟨by omega, by omega⟩ 101 ⟨by omega, by omega⟩ 114 ⟨by omega, by omega⟩ 0 ⟨by omega, by omega⟩).le (by decide)) (fun w70 _ ⟨rfl, bw70, p71⟩ => ?_)
 exact jx_retl c2 hm rfl rfl ⟨_, rfl, rfl, bw70, (fun hk9 => by rw [show a0 = 23 by omega, p71]; rfl)⟩
theorem ct_X12_isWord_173p (X : Int) (hX : 0 ≤ X ∧ X ≤ 100000000) (M0 : JM) (hH0 : HI X M0) (a0 : Int) (ha0 : 0 ≤ a0 ∧ a0 ≤ 23) : JOk shp PJ 3 124 [.inr (.inr (.inl 173)), .inl a0] M0 (jRi (fun v M' => M0 = M' ∧ 0 ≤ v ∧ v ≤ 1 ∧ (v = 1 → WD M0 a0) ∧ (v = 1 ∨ ¬ WD M0 a0))) := by
 refine ⟨jr_X12_isWord, pj_X12_isWord, fun F c1 c2 c3 => ?_⟩
 have hm := pj_X12_isWord
 change F 0 [some (.inr (.inr (.inl 173))), some (.inl a0)] [] M0
 refine jx_load c1 hm rfl rfl rfl rfl ?_
 obtain ⟨z1, k2, lz1, uz1⟩ := hH0.ld (c := 173) (i := 7) (A := 0) (B := 4) (bs_28_4 _ _ (by omega) (by omega))
 refine jx_geti c1 hm rfl sh_173 rfl k2 ?_
 refine jy_ic c1 hm rfl (by decide) ?_
 refine jc_ne c1 hm 24 rfl rfl (fun h3 => ?_) (fun h3 => ?_)
 ·
  refine jy_ic c1 hm rfl (by decide) ?_
  exact jx_retz c2 hm rfl rfl ⟨by omega, by omega⟩ ⟨_, rfl, rfl, by omega, by omega, (fun y => absurd y (by omega)), (Or.inr (fun y => absurd y.1 (by omega)))⟩
 refine jx_load c1 hm rfl rfl rfl rfl ?_
 obtain ⟨w4, kw4⟩ : ∃ w, M0.2 173 12 = w := ⟨_, rfl⟩
 have bw4 : LB w4.toInt := kw4 ▸ hH0.2.1 173 12 rfl
 refine jx_getl c1 hm rfl sh_173 rfl kw4 ?_
 refine jx_load c1 hm rfl rfl rfl rfl ?_
 refine jt_l c3 hm rfl rfl pj_X12_wordOf rfl rfl rfl ((ct_X12_wordOfp X (by omega) M0 hH0 a0 ⟨by omega, by omega⟩).le (by decide)) (fun w5 _ ⟨rfl, bw5, p6⟩ => ?_)
 refine jx_lcmp c1 hm rfl (fun z7 lz7 uz7 ez7 fz7 => ?_)
 skip
 refine jz_ne c1 hm 24 rfl rfl (fun h8 => ?_) (fun h8 => ?_)
 ·
  refine jy_ic c1 hm rfl (by decide) ?_
  exact jx_retz c2 hm rfl rfl ⟨by omega, by omega⟩ ⟨_, rfl, rfl, by omega, by omega, (fun y => absurd y (by omega)), (Or.inr (fun y => absurd (ez7.mpr (Int64.toInt_inj.mp (by rw [p6 (by omega), ← y.2, kw4]))) (by omega)))⟩
 refine jy_ic c1 hm rfl (by decide) ?_
 refine jx_goto c1 hm 25 rfl rfl ?_
 exact jx_retz c2 hm rfl rfl ⟨by omega, by omega⟩ ⟨_, rfl, rfl, by omega, by omega, (fun _ => ⟨by omega, by rw [kw4, ez7.mp (by omega)]; exact p6 (by omega)⟩), (Or.inl rfl)⟩
theorem ct_X12_isName_173p (X : Int) (hX : 0 ≤ X ∧ X ≤ 100000000) (M0 : JM) (hH0 : HI X M0)  : JOk shp PJ 3 121 [.inr (.inr (.inl 173))] M0 (jRi (fun v M' => M0 = M' ∧ 0 ≤ v ∧ v ≤ 1 ∧ (v = 1 → M0.1 173 7 = 2 ∧ keyS (M0.2 173 12).toInt = -1) ∧ (v = 1 ∨ M0.1 173 7 ≠ 2 ∨ 0 ≤ keyS (M0.2 173 12).toInt))) := by
 refine ⟨jr_X12_isName, pj_X12_isName, fun F c1 c2 c3 => ?_⟩
 have hm := pj_X12_isName
 change F 0 [some (.inr (.inr (.inl 173))), none] [] M0
 obtain ⟨z1, k2, lz1, uz1⟩ := hH0.ld (c := 173) (i := 7) (A := 0) (B := 4) (bs_28_4 _ _ (by omega) (by omega))
 refine jx_load c1 hm rfl rfl rfl rfl ?_
 refine jx_geti c1 hm rfl sh_173 rfl k2 ?_
 refine jy_ic c1 hm rfl (by decide) ?_
 refine jc_eq c1 hm 10 rfl rfl (fun h3 => ?_) (fun h3 => ?_)
 ·
  refine jy_ic c1 hm rfl (by decide) ?_
  refine jx_stor c1 hm (L' := [some (.inr (.inr (.inl 173))), some (.inl 0)]) rfl rfl rfl rfl rfl ?_
  have W6 : ∀ (n7 : Nat) (b4 : Int) (hb4 : 0 ≤ b4 ∧ b4 ≤ 24) (hky : keyN (M0.2 173 12).toInt (b4).toNat = -1), (-b4 + 24) < (n7 : Int) → F 12 [some (.inr (.inr (.inl 173))), some (.inl b4)] [] M0 := by
   intro n7
   induction n7 with
   | zero => intros; omega
   | succ n7 ihW6 =>
    intro b4 hb4 hky hrW6
    refine jx_load c1 hm rfl rfl rfl rfl ?_
    refine jy_bp c1 hm rfl (by decide) ?_
    refine jc_gt c1 hm 38 rfl rfl (fun h8 => ?_) (fun h8 => ?_)
    ·
     refine jy_ic c1 hm rfl (by decide) ?_
     exact jx_retz c2 hm rfl rfl ⟨by omega, by omega⟩ ⟨_, rfl, rfl, by omega, by omega, (fun _ => ⟨by omega, by have y9 := hky; rw [show b4 = 24 by omega] at y9; exact y9⟩), (Or.inl rfl)⟩
    refine jx_load c1 hm rfl rfl rfl rfl ?_
    obtain ⟨w9, kw9⟩ : ∃ w, M0.2 173 12 = w := ⟨_, rfl⟩
    have bw9 : LB w9.toInt := kw9 ▸ hH0.2.1 173 12 rfl
    refine jx_getl c1 hm rfl sh_173 rfl kw9 ?_
    refine jx_load c1 hm rfl rfl rfl rfl ?_
    refine jt_l c3 hm rfl rfl pj_X12_wordOf rfl rfl rfl ((ct_X12_wordOfp X (by omega) M0 hH0 b4 ⟨by omega, by omega⟩).le (by decide)) (fun w10 _ ⟨rfl, bw10, p11⟩ => ?_)
    refine jx_lcmp c1 hm rfl (fun z12 lz12 uz12 ez12 fz12 => ?_)
    skip
    refine jz_ne c1 hm 32 rfl rfl (fun h13 => ?_) (fun h13 => ?_)
    ·
     refine jx_iinc c1 hm (v := (b4 + 1)) (L' := [some (.inr (.inr (.inl 173))), some (.inl (b4 + 1))]) rfl rfl (by omega) (by omega) rfl ?_
     refine jx_goto c1 hm 12 rfl rfl ?_
     exact ihW6 (b4 + 1) (by omega) (keyN_ne hky (by omega) (fun y => absurd (ez12.mpr (Int64.toInt_inj.mp (by rw [p11 (by omega), y, kw9]))) (by omega))) (by omega)
    refine jy_ic c1 hm rfl (by decide) ?_
    exact jx_retz c2 hm rfl rfl ⟨by omega, by omega⟩ ⟨_, rfl, rfl, by omega, by omega, (fun y => absurd y (by omega)), (Or.inr (Or.inr (by rw [keyS_ge (i := b4) ⟨by omega, by omega⟩ (by rw [← p11 (by omega), kw9, ez12.mp (by omega)])]; omega)))⟩
  exact W6 (24 + 1 : Int).toNat 0 (by omega) rfl (by omega)
 refine jy_ic c1 hm rfl (by decide) ?_
 exact jx_retz c2 hm rfl rfl ⟨by omega, by omega⟩ ⟨_, rfl, rfl, by omega, by omega, (fun y => absurd y (by omega)), (Or.inr (Or.inl (by omega)))⟩
theorem ct_X12_isSign_173p (X : Int) (hX : 0 ≤ X ∧ X ≤ 100000000) (M0 : JM) (hH0 : HI X M0) (a0 : Int) (ha0 : (-2147483648) ≤ a0 ∧ a0 ≤ 2147483647) : JOk shp PJ 1 123 [.inr (.inr (.inl 173)), .inl a0] M0 (jRi (fun v M' => M0 = M' ∧ 0 ≤ v ∧ v ≤ 1 ∧ (v = 1 → M0.1 173 7 = 4 ∧ M0.1 173 9 = a0) ∧ (v = 1 ∨ M0.1 173 7 ≠ 4 ∨ M0.1 173 9 ≠ a0))) := by
 refine ⟨jr_X12_isSign, pj_X12_isSign, fun F c1 c2 c3 => ?_⟩
 have hm := pj_X12_isSign
 change F 0 [some (.inr (.inr (.inl 173))), some (.inl a0)] [] M0
 obtain ⟨z1, k2, lz1, uz1⟩ := hH0.ld (c := 173) (i := 7) (A := 0) (B := 4) (bs_28_4 _ _ (by omega) (by omega))
 obtain ⟨z3, k4, lz3, uz3⟩ := hH0.ld (c := 173) (i := 9) (A := (-2147483648)) (B := 2147483647) (bs_28_5 _ _ (by omega) (by omega))
 refine jx_load c1 hm rfl rfl rfl rfl ?_
 refine jx_geti c1 hm rfl sh_173 rfl k2 ?_
 refine jy_ic c1 hm rfl (by decide) ?_
 refine jc_ne c1 hm 20 rfl rfl (fun h5 => ?_) (fun h5 => ?_)
 ·
  refine jy_ic c1 hm rfl (by decide) ?_
  exact jx_retz c2 hm rfl rfl ⟨by omega, by omega⟩ ⟨_, rfl, rfl, by omega, by omega, (by omega), (by omega)⟩
 refine jx_load c1 hm rfl rfl rfl rfl ?_
 refine jx_geti c1 hm rfl sh_173 rfl k4 ?_
 refine jx_load c1 hm rfl rfl rfl rfl ?_
 refine jc_ne c1 hm 20 rfl rfl (fun h6 => ?_) (fun h6 => ?_)
 ·
  refine jy_ic c1 hm rfl (by decide) ?_
  exact jx_retz c2 hm rfl rfl ⟨by omega, by omega⟩ ⟨_, rfl, rfl, by omega, by omega, (by omega), (by omega)⟩
 refine jy_ic c1 hm rfl (by decide) ?_
 refine jx_goto c1 hm 21 rfl rfl ?_
 exact jx_retz c2 hm rfl rfl ⟨by omega, by omega⟩ ⟨_, rfl, rfl, by omega, by omega, (by omega), (by omega)⟩
def ml_X12_bad_173p : List (Nat × (Nat × Nat)) := []
def md_X12_bad_173p : List (Nat × (Nat × Nat)) := [(173, (10, 10)), (173, (11, 11))]
theorem ct_X12_bad_173p (X : Int) (hX : 0 ≤ X ∧ X ≤ 100000000) (M0 : JM) (hH0 : HI X M0) (a0 : Int) (ha0 : (-2147483648) ≤ a0 ∧ a0 ≤ 2147483647) : JOk shp PJ 1 81 [.inr (.inr (.inl 173)), .inl a0] M0 (jRi (fun v M' => HI X M' ∧ Fr md_X12_bad_173p M0 M' ∧ 0 ≤ v ∧ v ≤ 1 ∧ (v = 0) ∧ (M'.1 173 11 = M0.1 173 6) ∧ (LFr ml_X12_bad_173p M0 M'))) := by
 refine ⟨jr_X12_bad, pj_X12_bad, fun F c1 c2 c3 => ?_⟩
 have hm := pj_X12_bad
 change F 0 [some (.inr (.inr (.inl 173))), some (.inl a0)] [] M0
 have hF0 : Fr md_X12_bad_173p M0 M0 := Fr.rf _ _
 obtain ⟨z1, k2, lz1, uz1⟩ := hH0.ld (c := 173) (i := 6) (A := 0) (B := 940) (bs_28_3 _ _ (by omega) (by omega))
 refine jx_load c1 hm rfl rfl rfl rfl ?_
 refine jx_load c1 hm rfl rfl rfl rfl ?_
 obtain ⟨z3, k4, lz3, uz3⟩ := hH0.ld (c := 173) (i := 7) (A := 0) (B := 4) (bs_28_4 _ _ (by omega) (by omega))
 refine jx_geti c1 hm rfl sh_173 rfl k4 ?_
 refine jy_ic c1 hm rfl (by decide) ?_
 have J7 : ∀ (b6 : Int) (hb6 : (-2147483648) ≤ b6 ∧ b6 ≤ 2147483647), F 14 [some (.inr (.inr (.inl 173))), some (.inl a0)] [.inl b6, .inr (.inr (.inl 173))] M0 := by
  intro b6 hb6
  obtain ⟨M8, e8, hH8, hF8, k8, n8, q8⟩ := mup hH0 hF0 (c := 173) (i := 10) (v := b6) (A := (-2147483648)) (B := 2147483647) (bs_28_5 _ _ (by omega) (by omega)) ⟨by omega, by omega⟩ (jin_of 0 rfl ⟨by omega, by omega⟩)
  refine jm_puti c1 hm rfl sh_173 rfl e8 ?_
  refine jx_load c1 hm rfl rfl rfl rfl ?_
  refine jx_load c1 hm rfl rfl rfl rfl ?_
  have k9 : M8.1 173 6 = z1 := (n8 173 6 (by decide)).trans k2
  refine jx_geti c1 hm rfl sh_173 rfl k9 ?_
  obtain ⟨M10, e10, hH10, hF10, k10, n10, q10⟩ := mup hH8 hF8 (c := 173) (i := 11) (v := z1) (A := 0) (B := 940) (bs_28_6 _ _ (by omega) (by omega)) ⟨by omega, by omega⟩ (jin_of 1 rfl ⟨by omega, by omega⟩)
  refine jm_puti c1 hm rfl sh_173 rfl e10 ?_
  refine jy_ic c1 hm rfl (by decide) ?_
  have k11 : M10.1 173 6 = z1 := (n10 173 6 (by decide)).trans k9
  exact jx_retz c2 hm rfl rfl ⟨by omega, by omega⟩ ⟨_, rfl, hH10, hF10, by omega, by omega, (by omega), (by omega), (((LFr.rf _ _).eq q8).eq q10)⟩
 refine jc_ne c1 hm 13 rfl rfl (fun h5 => ?_) (fun h5 => ?_)
 ·
  refine jx_load c1 hm rfl rfl rfl rfl ?_
  exact J7 a0 (by omega)
 refine jy_ic c1 hm rfl (by decide) ?_
 refine jx_goto c1 hm 14 rfl rfl ?_
 exact J7 1 (by omega)
theorem ct_X12_isInp (X : Int) (hX : 0 ≤ X ∧ X ≤ 100000000) (M0 : JM) (hH0 : HI X M0) (a0 : Int) (ha0 : (-2147483648) ≤ a0 ∧ a0 ≤ 2147483647) (a1 : Int) (ha1 : (-2147483648) ≤ a1 ∧ a1 ≤ 2147483647) (a2 : Int) (ha2 : (-2147483648) ≤ a2 ∧ a2 ≤ 2147483647) : JOk shp PJ 1 118 [.inl a0, .inl a1, .inl a2] M0 (jRi (fun v M' => M0 = M' ∧ 0 ≤ v ∧ v ≤ 1 ∧ (v = 1 → a1 ≤ a0 ∧ a0 ≤ a2) ∧ (v = 1 ∨ a0 < a1 ∨ a2 < a0))) := by
 refine ⟨jr_X12_isIn, pj_X12_isIn, fun F c1 c2 c3 => ?_⟩
 have hm := pj_X12_isIn
 change F 0 [some (.inl a0), some (.inl a1), some (.inl a2)] [] M0
 refine jx_load c1 hm rfl rfl rfl rfl ?_
 refine jx_load c1 hm rfl rfl rfl rfl ?_
 refine jc_lt c1 hm 14 rfl rfl (fun h1 => ?_) (fun h1 => ?_)
 ·
  refine jy_ic c1 hm rfl (by decide) ?_
  exact jx_retz c2 hm rfl rfl ⟨by omega, by omega⟩ ⟨_, rfl, rfl, by omega, by omega, (by omega), (by omega)⟩
 refine jx_load c1 hm rfl rfl rfl rfl ?_
 refine jx_load c1 hm rfl rfl rfl rfl ?_
 refine jc_gt c1 hm 14 rfl rfl (fun h2 => ?_) (fun h2 => ?_)
 ·
  refine jy_ic c1 hm rfl (by decide) ?_
  exact jx_retz c2 hm rfl rfl ⟨by omega, by omega⟩ ⟨_, rfl, rfl, by omega, by omega, (by omega), (by omega)⟩
 refine jy_ic c1 hm rfl (by decide) ?_
 refine jx_goto c1 hm 15 rfl rfl ?_
 exact jx_retz c2 hm rfl rfl ⟨by omega, by omega⟩ ⟨_, rfl, rfl, by omega, by omega, (by omega), (by omega)⟩
def ml_X12_readNumber_173p : List (Nat × (Nat × Nat)) := [(173, (12, 12))]
def md_X12_readNumber_173p : List (Nat × (Nat × Nat)) := [(173, (5, 5)), (173, (6, 6)), (173, (7, 7)), (173, (8, 8)), (173, (9, 9)), (173, (10, 10)), (173, (11, 11)), (173, (13, 13))]
theorem ct_X12_readNumber_173p (X : Int) (hX : 0 ≤ X ∧ X ≤ 100000000) (M0 : JM) (hH0 : HI X M0) (a0 : Int) (ha0 : 0 ≤ a0 ∧ a0 ≤ 1) (a1 : Int) (ha1 : 0 ≤ a1 ∧ a1 ≤ 999) : JOk shp PJ 3 167 [.inr (.inr (.inl 173)), .inl a0, .inl a1] M0 (jRi (fun v M' => HI X M' ∧ Fr md_X12_readNumber_173p M0 M' ∧ 0 ≤ v ∧ v ≤ 1 ∧ (v = 1 → a0 ≤ M'.1 173 13 ∧ M'.1 173 13 ≤ a1) ∧ (∀ (t : TXT) (σ : PSt), RS M0 t σ → LRr t (numS t a0 a1 σ) v M') ∧ (LFr ml_X12_readNumber_173p M0 M'))) := by
 refine ⟨jr_X12_readNumber, pj_X12_readNumber, fun F c1 c2 c3 => ?_⟩
 have hm := pj_X12_readNumber
 change F 0 [some (.inr (.inr (.inl 173))), some (.inl a0), some (.inl a1)] [] M0
 have hF0 : Fr md_X12_readNumber_173p M0 M0 := Fr.rf _ _
 obtain ⟨z1, k2, lz1, uz1⟩ := hH0.ld (c := 173) (i := 7) (A := 0) (B := 4) (bs_28_4 _ _ (by omega) (by omega))
 obtain ⟨z3, k4, lz3, uz3⟩ := hH0.ld (c := 173) (i := 8) (A := (-2147483648)) (B := 2147483647) (bs_28_5 _ _ (by omega) (by omega))
 refine jx_load c1 hm rfl rfl rfl rfl ?_
 refine jx_geti c1 hm rfl sh_173 rfl k2 ?_
 refine jy_ic c1 hm rfl (by decide) ?_
 refine jc_eq c1 hm 14 rfl rfl (fun h5 => ?_) (fun h5 => ?_)
 ·
  refine jx_load c1 hm rfl rfl rfl rfl ?_
  refine jx_geti c1 hm rfl sh_173 rfl k4 ?_
  refine jx_load c1 hm rfl rfl rfl rfl ?_
  refine jx_load c1 hm rfl rfl rfl rfl ?_
  refine jt_i c3 hm rfl rfl pj_X12_isIn rfl rfl rfl ((ct_X12_isInp X (by omega) M0 hH0 z3 ⟨by omega, by omega⟩ a0 ⟨by omega, by omega⟩ a1 ⟨by omega, by omega⟩).le (by decide)) (fun z6 _ ⟨rfl, lz6, uz6, p7, p8⟩ => ?_)
  refine jz_ne c1 hm 32 rfl rfl (fun h9 => ?_) (fun h9 => ?_)
  ·
   refine jx_load c1 hm rfl rfl rfl rfl ?_
   refine jx_load c1 hm rfl rfl rfl rfl ?_
   refine jx_geti c1 hm rfl sh_173 rfl k4 ?_
   obtain ⟨M10, e10, hH10, hF10, k10, n10, q10⟩ := mup hH0 hF0 (c := 173) (i := 13) (v := z3) (A := (-2147483648)) (B := 2147483647) (bs_28_7 _ _ (by omega) (by omega)) ⟨by omega, by omega⟩ (jin_of 7 rfl ⟨by omega, by omega⟩)
   refine jm_puti c1 hm rfl sh_173 rfl e10 ?_
   refine jx_load c1 hm rfl rfl rfl rfl ?_
   obtain ⟨z11, k12, lz11, uz11⟩ := hH10.ld (c := 173) (i := 5) (A := 0) (B := 940) (bs_28_3 _ _ (by omega) (by omega))
   refine jv_v c3 hm rfl pj_X12_go rfl rfl ⟨_, _, _, rfl, sh_173⟩ rfl ((ct_X12_go_173p X (by omega) M10 hH10 ).le (by decide)) (fun M15 ⟨hH15, hR15, p13, p14⟩ => ?_)
   have hF15 := hF10.tr hR15 (by decide +kernel)
   refine jy_ic c1 hm rfl (by decide) ?_
   have k16 : M15.1 173 13 = z3 := (hR15 173 13 (by decide +kernel)).trans k10
   exact jx_retz c2 hm rfl rfl ⟨by omega, by omega⟩ ⟨_, rfl, hH15, hF15, by omega, by omega, (by omega), (fun t σ hσ => rnum_go hσ (by omega) ⟨by omega, by omega⟩ (RS.st hσ n10 q10 rfl) rfl p13 hR15 p14 (by decide +kernel)), (((LFr.rf _ _).eq q10).tr p14 (by decide +kernel))⟩
  refine jx_load c1 hm rfl rfl rfl rfl ?_
  refine jy_ic c1 hm rfl (by decide) ?_
  obtain ⟨z17, k18, lz17, uz17⟩ := hH0.ld (c := 173) (i := 6) (A := 0) (B := 940) (bs_28_3 _ _ (by omega) (by omega))
  refine jv_i c3 hm rfl pj_X12_bad rfl rfl ⟨_, _, _, rfl, sh_173⟩ rfl ((ct_X12_bad_173p X (by omega) M0 hH0 2 ⟨by omega, by omega⟩).le (by decide)) (fun z19 M23 ⟨hH23, hR23, lz19, uz19, p20, p21, p22⟩ => ?_)
  have hF23 := hF0.tr hR23 (by decide +kernel)
  obtain ⟨z24, k25, lz24, uz24⟩ := hH23.ld (c := 173) (i := 11) (A := 0) (B := 940) (bs_28_6 _ _ (by omega) (by omega))
  obtain ⟨z26, k27, lz26, uz26⟩ := hH23.ld (c := 173) (i := 13) (A := (-2147483648)) (B := 2147483647) (bs_28_7 _ _ (by omega) (by omega))
  exact jx_retz c2 hm rfl rfl ⟨by omega, by omega⟩ ⟨_, rfl, hH23, hF23, by omega, by omega, (by omega), (fun t σ hσ => rnum_no hσ (by omega) (by omega) (by omega)), ((LFr.rf _ _).tr p22 (by decide +kernel))⟩
 refine jx_load c1 hm rfl rfl rfl rfl ?_
 refine jy_ic c1 hm rfl (by decide) ?_
 obtain ⟨z28, k29, lz28, uz28⟩ := hH0.ld (c := 173) (i := 6) (A := 0) (B := 940) (bs_28_3 _ _ (by omega) (by omega))
 refine jv_i c3 hm rfl pj_X12_bad rfl rfl ⟨_, _, _, rfl, sh_173⟩ rfl ((ct_X12_bad_173p X (by omega) M0 hH0 1 ⟨by omega, by omega⟩).le (by decide)) (fun z30 M34 ⟨hH34, hR34, lz30, uz30, p31, p32, p33⟩ => ?_)
 have hF34 := hF0.tr hR34 (by decide +kernel)
 obtain ⟨z35, k36, lz35, uz35⟩ := hH34.ld (c := 173) (i := 11) (A := 0) (B := 940) (bs_28_6 _ _ (by omega) (by omega))
 obtain ⟨z37, k38, lz37, uz37⟩ := hH34.ld (c := 173) (i := 13) (A := (-2147483648)) (B := 2147483647) (bs_28_7 _ _ (by omega) (by omega))
 exact jx_retz c2 hm rfl rfl ⟨by omega, by omega⟩ ⟨_, rfl, hH34, hF34, by omega, by omega, (by omega), (fun t σ hσ => rnum_no hσ (by omega) (by omega) (by omega)), ((LFr.rf _ _).tr p33 (by decide +kernel))⟩
def ml_X12_readEnd_173p : List (Nat × (Nat × Nat)) := [(173, (12, 12))]
def md_X12_readEnd_173p : List (Nat × (Nat × Nat)) := [(173, (5, 5)), (173, (6, 6)), (173, (7, 7)), (173, (8, 8)), (173, (9, 9)), (173, (10, 10)), (173, (11, 11))]
theorem ct_X12_readEnd_173p (X : Int) (hX : 0 ≤ X ∧ X ≤ 100000000) (M0 : JM) (hH0 : HI X M0)  : JOk shp PJ 3 157 [.inr (.inr (.inl 173))] M0 (jRi (fun v M' => HI X M' ∧ Fr md_X12_readEnd_173p M0 M' ∧ 0 ≤ v ∧ v ≤ 1 ∧ (∀ (t : TXT) (σ : PSt), RS M0 t σ → LRr t (endS t σ) v M') ∧ (LFr ml_X12_readEnd_173p M0 M'))) := by
 refine ⟨jr_X12_readEnd, pj_X12_readEnd, fun F c1 c2 c3 => ?_⟩
 have hm := pj_X12_readEnd
 change F 0 [some (.inr (.inr (.inl 173)))] [] M0
 have hF0 : Fr md_X12_readEnd_173p M0 M0 := Fr.rf _ _
 refine jx_load c1 hm rfl rfl rfl rfl ?_
 refine jy_bp c1 hm rfl (by decide) ?_
 obtain ⟨z1, k2, lz1, uz1⟩ := hH0.ld (c := 173) (i := 9) (A := (-2147483648)) (B := 2147483647) (bs_28_5 _ _ (by omega) (by omega))
 obtain ⟨z3, k4, lz3, uz3⟩ := hH0.ld (c := 173) (i := 7) (A := 0) (B := 4) (bs_28_4 _ _ (by omega) (by omega))
 refine jv_i c3 hm rfl pj_X12_isSign rfl rfl ⟨_, _, _, rfl, sh_173⟩ rfl ((ct_X12_isSign_173p X (by omega) M0 hH0 59 ⟨by omega, by omega⟩).le (by decide)) (fun z5 _ ⟨rfl, lz5, uz5, p6, p7⟩ => ?_)
 refine jz_ne c1 hm 15 rfl rfl (fun h8 => ?_) (fun h8 => ?_)
 ·
  refine jx_load c1 hm rfl rfl rfl rfl ?_
  obtain ⟨z9, k10, lz9, uz9⟩ := hH0.ld (c := 173) (i := 5) (A := 0) (B := 940) (bs_28_3 _ _ (by omega) (by omega))
  refine jv_v c3 hm rfl pj_X12_go rfl rfl ⟨_, _, _, rfl, sh_173⟩ rfl ((ct_X12_go_173p X (by omega) M0 hH0 ).le (by decide)) (fun M13 ⟨hH13, hR13, p11, p12⟩ => ?_)
  have hF13 := hF0.tr hR13 (by decide +kernel)
  refine jy_ic c1 hm rfl (by decide) ?_
  exact jx_retz c2 hm rfl rfl ⟨by omega, by omega⟩ ⟨_, rfl, hH13, hF13, by omega, by omega, (fun t σ hσ => rend_go hσ (by omega) (by omega) rfl p11 hR13 p12 (by decide +kernel)), ((LFr.rf _ _).tr p12 (by decide +kernel))⟩
 refine jx_load c1 hm rfl rfl rfl rfl ?_
 refine jy_ic c1 hm rfl (by decide) ?_
 obtain ⟨z14, k15, lz14, uz14⟩ := hH0.ld (c := 173) (i := 6) (A := 0) (B := 940) (bs_28_3 _ _ (by omega) (by omega))
 refine jv_i c3 hm rfl pj_X12_bad rfl rfl ⟨_, _, _, rfl, sh_173⟩ rfl ((ct_X12_bad_173p X (by omega) M0 hH0 1 ⟨by omega, by omega⟩).le (by decide)) (fun z16 M20 ⟨hH20, hR20, lz16, uz16, p17, p18, p19⟩ => ?_)
 have hF20 := hF0.tr hR20 (by decide +kernel)
 obtain ⟨z21, k22, lz21, uz21⟩ := hH20.ld (c := 173) (i := 11) (A := 0) (B := 940) (bs_28_6 _ _ (by omega) (by omega))
 exact jx_retz c2 hm rfl rfl ⟨by omega, by omega⟩ ⟨_, rfl, hH20, hF20, by omega, by omega, (fun t σ hσ => rend_no hσ (by omega) (by omega) (by omega)), ((LFr.rf _ _).tr p19 (by decide +kernel))⟩
def ml_X12_readFirst_173p : List (Nat × (Nat × Nat)) := [(173, (12, 12))]
def md_X12_readFirst_173p : List (Nat × (Nat × Nat)) := [(173, (5, 5)), (173, (6, 6)), (173, (7, 7)), (173, (8, 8)), (173, (9, 9)), (173, (10, 10)), (173, (11, 11))]
theorem ct_X12_readFirst_173p (X : Int) (hX : 0 ≤ X ∧ X ≤ 100000000) (M0 : JM) (hH0 : HI X M0) (a0 : Int) (ha0 : 0 ≤ a0 ∧ a0 ≤ 2) (a1 : Int) (ha1 : 6 ≤ a1 ∧ a1 ≤ 6) : JOk shp PJ 3 158 [.inr (.inr (.inl 173)), .inl a0, .inl a1] M0 (jRi (fun v M' => HI X M' ∧ Fr md_X12_readFirst_173p M0 M' ∧ 0 ≤ v ∧ v ≤ 1 ∧ (v = 0 ∨ M0.1 176 (a0).toNat ≤ 5) ∧ (∀ (t : TXT) (σ : PSt), RS M0 t σ → 2 ≤ kK t σ → LRr t (firstS t (a0).toNat σ) v M') ∧ (LFr ml_X12_readFirst_173p M0 M'))) := by
 refine ⟨jr_X12_readFirst, pj_X12_readFirst, fun F c1 c2 c3 => ?_⟩
 have hm := pj_X12_readFirst
 change F 0 [some (.inr (.inr (.inl 173))), some (.inl a0), some (.inl a1)] [] M0
 have hF0 : Fr md_X12_readFirst_173p M0 M0 := Fr.rf _ _
 refine jx_load c1 hm rfl rfl rfl rfl ?_
 refine jx_getr c1 hm rfl sh_173 rfl ?_
 refine jx_load c1 hm rfl rfl rfl rfl ?_
 obtain ⟨z1, k2, lz1, uz1⟩ := hH0.ld (c := 176) (i := (a0).toNat) (A := 0) (B := 6) (bs_12_0 _ _ (by omega) (by omega))
 refine jx_iald c1 hm rfl sh_176 ⟨by omega, by omega⟩ k2 ?_
 refine jx_load c1 hm rfl rfl rfl rfl ?_
 refine jc_ne c1 hm 16 rfl rfl (fun h3 => ?_) (fun h3 => ?_)
 ·
  refine jx_load c1 hm rfl rfl rfl rfl ?_
  obtain ⟨z4, k5, lz4, uz4⟩ := hH0.ld (c := 173) (i := 5) (A := 0) (B := 940) (bs_28_3 _ _ (by omega) (by omega))
  refine jv_v c3 hm rfl pj_X12_go rfl rfl ⟨_, _, _, rfl, sh_173⟩ rfl ((ct_X12_go_173p X (by omega) M0 hH0 ).le (by decide)) (fun M8 ⟨hH8, hR8, p6, p7⟩ => ?_)
  have hF8 := hF0.tr hR8 (by decide +kernel)
  refine jy_ic c1 hm rfl (by decide) ?_
  exact jx_retz c2 hm rfl rfl ⟨by omega, by omega⟩ ⟨_, rfl, hH8, hF8, by omega, by omega, (by omega), (fun t σ hσ hk => rfst_go hσ hk (by omega) (by omega) rfl p6 hR8 p7 (by decide +kernel)), ((LFr.rf _ _).tr p7 (by decide +kernel))⟩
 refine jx_load c1 hm rfl rfl rfl rfl ?_
 refine jy_ic c1 hm rfl (by decide) ?_
 obtain ⟨z9, k10, lz9, uz9⟩ := hH0.ld (c := 173) (i := 6) (A := 0) (B := 940) (bs_28_3 _ _ (by omega) (by omega))
 refine jv_i c3 hm rfl pj_X12_bad rfl rfl ⟨_, _, _, rfl, sh_173⟩ rfl ((ct_X12_bad_173p X (by omega) M0 hH0 4 ⟨by omega, by omega⟩).le (by decide)) (fun z11 M15 ⟨hH15, hR15, lz11, uz11, p12, p13, p14⟩ => ?_)
 have hF15 := hF0.tr hR15 (by decide +kernel)
 obtain ⟨z16, k17, lz16, uz16⟩ := hH15.ld (c := 173) (i := 11) (A := 0) (B := 940) (bs_28_6 _ _ (by omega) (by omega))
 exact jx_retz c2 hm rfl rfl ⟨by omega, by omega⟩ ⟨_, rfl, hH15, hF15, by omega, by omega, (by omega), (fun t σ hσ hk => rfst_no hσ (by omega) (by omega) (by omega) (by omega)), ((LFr.rf _ _).tr p14 (by decide +kernel))⟩
def ml_X12_take_173p : List (Nat × (Nat × Nat)) := []
def md_X12_take_173p : List (Nat × (Nat × Nat)) := [(173, (2, 2))]
theorem ct_X12_take_173p (X : Int) (hX : 0 ≤ X ∧ X ≤ 100000000) (M0 : JM) (hH0 : HI X M0)  : JOk shp PJ 1 188 [.inr (.inr (.inl 173))] M0 (jRi (fun v M' => HI X M' ∧ Fr md_X12_take_173p M0 M' ∧ 0 ≤ v ∧ v ≤ 940 ∧ (v = M0.1 173 2) ∧ (LFr ml_X12_take_173p M0 M'))) := by
 refine ⟨jr_X12_take, pj_X12_take, fun F c1 c2 c3 => ?_⟩
 have hm := pj_X12_take
 change F 0 [some (.inr (.inr (.inl 173))), none] [] M0
 have hF0 : Fr md_X12_take_173p M0 M0 := Fr.rf _ _
 obtain ⟨z1, k2, lz1, uz1⟩ := hH0.ld (c := 173) (i := 2) (A := 0) (B := 940) (bs_28_1 _ _ (by omega) (by omega))
 refine jx_load c1 hm rfl rfl rfl rfl ?_
 refine jx_geti c1 hm rfl sh_173 rfl k2 ?_
 refine jx_stor c1 hm (L' := [some (.inr (.inr (.inl 173))), some (.inl z1)]) rfl rfl rfl rfl rfl ?_
 refine jx_load c1 hm rfl rfl rfl rfl ?_
 refine jy_ic c1 hm rfl (by decide) ?_
 obtain ⟨M3, e3, hH3, hF3, k3, n3, q3⟩ := mup hH0 hF0 (c := 173) (i := 2) (v := 0) (A := 0) (B := 940) (bs_28_1 _ _ (by omega) (by omega)) ⟨by omega, by omega⟩ (jin_of 0 rfl ⟨by omega, by omega⟩)
 refine jm_puti c1 hm rfl sh_173 rfl e3 ?_
 refine jx_load c1 hm rfl rfl rfl rfl ?_
 exact jx_reti c2 hm rfl rfl ⟨_, rfl, hH3, hF3, by omega, by omega, (by omega), ((LFr.rf _ _).eq q3)⟩
def ml_X12_begin_173p : List (Nat × (Nat × Nat)) := [(173, (12, 12))]
def md_X12_begin_173p : List (Nat × (Nat × Nat)) := [(173, (0, 0)), (173, (2, 2)), (173, (3, 3)), (173, (4, 4)), (173, (5, 5)), (173, (6, 6)), (173, (7, 7)), (173, (8, 8)), (173, (9, 9)), (173, (10, 10))]
theorem ct_X12_begin_173p (X : Int) (hX : 0 ≤ X ∧ X ≤ 100000000) (M0 : JM) (hH0 : HI X M0) (a0 : Int) (ha0 : 0 ≤ a0 ∧ a0 ≤ 900) : JOk shp PJ 3 82 [.inr (.inr (.inl 173)), .inl a0] M0 (jRv (fun M' => HI X M' ∧ Fr md_X12_begin_173p M0 M' ∧ (RTk M' (uR M0, (M0.1 173 2, a0)) 0) ∧ (LFr ml_X12_begin_173p M0 M'))) := by
 refine ⟨jr_X12_begin, pj_X12_begin, fun F c1 c2 c3 => ?_⟩
 have hm := pj_X12_begin
 change F 0 [some (.inr (.inr (.inl 173))), some (.inl a0)] [] M0
 have hF0 : Fr md_X12_begin_173p M0 M0 := Fr.rf _ _
 obtain ⟨z1, k2, lz1, uz1⟩ := hH0.ld (c := 173) (i := 2) (A := 0) (B := 940) (bs_28_1 _ _ (by omega) (by omega))
 refine jx_load c1 hm rfl rfl rfl rfl ?_
 refine jy_ic c1 hm rfl (by decide) ?_
 obtain ⟨M3, e3, hH3, hF3, k3, n3, q3⟩ := mup hH0 hF0 (c := 173) (i := 0) (v := 0) (A := (-2147483648)) (B := 2147483647) (bs_28_0 _ _ (by omega) (by omega)) ⟨by omega, by omega⟩ (jin_of 0 rfl ⟨by omega, by omega⟩)
 refine jm_puti c1 hm rfl sh_173 rfl e3 ?_
 refine jx_load c1 hm rfl rfl rfl rfl ?_
 refine jx_load c1 hm rfl rfl rfl rfl ?_
 have k4 : M3.1 173 2 = z1 := (n3 173 2 (by decide)).trans k2
 refine jv_i c3 hm rfl pj_X12_take rfl rfl ⟨_, _, _, rfl, sh_173⟩ rfl ((ct_X12_take_173p X (by omega) M3 hH3 ).le (by decide)) (fun z5 M8 ⟨hH8, hR8, lz5, uz5, p6, p7⟩ => ?_)
 have hF8 := hF3.tr hR8 (by decide +kernel)
 obtain ⟨M9, e9, hH9, hF9, k9, n9, q9⟩ := mup hH8 hF8 (c := 173) (i := 3) (v := z5) (A := 0) (B := 940) (bs_28_1 _ _ (by omega) (by omega)) ⟨by omega, by omega⟩ (jin_of 2 rfl ⟨by omega, by omega⟩)
 refine jm_puti c1 hm rfl sh_173 rfl e9 ?_
 refine jx_load c1 hm rfl rfl rfl rfl ?_
 refine jx_load c1 hm rfl rfl rfl rfl ?_
 obtain ⟨M10, e10, hH10, hF10, k10, n10, q10⟩ := mup hH9 hF9 (c := 173) (i := 4) (v := a0) (A := 0) (B := 900) (bs_28_2 _ _ (by omega) (by omega)) ⟨by omega, by omega⟩ (jin_of 3 rfl ⟨by omega, by omega⟩)
 refine jm_puti c1 hm rfl sh_173 rfl e10 ?_
 refine jx_load c1 hm rfl rfl rfl rfl ?_
 refine jy_ic c1 hm rfl (by decide) ?_
 obtain ⟨M11, e11, hH11, hF11, k11, n11, q11⟩ := mup hH10 hF10 (c := 173) (i := 10) (v := 0) (A := (-2147483648)) (B := 2147483647) (bs_28_5 _ _ (by omega) (by omega)) ⟨by omega, by omega⟩ (jin_of 9 rfl ⟨by omega, by omega⟩)
 refine jm_puti c1 hm rfl sh_173 rfl e11 ?_
 refine jx_load c1 hm rfl rfl rfl rfl ?_
 refine jy_ic c1 hm rfl (by decide) ?_
 obtain ⟨M12, e12, hH12, hF12, k12, n12, q12⟩ := mup hH11 hF11 (c := 173) (i := 5) (v := 0) (A := 0) (B := 940) (bs_28_3 _ _ (by omega) (by omega)) ⟨by omega, by omega⟩ (jin_of 4 rfl ⟨by omega, by omega⟩)
 refine jm_puti c1 hm rfl sh_173 rfl e12 ?_
 refine jx_load c1 hm rfl rfl rfl rfl ?_
 refine jv_v c3 hm rfl pj_X12_go rfl rfl ⟨_, _, _, rfl, sh_173⟩ rfl ((ct_X12_go_173p X (by omega) M12 hH12 ).le (by decide)) (fun M15 ⟨hH15, hR15, p13, p14⟩ => ?_)
 have hF15 := hF12.tr hR15 (by decide +kernel)
 obtain ⟨z16, k17, lz16, uz16⟩ := hH15.ld (c := 173) (i := 2) (A := 0) (B := 940) (bs_28_1 _ _ (by omega) (by omega))
 exact jx_retv c2 hm rfl rfl ⟨rfl, hH15, hF15, (be_tx p13 (fun j => hF12 174 j rfl) ((((n12 173 3 (by decide)).trans (n11 173 3 (by decide))).trans (n10 173 3 (by decide))).trans (k9.trans (by omega))) (((n12 173 4 (by decide)).trans (n11 173 4 (by decide))).trans k10) (rfl.trans k12)), ((((((((LFr.rf _ _).eq q3).tr p7 (by decide +kernel)).eq q9).eq q10).eq q11).eq q12).tr p14 (by decide +kernel))⟩
def ml_X12_readNew_173p : List (Nat × (Nat × Nat)) := [(173, (12, 12)), (181, (0, 17))]
def md_X12_readNew_173p : List (Nat × (Nat × Nat)) := [(173, (5, 5)), (173, (6, 6)), (173, (7, 7)), (173, (8, 8)), (173, (9, 9)), (173, (10, 10)), (173, (11, 11))]
set_option maxHeartbeats 8000000 in
theorem ct_X12_readNew_173p (X : Int) (hX : 0 ≤ X ∧ X ≤ 100000000) (M0 : JM) (hH0 : HI X M0) (a0 : Int) (ha0 : 0 ≤ a0 ∧ a0 ≤ 17) : JOk shp PJ 4 165 [.inr (.inr (.inl 173)), .inl a0] M0 (jRi (fun v M' => HI X M' ∧ Fr md_X12_readNew_173p M0 M' ∧ 0 ≤ v ∧ v ≤ 1 ∧ (∀ (t : TXT) (σ : PSt) (s : Nat), s < 3 → RS M0 t σ → σ.2.1 s < 6 → a0 = 6 * (s : Int) + σ.2.1 s → LRr t (newS t s σ) v M') ∧ (∀ (t : TXT) (σ : PSt), RS M0 t σ → v = 1 → kK t σ = 2 ∧ fndS σ (kV t σ) < 0 ∧ (M'.2 181 (a0).toNat).toInt = kV t σ) ∧ (LFr ml_X12_readNew_173p M0 M'))) := by
 refine ⟨jr_X12_readNew, pj_X12_readNew, fun F c1 c2 c3 => ?_⟩
 have hm := pj_X12_readNew
 change F 0 [some (.inr (.inr (.inl 173))), some (.inl a0)] [] M0
 have hF0 : Fr md_X12_readNew_173p M0 M0 := Fr.rf _ _
 refine jx_load c1 hm rfl rfl rfl rfl ?_
 obtain ⟨z1, k2, lz1, uz1⟩ := hH0.ld (c := 173) (i := 7) (A := 0) (B := 4) (bs_28_4 _ _ (by omega) (by omega))
 refine jv_i c3 hm rfl pj_X12_isName rfl rfl ⟨_, _, _, rfl, sh_173⟩ rfl ((ct_X12_isName_173p X (by omega) M0 hH0 ).le (by decide)) (fun z3 _ ⟨rfl, lz3, uz3, p4, p5⟩ => ?_)
 refine jz_ne c1 hm 13 rfl rfl (fun h6 => ?_) (fun h6 => ?_)
 ·
  refine jx_load c1 hm rfl rfl rfl rfl ?_
  refine jx_getr c1 hm rfl sh_173 rfl ?_
  refine jy_ic c1 hm rfl (by decide) ?_
  refine jx_load c1 hm rfl rfl rfl rfl ?_
  refine jx_getr c1 hm rfl sh_173 rfl ?_
  refine jy_ic c1 hm rfl (by decide) ?_
  obtain ⟨z7, k8, lz7, uz7⟩ := hH0.ld (c := 176) (i := 0) (A := 0) (B := 6) (bs_12_0 _ _ (by omega) (by omega))
  refine jx_iald c1 hm rfl sh_176 ⟨by omega, by omega⟩ k8 ?_
  refine jx_load c1 hm rfl rfl rfl rfl ?_
  obtain ⟨w9, kw9⟩ : ∃ w, M0.2 173 12 = w := ⟨_, rfl⟩
  have bw9 : LB w9.toInt := kw9 ▸ hH0.2.1 173 12 rfl
  refine jx_getl c1 hm rfl sh_173 rfl kw9 ?_
  skip
  refine jt_i c3 hm rfl rfl pj_X12_findIn rfl rfl rfl ((ct_X12_findIn_181 X (by omega) M0 hH0 0 ⟨by omega, by omega⟩ z7 ⟨by omega, by omega⟩ w9).le (by decide)) (fun z10 _ ⟨rfl, lz10, uz10, p11, p12, p13⟩ => ?_)
  skip
  refine jy_ic c1 hm rfl (by decide) ?_
  refine jc_ne c1 hm 81 rfl rfl (fun h14 => ?_) (fun h14 => ?_)
  ·
   refine jx_load c1 hm rfl rfl rfl rfl ?_
   refine jy_ic c1 hm rfl (by decide) ?_
   obtain ⟨z15, k16, lz15, uz15⟩ := hH0.ld (c := 173) (i := 6) (A := 0) (B := 940) (bs_28_3 _ _ (by omega) (by omega))
   refine jv_i c3 hm rfl pj_X12_bad rfl rfl ⟨_, _, _, rfl, sh_173⟩ rfl ((ct_X12_bad_173p X (by omega) M0 hH0 3 ⟨by omega, by omega⟩).le (by decide)) (fun z17 M21 ⟨hH21, hR21, lz17, uz17, p18, p19, p20⟩ => ?_)
   have hF21 := hF0.tr hR21 (by decide +kernel)
   obtain ⟨z22, k23, lz22, uz22⟩ := hH21.ld (c := 173) (i := 11) (A := 0) (B := 940) (bs_28_6 _ _ (by omega) (by omega))
   exact jx_retz c2 hm rfl rfl ⟨by omega, by omega⟩ ⟨_, rfl, hH21, hF21, by omega, by omega, (fun t σ s hs hσ hc hj => rnew_no hσ (Or.inr (by have y9 := FIN.hit hσ (a := 0) (by decide) ⟨by omega, p11, p13, p12⟩ (by decide) k8.symm ((congrArg Int64.toInt kw9).symm.trans (hσ.word (hσ.kind.symm.trans (p4 (by omega)).1))) (by omega); omega)) (by omega) p19), (fun t σ hσ y => absurd y (by omega)), ((LFr.rf _ _).tr p20 (by decide +kernel))⟩
  refine jx_load c1 hm rfl rfl rfl rfl ?_
  refine jx_getr c1 hm rfl sh_173 rfl ?_
  refine jy_bp c1 hm rfl (by decide) ?_
  refine jx_load c1 hm rfl rfl rfl rfl ?_
  refine jx_getr c1 hm rfl sh_173 rfl ?_
  refine jy_ic c1 hm rfl (by decide) ?_
  obtain ⟨z24, k25, lz24, uz24⟩ := hH0.ld (c := 176) (i := 1) (A := 0) (B := 6) (bs_12_0 _ _ (by omega) (by omega))
  refine jx_iald c1 hm rfl sh_176 ⟨by omega, by omega⟩ k25 ?_
  refine jx_load c1 hm rfl rfl rfl rfl ?_
  refine jx_getl c1 hm rfl sh_173 rfl kw9 ?_
  skip
  refine jt_i c3 hm rfl rfl pj_X12_findIn rfl rfl rfl ((ct_X12_findIn_181 X (by omega) M0 hH0 6 ⟨by omega, by omega⟩ z24 ⟨by omega, by omega⟩ w9).le (by decide)) (fun z26 _ ⟨rfl, lz26, uz26, p27, p28, p29⟩ => ?_)
  skip
  refine jy_ic c1 hm rfl (by decide) ?_
  refine jc_ne c1 hm 81 rfl rfl (fun h30 => ?_) (fun h30 => ?_)
  ·
   refine jx_load c1 hm rfl rfl rfl rfl ?_
   refine jy_ic c1 hm rfl (by decide) ?_
   obtain ⟨z31, k32, lz31, uz31⟩ := hH0.ld (c := 173) (i := 6) (A := 0) (B := 940) (bs_28_3 _ _ (by omega) (by omega))
   refine jv_i c3 hm rfl pj_X12_bad rfl rfl ⟨_, _, _, rfl, sh_173⟩ rfl ((ct_X12_bad_173p X (by omega) M0 hH0 3 ⟨by omega, by omega⟩).le (by decide)) (fun z33 M37 ⟨hH37, hR37, lz33, uz33, p34, p35, p36⟩ => ?_)
   have hF37 := hF0.tr hR37 (by decide +kernel)
   obtain ⟨z38, k39, lz38, uz38⟩ := hH37.ld (c := 173) (i := 11) (A := 0) (B := 940) (bs_28_6 _ _ (by omega) (by omega))
   exact jx_retz c2 hm rfl rfl ⟨by omega, by omega⟩ ⟨_, rfl, hH37, hF37, by omega, by omega, (fun t σ s hs hσ hc hj => rnew_no hσ (Or.inr (by have y9 := FIN.hit hσ (a := 1) (by decide) ⟨by omega, p27, p29, p28⟩ (by decide) k25.symm ((congrArg Int64.toInt kw9).symm.trans (hσ.word (hσ.kind.symm.trans (p4 (by omega)).1))) (by omega); omega)) (by omega) p35), (fun t σ hσ y => absurd y (by omega)), ((LFr.rf _ _).tr p36 (by decide +kernel))⟩
  refine jx_load c1 hm rfl rfl rfl rfl ?_
  refine jx_getr c1 hm rfl sh_173 rfl ?_
  refine jy_bp c1 hm rfl (by decide) ?_
  refine jx_load c1 hm rfl rfl rfl rfl ?_
  refine jx_getr c1 hm rfl sh_173 rfl ?_
  refine jy_ic c1 hm rfl (by decide) ?_
  obtain ⟨z40, k41, lz40, uz40⟩ := hH0.ld (c := 176) (i := 2) (A := 0) (B := 6) (bs_12_0 _ _ (by omega) (by omega))
  refine jx_iald c1 hm rfl sh_176 ⟨by omega, by omega⟩ k41 ?_
  refine jx_load c1 hm rfl rfl rfl rfl ?_
  refine jx_getl c1 hm rfl sh_173 rfl kw9 ?_
  skip
  refine jt_i c3 hm rfl rfl pj_X12_findIn rfl rfl rfl ((ct_X12_findIn_181 X (by omega) M0 hH0 12 ⟨by omega, by omega⟩ z40 ⟨by omega, by omega⟩ w9).le (by decide)) (fun z42 _ ⟨rfl, lz42, uz42, p43, p44, p45⟩ => ?_)
  skip
  refine jy_ic c1 hm rfl (by decide) ?_
  refine jc_eq c1 hm 87 rfl rfl (fun h46 => ?_) (fun h46 => ?_)
  ·
   refine jx_load c1 hm rfl rfl rfl rfl ?_
   refine jx_getr c1 hm rfl sh_173 rfl ?_
   refine jx_load c1 hm rfl rfl rfl rfl ?_
   refine jx_load c1 hm rfl rfl rfl rfl ?_
   refine jx_getl c1 hm rfl sh_173 rfl kw9 ?_
   skip
   obtain ⟨M47, e47, hH47, hF47, n47, k47, g47⟩ := mul hH0 hF0 (c := 181) (i := (a0).toNat) (v := w9) (fun _ => bw9)
   refine jm_last c1 hm rfl sh_181 ⟨by omega, by omega⟩ e47 ?_
   refine jx_load c1 hm rfl rfl rfl rfl ?_
   obtain ⟨z48, k49, lz48, uz48⟩ := hH47.ld (c := 173) (i := 5) (A := 0) (B := 940) (bs_28_3 _ _ (by omega) (by omega))
   refine jv_v c3 hm rfl pj_X12_go rfl rfl ⟨_, _, _, rfl, sh_173⟩ rfl ((ct_X12_go_173p X (by omega) M47 hH47 ).le (by decide)) (fun M52 ⟨hH52, hR52, p50, p51⟩ => ?_)
   have hF52 := hF47.tr hR52 (by decide +kernel)
   refine jy_ic c1 hm rfl (by decide) ?_
   exact jx_retz c2 hm rfl rfl ⟨by omega, by omega⟩ ⟨_, rfl, hH52, hF52, by omega, by omega, (fun t σ s hs hσ hc hj => rnew_go hσ hs hc (p4 (by omega)) (fnd_all (FIN.miss hσ (a := 0) (by decide) ⟨by omega, p11, p13, p12⟩ (by decide) k8.symm ((congrArg Int64.toInt kw9).symm.trans (hσ.word (hσ.kind.symm.trans (p4 (by omega)).1))) (by omega)) (FIN.miss hσ (a := 1) (by decide) ⟨by omega, p27, p29, p28⟩ (by decide) k25.symm ((congrArg Int64.toInt kw9).symm.trans (hσ.word (hσ.kind.symm.trans (p4 (by omega)).1))) (by omega)) (FIN.miss hσ (a := 2) (by decide) ⟨by omega, p43, p45, p44⟩ (by decide) k41.symm ((congrArg Int64.toInt kw9).symm.trans (hσ.word (hσ.kind.symm.trans (p4 (by omega)).1))) (by omega))) hj n47 g47 rfl p50 hR52 p51 (by decide +kernel)), (fun t σ hσ _ => ⟨hσ.kind.symm.trans (p4 (by omega)).1, fnd_all (FIN.miss hσ (a := 0) (by decide) ⟨by omega, p11, p13, p12⟩ (by decide) k8.symm ((congrArg Int64.toInt kw9).symm.trans (hσ.word (hσ.kind.symm.trans (p4 (by omega)).1))) (by omega)) (FIN.miss hσ (a := 1) (by decide) ⟨by omega, p27, p29, p28⟩ (by decide) k25.symm ((congrArg Int64.toInt kw9).symm.trans (hσ.word (hσ.kind.symm.trans (p4 (by omega)).1))) (by omega)) (FIN.miss hσ (a := 2) (by decide) ⟨by omega, p43, p45, p44⟩ (by decide) k41.symm ((congrArg Int64.toInt kw9).symm.trans (hσ.word (hσ.kind.symm.trans (p4 (by omega)).1))) (by omega)), by rw [p51 181 (a0).toNat rfl, k47]; exact ((congrArg Int64.toInt kw9).symm.trans (hσ.word (hσ.kind.symm.trans (p4 (by omega)).1)))⟩), (((LFr.rf _ _).st g47 (jin_of 1 rfl ⟨by omega, by omega⟩)).tr p51 (by decide +kernel))⟩
  refine jx_load c1 hm rfl rfl rfl rfl ?_
  refine jy_ic c1 hm rfl (by decide) ?_
  obtain ⟨z53, k54, lz53, uz53⟩ := hH0.ld (c := 173) (i := 6) (A := 0) (B := 940) (bs_28_3 _ _ (by omega) (by omega))
  refine jv_i c3 hm rfl pj_X12_bad rfl rfl ⟨_, _, _, rfl, sh_173⟩ rfl ((ct_X12_bad_173p X (by omega) M0 hH0 3 ⟨by omega, by omega⟩).le (by decide)) (fun z55 M59 ⟨hH59, hR59, lz55, uz55, p56, p57, p58⟩ => ?_)
  have hF59 := hF0.tr hR59 (by decide +kernel)
  obtain ⟨z60, k61, lz60, uz60⟩ := hH59.ld (c := 173) (i := 11) (A := 0) (B := 940) (bs_28_6 _ _ (by omega) (by omega))
  exact jx_retz c2 hm rfl rfl ⟨by omega, by omega⟩ ⟨_, rfl, hH59, hF59, by omega, by omega, (fun t σ s hs hσ hc hj => rnew_no hσ (Or.inr (by have y9 := FIN.hit hσ (a := 2) (by decide) ⟨by omega, p43, p45, p44⟩ (by decide) k41.symm ((congrArg Int64.toInt kw9).symm.trans (hσ.word (hσ.kind.symm.trans (p4 (by omega)).1))) (by omega); omega)) (by omega) p57), (fun t σ hσ y => absurd y (by omega)), ((LFr.rf _ _).tr p58 (by decide +kernel))⟩
 refine jx_load c1 hm rfl rfl rfl rfl ?_
 refine jy_ic c1 hm rfl (by decide) ?_
 obtain ⟨z62, k63, lz62, uz62⟩ := hH0.ld (c := 173) (i := 6) (A := 0) (B := 940) (bs_28_3 _ _ (by omega) (by omega))
 refine jv_i c3 hm rfl pj_X12_bad rfl rfl ⟨_, _, _, rfl, sh_173⟩ rfl ((ct_X12_bad_173p X (by omega) M0 hH0 1 ⟨by omega, by omega⟩).le (by decide)) (fun z64 M68 ⟨hH68, hR68, lz64, uz64, p65, p66, p67⟩ => ?_)
 have hF68 := hF0.tr hR68 (by decide +kernel)
 obtain ⟨z69, k70, lz69, uz69⟩ := hH68.ld (c := 173) (i := 11) (A := 0) (B := 940) (bs_28_6 _ _ (by omega) (by omega))
 exact jx_retz c2 hm rfl rfl ⟨by omega, by omega⟩ ⟨_, rfl, hH68, hF68, by omega, by omega, (fun t σ s hs hσ hc hj => rnew_no hσ (Or.inl (fun y => (p5.resolve_left (by omega)).elim (fun y2 => y2 y.1) (fun y2 => absurd y2 (by have y3 := y.2; omega)))) (by omega) p66), (fun t σ hσ y => absurd y (by omega)), ((LFr.rf _ _).tr p67 (by decide +kernel))⟩
def ml_X12_isOne_173p : List (Nat × (Nat × Nat)) := []
def md_X12_isOne_173p : List (Nat × (Nat × Nat)) := [(173, (10, 10)), (173, (11, 11)), (173, (13, 13))]
theorem ct_X12_isOne_173p (X : Int) (hX : 0 ≤ X ∧ X ≤ 100000000) (M0 : JM) (hH0 : HI X M0) (a0 : Int) (ha0 : 0 ≤ a0 ∧ a0 ≤ 12) (a1 : Int) (ha1 : 0 ≤ a1 ∧ a1 ≤ 6) : JOk shp PJ 4 122 [.inr (.inr (.inl 173)), .inl a0, .inl a1] M0 (jRi (fun v M' => HI X M' ∧ Fr md_X12_isOne_173p M0 M' ∧ 0 ≤ v ∧ v ≤ 1 ∧ (∀ (t : TXT) (σ : PSt) (g : Int → PSt → RES) (a : Int), 0 ≤ a ∧ a < 3 → RS M0 t σ → a0 = 6 * a → a1 = M0.1 176 a.toNat → NMR t a g σ v M') ∧ (LFr ml_X12_isOne_173p M0 M'))) := by
 refine ⟨jr_X12_isOne, pj_X12_isOne, fun F c1 c2 c3 => ?_⟩
 have hm := pj_X12_isOne
 change F 0 [some (.inr (.inr (.inl 173))), some (.inl a0), some (.inl a1)] [] M0
 have hF0 : Fr md_X12_isOne_173p M0 M0 := Fr.rf _ _
 refine jx_load c1 hm rfl rfl rfl rfl ?_
 obtain ⟨z1, k2, lz1, uz1⟩ := hH0.ld (c := 173) (i := 7) (A := 0) (B := 4) (bs_28_4 _ _ (by omega) (by omega))
 refine jv_i c3 hm rfl pj_X12_isName rfl rfl ⟨_, _, _, rfl, sh_173⟩ rfl ((ct_X12_isName_173p X (by omega) M0 hH0 ).le (by decide)) (fun z3 _ ⟨rfl, lz3, uz3, p4, p5⟩ => ?_)
 refine jz_ne c1 hm 13 rfl rfl (fun h6 => ?_) (fun h6 => ?_)
 ·
  refine jx_load c1 hm rfl rfl rfl rfl ?_
  refine jx_load c1 hm rfl rfl rfl rfl ?_
  refine jx_getr c1 hm rfl sh_173 rfl ?_
  refine jx_load c1 hm rfl rfl rfl rfl ?_
  refine jx_load c1 hm rfl rfl rfl rfl ?_
  refine jx_load c1 hm rfl rfl rfl rfl ?_
  obtain ⟨w7, kw7⟩ : ∃ w, M0.2 173 12 = w := ⟨_, rfl⟩
  have bw7 : LB w7.toInt := kw7 ▸ hH0.2.1 173 12 rfl
  refine jx_getl c1 hm rfl sh_173 rfl kw7 ?_
  skip
  refine jt_i c3 hm rfl rfl pj_X12_findIn rfl rfl rfl ((ct_X12_findIn_181 X (by omega) M0 hH0 a0 ⟨by omega, by omega⟩ a1 ⟨by omega, by omega⟩ w7).le (by decide)) (fun z8 _ ⟨rfl, lz8, uz8, p9, p10, p11⟩ => ?_)
  obtain ⟨M12, e12, hH12, hF12, k12, n12, q12⟩ := mup hH0 hF0 (c := 173) (i := 13) (v := z8) (A := (-2147483648)) (B := 2147483647) (bs_28_7 _ _ (by omega) (by omega)) ⟨by omega, by omega⟩ (jin_of 2 rfl ⟨by omega, by omega⟩)
  refine jm_puti c1 hm rfl sh_173 rfl e12 ?_
  refine jx_load c1 hm rfl rfl rfl rfl ?_
  refine jx_geti c1 hm rfl sh_173 rfl k12 ?_
  refine jy_ic c1 hm rfl (by decide) ?_
  refine jc_ne c1 hm 46 rfl rfl (fun h13 => ?_) (fun h13 => ?_)
  ·
   refine jy_ic c1 hm rfl (by decide) ?_
   refine jx_goto c1 hm 51 rfl rfl ?_
   exact jx_retz c2 hm rfl rfl ⟨by omega, by omega⟩ ⟨_, rfl, hH12, hF12, by omega, by omega, (fun t σ g a ha hσ hb hn => rone_go hσ (p4 (by omega)) (FIN.hit hσ ha ⟨by omega, p9, p11, p10⟩ hb hn ((congrArg Int64.toInt kw7).symm.trans (hσ.word (hσ.kind.symm.trans (p4 (by omega)).1))) (by omega)) ha rfl k12 n12 q12), ((LFr.rf _ _).eq q12)⟩
  refine jx_load c1 hm rfl rfl rfl rfl ?_
  refine jy_ic c1 hm rfl (by decide) ?_
  obtain ⟨z14, k15, lz14, uz14⟩ := hH12.ld (c := 173) (i := 6) (A := 0) (B := 940) (bs_28_3 _ _ (by omega) (by omega))
  refine jv_i c3 hm rfl pj_X12_bad rfl rfl ⟨_, _, _, rfl, sh_173⟩ rfl ((ct_X12_bad_173p X (by omega) M12 hH12 3 ⟨by omega, by omega⟩).le (by decide)) (fun z16 M20 ⟨hH20, hR20, lz16, uz16, p17, p18, p19⟩ => ?_)
  have hF20 := hF12.tr hR20 (by decide +kernel)
  obtain ⟨z21, k22, lz21, uz21⟩ := hH20.ld (c := 173) (i := 11) (A := 0) (B := 940) (bs_28_6 _ _ (by omega) (by omega))
  refine jz_eq c1 hm 50 rfl rfl (fun h23 => ?_) (fun h23 => ?_)
  ·
   refine jy_ic c1 hm rfl (by decide) ?_
   exact jx_retz c2 hm rfl rfl ⟨by omega, by omega⟩ ⟨_, rfl, hH20, hF20, by omega, by omega, (fun t σ g a ha hσ hb hn => rone_no hσ (Or.inr (FIN.miss hσ ha ⟨by omega, p9, p11, p10⟩ hb hn ((congrArg Int64.toInt kw7).symm.trans (hσ.word (hσ.kind.symm.trans (p4 (by omega)).1))) (by omega))) (by omega) (p18.trans (n12 173 6 (by decide)))), (((LFr.rf _ _).eq q12).tr p19 (by decide +kernel))⟩
  exfalso; omega
 refine jx_load c1 hm rfl rfl rfl rfl ?_
 refine jy_ic c1 hm rfl (by decide) ?_
 obtain ⟨z24, k25, lz24, uz24⟩ := hH0.ld (c := 173) (i := 6) (A := 0) (B := 940) (bs_28_3 _ _ (by omega) (by omega))
 refine jv_i c3 hm rfl pj_X12_bad rfl rfl ⟨_, _, _, rfl, sh_173⟩ rfl ((ct_X12_bad_173p X (by omega) M0 hH0 1 ⟨by omega, by omega⟩).le (by decide)) (fun z26 M30 ⟨hH30, hR30, lz26, uz26, p27, p28, p29⟩ => ?_)
 have hF30 := hF0.tr hR30 (by decide +kernel)
 obtain ⟨z31, k32, lz31, uz31⟩ := hH30.ld (c := 173) (i := 11) (A := 0) (B := 940) (bs_28_6 _ _ (by omega) (by omega))
 exact jx_retz c2 hm rfl rfl ⟨by omega, by omega⟩ ⟨_, rfl, hH30, hF30, by omega, by omega, (fun t σ g a ha hσ hb hn => rone_no hσ (Or.inl (fun y => (p5.resolve_left (by omega)).elim (fun y2 => y2 y.1) (fun y2 => absurd y2 (by have y3 := y.2; omega)))) (by omega) p28), ((LFr.rf _ _).tr p29 (by decide +kernel))⟩
def ml_X12_put_173p : List (Nat × (Nat × Nat)) := []
def md_X12_put_173p : List (Nat × (Nat × Nat)) := [(176, (3, 100))]
theorem ct_X12_put_173p (X : Int) (hX : 0 ≤ X ∧ X ≤ 100000000) (M0 : JM) (hH0 : HI X M0) (a0 : Int) (ha0 : 3 ≤ a0 ∧ a0 ≤ 100) (a1 : Int) (ha1 : 0 ≤ a1 ∧ a1 ≤ 1) (hp0 : a1 = 0 ∨ ((bnd X 176 (a0).toNat).1 ≤ M0.1 173 13 ∧ M0.1 173 13 ≤ (bnd X 176 (a0).toNat).2)) : JOk shp PJ 1 151 [.inr (.inr (.inl 173)), .inl a0, .inl a1] M0 (jRi (fun v M' => HI X M' ∧ Fr md_X12_put_173p M0 M' ∧ 0 ≤ v ∧ v ≤ 1 ∧ (v = a1) ∧ (∀ c i : Nat, ¬ (c = 176 ∧ i = (a0).toNat) → M'.1 c i = M0.1 c i) ∧ (a1 = 0 ∨ M'.1 176 (a0).toNat = M0.1 173 13) ∧ (LFr ml_X12_put_173p M0 M'))) := by
 refine ⟨jr_X12_put, pj_X12_put, fun F c1 c2 c3 => ?_⟩
 have hm := pj_X12_put
 change F 0 [some (.inr (.inr (.inl 173))), some (.inl a0), some (.inl a1)] [] M0
 have hF0 : Fr md_X12_put_173p M0 M0 := Fr.rf _ _
 obtain ⟨z1, k2, lz1, uz1⟩ := hH0.ld (c := 173) (i := 13) (A := (-2147483648)) (B := 2147483647) (bs_28_7 _ _ (by omega) (by omega))
 refine jx_load c1 hm rfl rfl rfl rfl ?_
 refine jz_eq c1 hm 14 rfl rfl (fun h3 => ?_) (fun h3 => ?_)
 ·
  refine jx_load c1 hm rfl rfl rfl rfl ?_
  exact jx_retz c2 hm rfl rfl ⟨by omega, by omega⟩ ⟨_, rfl, hH0, hF0, by omega, by omega, (by omega), (fun c i _ => rfl), (Or.inl (by omega)), (LFr.rf _ _)⟩
 refine jx_load c1 hm rfl rfl rfl rfl ?_
 refine jx_getr c1 hm rfl sh_173 rfl ?_
 refine jx_load c1 hm rfl rfl rfl rfl ?_
 refine jx_load c1 hm rfl rfl rfl rfl ?_
 refine jx_geti c1 hm rfl sh_173 rfl k2 ?_
 obtain ⟨M4, e4, hH4, hF4, k4, n4, q4⟩ := mup hH0 hF0 (c := 176) (i := (a0).toNat) (v := z1) (A := (bnd (X) 176 (a0).toNat).1) (B := (bnd (X) 176 (a0).toNat).2) rfl (by omega) (jin_of 0 rfl ⟨by omega, by omega⟩)
 refine jm_iast c1 hm rfl sh_176 ⟨by omega, by omega⟩ e4 ?_
 refine jx_load c1 hm rfl rfl rfl rfl ?_
 have k5 : M4.1 173 13 = z1 := (n4 173 13 (fun h => absurd h.1 (by decide))).trans k2
 exact jx_retz c2 hm rfl rfl ⟨by omega, by omega⟩ ⟨_, rfl, hH4, hF4, by omega, by omega, (by omega), n4, (Or.inr (by omega)), ((LFr.rf _ _).eq q4)⟩
