/-! Contracts of the reference (by wip/q/wlk.py). -/
theorem ct_X12_isLetter (X : Int) (hX : 0 ≤ X ∧ X ≤ 100000000) (M0 : JM) (hH0 : HI X M0) (a0 : Int) (ha0 : (-2147483648) ≤ a0 ∧ a0 ≤ 2147483647) : JOk shp PJ 1 119 [.inl a0] M0 (jRi (fun v M' => M0 = M' ∧ 0 ≤ v ∧ v ≤ 1 ∧ (v = 1 → 97 ≤ a0 ∧ a0 ≤ 122) ∧ (v = 1 ∨ a0 < 97 ∨ 122 < a0))) := by
 refine ⟨jr_X12_isLetter, pj_X12_isLetter, fun F c1 c2 c3 => ?_⟩
 have hm := pj_X12_isLetter
 change F 0 [some (.inl a0)] [] M0
 refine jx_load c1 hm rfl rfl rfl rfl ?_
 refine jy_bp c1 hm rfl (by decide) ?_
 refine jc_lt c1 hm 16 rfl rfl (fun h1 => ?_) (fun h1 => ?_)
 ·
  refine jy_ic c1 hm rfl (by decide) ?_
  exact jx_retz c2 hm rfl rfl ⟨by omega, by omega⟩ ⟨_, rfl, rfl, by omega, by omega, (by omega), (by omega)⟩
 refine jx_load c1 hm rfl rfl rfl rfl ?_
 refine jy_bp c1 hm rfl (by decide) ?_
 refine jc_gt c1 hm 16 rfl rfl (fun h2 => ?_) (fun h2 => ?_)
 ·
  refine jy_ic c1 hm rfl (by decide) ?_
  exact jx_retz c2 hm rfl rfl ⟨by omega, by omega⟩ ⟨_, rfl, rfl, by omega, by omega, (by omega), (by omega)⟩
 refine jy_ic c1 hm rfl (by decide) ?_
 refine jx_goto c1 hm 17 rfl rfl ?_
 exact jx_retz c2 hm rfl rfl ⟨by omega, by omega⟩ ⟨_, rfl, rfl, by omega, by omega, (by omega), (by omega)⟩
theorem ct_X12_isDigit (X : Int) (hX : 0 ≤ X ∧ X ≤ 100000000) (M0 : JM) (hH0 : HI X M0) (a0 : Int) (ha0 : (-2147483648) ≤ a0 ∧ a0 ≤ 2147483647) : JOk shp PJ 1 115 [.inl a0] M0 (jRi (fun v M' => M0 = M' ∧ 0 ≤ v ∧ v ≤ 1 ∧ (v = 1 → 48 ≤ a0 ∧ a0 ≤ 57) ∧ (v = 1 ∨ a0 < 48 ∨ 57 < a0))) := by
 refine ⟨jr_X12_isDigit, pj_X12_isDigit, fun F c1 c2 c3 => ?_⟩
 have hm := pj_X12_isDigit
 change F 0 [some (.inl a0)] [] M0
 refine jx_load c1 hm rfl rfl rfl rfl ?_
 refine jy_bp c1 hm rfl (by decide) ?_
 refine jc_lt c1 hm 16 rfl rfl (fun h1 => ?_) (fun h1 => ?_)
 ·
  refine jy_ic c1 hm rfl (by decide) ?_
  exact jx_retz c2 hm rfl rfl ⟨by omega, by omega⟩ ⟨_, rfl, rfl, by omega, by omega, (by omega), (by omega)⟩
 refine jx_load c1 hm rfl rfl rfl rfl ?_
 refine jy_bp c1 hm rfl (by decide) ?_
 refine jc_gt c1 hm 16 rfl rfl (fun h2 => ?_) (fun h2 => ?_)
 ·
  refine jy_ic c1 hm rfl (by decide) ?_
  exact jx_retz c2 hm rfl rfl ⟨by omega, by omega⟩ ⟨_, rfl, rfl, by omega, by omega, (by omega), (by omega)⟩
 refine jy_ic c1 hm rfl (by decide) ?_
 refine jx_goto c1 hm 17 rfl rfl ?_
 exact jx_retz c2 hm rfl rfl ⟨by omega, by omega⟩ ⟨_, rfl, rfl, by omega, by omega, (by omega), (by omega)⟩
theorem ct_X12_tapeAt_173 (X : Int) (hX : 0 ≤ X ∧ X ≤ 100000000) (M0 : JM) (hH0 : HI X M0) (a0 : Int) (ha0 : 0 ≤ a0 ∧ a0 ≤ 940) : JOk shp PJ 1 190 [.inr (.inr (.inl 173)), .inl a0] M0 (jRi (fun v M' => M0 = M' ∧ 0 ≤ v ∧ v ≤ 255 ∧ (v = 0 ∨ a0 < M0.1 173 3) ∧ (M0.1 173 3 ≤ a0 ∨ v = M0.1 174 (a0).toNat))) := by
 refine ⟨jr_X12_tapeAt, pj_X12_tapeAt, fun F c1 c2 c3 => ?_⟩
 have hm := pj_X12_tapeAt
 change F 0 [some (.inr (.inr (.inl 173))), some (.inl a0)] [] M0
 obtain ⟨z1, k2, lz1, uz1⟩ := hH0.ld (c := 173) (i := 3) (A := 0) (B := 940) (bs_28_1 _ _ (by omega) (by omega))
 refine jx_load c1 hm rfl rfl rfl rfl ?_
 refine jx_load c1 hm rfl rfl rfl rfl ?_
 refine jx_geti c1 hm rfl sh_173 rfl k2 ?_
 refine jc_ge c1 hm 17 rfl rfl (fun h3 => ?_) (fun h3 => ?_)
 ·
  refine jy_ic c1 hm rfl (by decide) ?_
  exact jx_reti c2 hm rfl rfl ⟨_, rfl, rfl, by omega, by omega, (by omega), (by omega)⟩
 refine jx_load c1 hm rfl rfl rfl rfl ?_
 refine jx_getr c1 hm rfl sh_173 rfl ?_
 refine jx_load c1 hm rfl rfl rfl rfl ?_
 obtain ⟨z4, k5, lz4, uz4⟩ := hH0.ld (c := 174) (i := (a0).toNat) (A := 0) (B := 255) rfl
 refine jx_iald c1 hm rfl sh_174 ⟨by omega, by omega⟩ k5 ?_
 refine jx_goto c1 hm 18 rfl rfl ?_
 exact jx_reti c2 hm rfl rfl ⟨_, rfl, rfl, by omega, by omega, (by omega), (by omega)⟩
def md_X12_go_173 : List (Nat × (Nat × Nat)) := [(173, (5, 5)), (173, (6, 6)), (173, (7, 7)), (173, (8, 8)), (173, (9, 9))]
set_option maxHeartbeats 30000000 in
theorem ct_X12_go_173 (X : Int) (hX : 0 ≤ X ∧ X ≤ 100000000) (M0 : JM) (hH0 : HI X M0)  : JOk shp PJ 2 107 [.inr (.inr (.inl 173))] M0 (jRv (fun M' => HI X M' ∧ Fr md_X12_go_173 M0 M' ∧ (M0.1 173 5 ≤ M'.1 173 5) ∧ (M'.1 173 7 ≤ 1 ∨ M0.1 173 5 < M'.1 173 5))) := by
 refine ⟨jr_X12_go, pj_X12_go, fun F c1 c2 c3 => ?_⟩
 have hm := pj_X12_go
 change F 0 [some (.inr (.inr (.inl 173))), none, none, none, none] [] M0
 have hF0 : Fr md_X12_go_173 M0 M0 := Fr.rf _ _
 obtain ⟨z1, k2, lz1, uz1⟩ := hH0.ld (c := 173) (i := 5) (A := 0) (B := 940) (bs_28_3 _ _ (by omega) (by omega))
 obtain ⟨z3, k4, lz3, uz3⟩ := hH0.ld (c := 173) (i := 3) (A := 0) (B := 940) (bs_28_1 _ _ (by omega) (by omega))
 obtain ⟨z5, k6, lz5, uz5⟩ := hH0.ld (c := 173) (i := 4) (A := 0) (B := 900) (bs_28_2 _ _ (by omega) (by omega))
 have W13 : ∀ (n14 : Nat) (M7 : JM) (hH7 : HI (X) M7) (hF7 : Fr md_X12_go_173 M0 M7) (k8 : M7.1 173 3 = z3) (k9 : M7.1 173 4 = z5) (b10 : Int) (hb10 : 0 ≤ b10 ∧ b10 ≤ 940) (k11 : M7.1 173 5 = b10) (h12 : M0.1 173 5 ≤ M7.1 173 5), (-b10 + 940) < (n14 : Int) → F 0 [some (.inr (.inr (.inl 173))), none, none, none, none] [] M7 := by
  intro n14
  induction n14 with
  | zero => intros; omega
  | succ n14 ihW13 =>
   intro M7 hH7 hF7 k8 k9 b10 hb10 k11 h12 hrW13
   refine jx_load c1 hm rfl rfl rfl rfl ?_
   refine jx_geti c1 hm rfl sh_173 rfl k11 ?_
   refine jx_load c1 hm rfl rfl rfl rfl ?_
   refine jx_geti c1 hm rfl sh_173 rfl k8 ?_
   have J24 : F 52 [some (.inr (.inr (.inl 173))), none, none, none, none] [] M7 := by
    refine jx_load c1 hm rfl rfl rfl rfl ?_
    refine jx_load c1 hm rfl rfl rfl rfl ?_
    refine jx_geti c1 hm rfl sh_173 rfl k11 ?_
    obtain ⟨M25, e25, hH25, hF25, k25, n25, q25⟩ := mup hH7 hF7 (c := 173) (i := 6) (v := b10) (A := 0) (B := 940) (bs_28_3 _ _ (by omega) (by omega)) ⟨by omega, by omega⟩ (jin_of 1 rfl ⟨by omega, by omega⟩)
    refine jm_puti c1 hm rfl sh_173 rfl e25 ?_
    refine jx_load c1 hm rfl rfl rfl rfl ?_
    have k26 : M25.1 173 3 = z3 := (n25 173 3 (by decide)).trans k8
    refine jx_geti c1 hm rfl sh_173 rfl k26 ?_
    refine jx_load c1 hm rfl rfl rfl rfl ?_
    have k27 : M25.1 173 4 = z5 := (n25 173 4 (by decide)).trans k9
    refine jx_geti c1 hm rfl sh_173 rfl k27 ?_
    have J33 : F 96 [some (.inr (.inr (.inl 173))), none, none, none, none] [] M25 := by
     refine jx_load c1 hm rfl rfl rfl rfl ?_
     have k34 : M25.1 173 5 = b10 := (n25 173 5 (by decide)).trans k11
     refine jx_geti c1 hm rfl sh_173 rfl k34 ?_
     refine jx_load c1 hm rfl rfl rfl rfl ?_
     refine jx_geti c1 hm rfl sh_173 rfl k26 ?_
     refine jc_lt c1 hm 113 rfl rfl (fun h35 => ?_) (fun h35 => ?_)
     ·
      refine jx_load c1 hm rfl rfl rfl rfl ?_
      refine jx_getr c1 hm rfl sh_173 rfl ?_
      refine jx_load c1 hm rfl rfl rfl rfl ?_
      refine jx_geti c1 hm rfl sh_173 rfl k34 ?_
      obtain ⟨z36, k37, lz36, uz36⟩ := hH25.ld (c := 174) (i := (b10).toNat) (A := 0) (B := 255) rfl
      refine jx_iald c1 hm rfl sh_174 ⟨by omega, by omega⟩ k37 ?_
      refine jx_stor c1 hm (L' := [some (.inr (.inr (.inl 173))), some (.inl z36), none, none, none]) rfl rfl rfl rfl rfl ?_
      refine jx_load c1 hm rfl rfl rfl rfl ?_
      refine jt_i c3 hm rfl rfl pj_X12_isLetter rfl rfl rfl ((ct_X12_isLetter X (by omega) M25 hH25 z36 ⟨by omega, by omega⟩).le (by decide)) (fun z38 _ ⟨rfl, lz38, uz38, p39, p40⟩ => ?_)
      have J61 : ∀ (h59 : 48 ≤ z36 ∧ z36 ≤ 122) (h60 : (97 ≤ z36 ∧ z36 ≤ 122) ∨ (48 ≤ z36 ∧ z36 ≤ 57)), F 198 [some (.inr (.inr (.inl 173))), some (.inl z36), none, none, none] [] M25 := by
       intro h59 h60
       refine jx_load c1 hm rfl rfl rfl rfl ?_
       refine jt_i c3 hm rfl rfl pj_X12_isLetter rfl rfl rfl ((ct_X12_isLetter X (by omega) M25 hH25 z36 ⟨by omega, by omega⟩).le (by decide)) (fun z62 _ ⟨rfl, lz62, uz62, p63, p64⟩ => ?_)
       refine jx_stor c1 hm (L' := [some (.inr (.inr (.inl 173))), some (.inl z36), some (.inl z62), none, none]) rfl rfl rfl rfl rfl ?_
       refine jy_ic c1 hm rfl (by decide) ?_
       refine jx_stor c1 hm (L' := [some (.inr (.inr (.inl 173))), some (.inl z36), some (.inl z62), some (.inl 1), none]) rfl rfl rfl rfl rfl ?_
       refine jx_load c1 hm rfl rfl rfl rfl ?_
       refine jx_lcon c1 hm (v := 0) rfl (by decide) ?_
       obtain ⟨M65, e65, hH65, hF65, n65, k65, _⟩ := mul hH25 hF25 (c := 173) (i := 12) (v := 0) (fun _ => lb0)
       refine jm_putl c1 hm rfl sh_173 rfl e65 ?_
       refine jx_load c1 hm rfl rfl rfl rfl ?_
       refine jy_ic c1 hm rfl (by decide) ?_
       obtain ⟨M66, e66, hH66, hF66, k66, n66, q66⟩ := mup hH65 hF65 (c := 173) (i := 8) (v := 0) (A := (-2147483648)) (B := 2147483647) (bs_28_5 _ _ (by omega) (by omega)) ⟨by omega, by omega⟩ (jin_of 3 rfl ⟨by omega, by omega⟩)
       refine jm_puti c1 hm rfl sh_173 rfl e66 ?_
       have k67 : M66.1 173 5 = b10 := (n66 173 5 (by decide)).trans ((n65 173 5).trans k34)
       have k68 : M66.1 173 6 = b10 := (n66 173 6 (by decide)).trans ((n65 173 6).trans k25)
       have k69 : M66.2 173 12 = 0 := (q66 173 12).trans k65
       have t70 : (M66.2 173 12).toInt = 0 := by rw [k69]; decide
       have hw : wbi (M66.1 173 5 - M66.1 173 6) (M66.2 173 12).toInt := wbi_0 (by omega) (by omega)
       refine jx_load c1 hm rfl rfl rfl rfl ?_
       refine jx_load c1 hm rfl rfl rfl rfl ?_
       refine jx_geti c1 hm rfl sh_173 rfl k67 ?_
       have k71 : M66.1 173 3 = z3 := (n66 173 3 (by decide)).trans ((n65 173 3).trans k26)
       refine jv_i c3 hm rfl pj_X12_tapeAt rfl rfl ⟨_, _, _, rfl, sh_173⟩ rfl ((ct_X12_tapeAt_173 X (by omega) M66 hH66 b10 ⟨by omega, by omega⟩).le (by decide)) (fun z72 _ ⟨rfl, lz72, uz72, p73, p74⟩ => ?_)
       have hcz72 : z72 = z36 := (p74.resolve_left (by omega)).trans (((n66 174 _ (fun h => absurd h.1 (by decide))).trans (n65 174 _)).trans k37)
       refine jt_i c3 hm rfl rfl pj_X12_isLetter rfl rfl rfl ((ct_X12_isLetter X (by omega) M66 hH66 z72 ⟨by omega, by omega⟩).le (by decide)) (fun z75 _ ⟨rfl, lz75, uz75, p76, p77⟩ => ?_)
       have J97 : ∀ (h96 : M66.1 173 5 < M66.1 173 3), F 243 [some (.inr (.inr (.inl 173))), some (.inl z36), some (.inl z62), some (.inl 1), none] [] M66 := by
        intro h96
        refine jx_load c1 hm rfl rfl rfl rfl ?_
        refine jx_getr c1 hm rfl sh_173 rfl ?_
        refine jx_load c1 hm rfl rfl rfl rfl ?_
        refine jx_geti c1 hm rfl sh_173 rfl k67 ?_
        obtain ⟨z98, k99, lz98, uz98⟩ := hH66.ld (c := 174) (i := (b10).toNat) (A := 0) (B := 255) rfl
        refine jx_iald c1 hm rfl sh_174 ⟨by omega, by omega⟩ k99 ?_
        refine jx_stor c1 hm (L' := [some (.inr (.inr (.inl 173))), some (.inl z36), some (.inl z62), some (.inl 1), some (.inl z98)]) rfl rfl rfl rfl rfl ?_
        refine jx_load c1 hm rfl rfl rfl rfl ?_
        have J106 : ∀ (b105 : Int) (hb105 : 0 ≤ b105 ∧ b105 ≤ 1), F 272 [some (.inr (.inr (.inl 173))), some (.inl z36), some (.inl z62), some (.inl 1), some (.inl z98)] [.inl b105] M66 := by
         intro b105 hb105
         refine jx_stor c1 hm (L' := [some (.inr (.inr (.inl 173))), some (.inl z36), some (.inl z62), some (.inl b105), some (.inl z98)]) rfl rfl rfl rfl rfl ?_
         refine jx_load c1 hm rfl rfl rfl rfl ?_
         refine jx_geti c1 hm rfl sh_173 rfl k67 ?_
         refine jx_load c1 hm rfl rfl rfl rfl ?_
         refine jx_geti c1 hm rfl sh_173 rfl k68 ?_
         refine jy_sub c1 hm 0 rfl (by omega) ?_
         refine jy_bp c1 hm rfl (by decide) ?_
         refine jc_ge c1 hm 307 rfl rfl (fun h107 => ?_) (fun h107 => ?_)
         ·
          exfalso; omega
         refine jx_load c1 hm rfl rfl rfl rfl ?_
         refine jx_ldc2 c1 hm (v := 27) rfl (by decide) ?_
         refine jx_load c1 hm rfl rfl rfl rfl ?_
         refine jx_getl c1 hm rfl sh_173 rfl k69 ?_
         have hwb := wbi_b hw (by omega)
         refine jx_lop c1 hm rfl rfl (fun w108 ew108 => ?_)
         have tw108 : w108.toInt = 27 * 0 := jl_mul ew108 (by decide) (by decide) (by omega)
         clear ew108
         refine jx_load c1 hm rfl rfl rfl rfl ?_
         refine jx_i2l c1 hm rfl (fun w109 ew109 => ?_)
         have tw109 : w109.toInt = z98 := jl_i2l ew109 (by omega)
         clear ew109
         refine jx_lop c1 hm rfl rfl (fun w110 ew110 => ?_)
         have tw110 : w110.toInt = w108.toInt + w109.toInt := jl_add ew110 rfl rfl (by omega)
         clear ew110
         refine jx_ldc2 c1 hm (v := 96) rfl (by decide) ?_
         refine jx_lop c1 hm rfl rfl (fun w111 ew111 => ?_)
         have tw111 : w111.toInt = w110.toInt - 96 := jl_sub ew111 rfl (by decide) (by omega)
         clear ew111
         have bw111 : LB w111.toInt := by unfold LB; omega
         obtain ⟨M112, e112, hH112, hF112, n112, k112, _⟩ := mul hH66 hF66 (c := 173) (i := 12) (v := w111) (fun _ => bw111)
         refine jm_putl c1 hm rfl sh_173 rfl e112 ?_
         refine jx_load c1 hm rfl rfl rfl rfl ?_
         have k113 : M112.1 173 5 = b10 := (n112 173 5).trans k67
         refine jx_geti c1 hm rfl sh_173 rfl k113 ?_
         refine jx_load c1 hm rfl rfl rfl rfl ?_
         have k114 : M112.1 173 6 = b10 := (n112 173 6).trans k68
         refine jx_geti c1 hm rfl sh_173 rfl k114 ?_
         refine jy_sub c1 hm 0 rfl (by omega) ?_
         refine jy_ic c1 hm rfl (by decide) ?_
         refine jc_ge c1 hm 337 rfl rfl (fun h115 => ?_) (fun h115 => ?_)
         ·
          exfalso; omega
         refine jx_load c1 hm rfl rfl rfl rfl ?_
         refine jy_bp c1 hm rfl (by decide) ?_
         refine jx_load c1 hm rfl rfl rfl rfl ?_
         have k116 : M112.1 173 8 = 0 := (n112 173 8).trans k66
         refine jx_geti c1 hm rfl sh_173 rfl k116 ?_
         refine jy_mul c1 hm 0 rfl (by omega) ?_
         refine jx_load c1 hm rfl rfl rfl rfl ?_
         refine jy_add c1 hm z98 rfl (by omega) ?_
         refine jy_bp c1 hm rfl (by decide) ?_
         refine jy_sub c1 hm (z98 - 48) rfl (by omega) ?_
         obtain ⟨M117, e117, hH117, hF117, k117, n117, q117⟩ := mup hH112 hF112 (c := 173) (i := 8) (v := (z98 - 48)) (A := (-2147483648)) (B := 2147483647) (bs_28_5 _ _ (by omega) (by omega)) ⟨by omega, by omega⟩ (jin_of 3 rfl ⟨by omega, by omega⟩)
         refine jm_puti c1 hm rfl sh_173 rfl e117 ?_
         refine jx_load c1 hm rfl rfl rfl rfl ?_
         refine jx_dup c1 hm rfl rfl ?_
         have k118 : M117.1 173 5 = b10 := (n117 173 5 (by decide)).trans k113
         refine jx_geti c1 hm rfl sh_173 rfl k118 ?_
         refine jy_ic c1 hm rfl (by decide) ?_
         refine jy_add c1 hm (b10 + 1) rfl (by omega) ?_
         obtain ⟨M119, e119, hH119, hF119, k119, n119, q119⟩ := mup hH117 hF117 (c := 173) (i := 5) (v := (b10 + 1)) (A := 0) (B := 940) (bs_28_3 _ _ (by omega) (by omega)) ⟨by omega, by omega⟩ (jin_of 0 rfl ⟨by omega, by omega⟩)
         refine jm_puti c1 hm rfl sh_173 rfl e119 ?_
         refine jx_goto c1 hm 215 rfl rfl ?_
         have W138 : ∀ (n139 : Nat) (b120 : Int) (hb120 : 0 ≤ b120 ∧ b120 ≤ 1) (o121 : Option JV) (ho121 : o121 = none ∨ (∃ z, o121 = some (.inl z)) ∨ ∃ r, o121 = some (.inr (.inr r))) (M122 : JM) (hH122 : HI (X) M122) (hF122 : Fr md_X12_go_173 M0 M122) (k124 : M122.1 173 3 = z3) (k126 : M122.1 173 4 = z5) (b127 : Int) (hb127 : 1 ≤ b127 ∧ b127 ≤ 940) (k128 : M122.1 173 5 = b127) (k130 : M122.1 173 6 = b10) (b132 : Int) (hb132 : (-2147483648) ≤ b132 ∧ b132 ≤ 2147483647) (k133 : M122.1 173 8 = b132) (h134 : M122.1 173 6 < M122.1 173 5 ∧ M0.1 173 5 ≤ M122.1 173 6) (hw : wbi (M122.1 173 5 - M122.1 173 6) (M122.2 173 12).toInt), (-b127 + 940) < (n139 : Int) → F 215 [some (.inr (.inr (.inl 173))), some (.inl z36), some (.inl z62), some (.inl b120), o121] [] M122 := by
          intro n139
          induction n139 with
          | zero => intros; omega
          | succ n139 ihW138 =>
           intro b120 hb120 o121 ho121 M122 hH122 hF122 k124 k126 b127 hb127 k128 k130 b132 hb132 k133 h134 hw hrW138
           refine jx_load c1 hm rfl rfl rfl rfl ?_
           refine jx_load c1 hm rfl rfl rfl rfl ?_
           refine jx_geti c1 hm rfl sh_173 rfl k128 ?_
           refine jv_i c3 hm rfl pj_X12_tapeAt rfl rfl ⟨_, _, _, rfl, sh_173⟩ rfl ((ct_X12_tapeAt_173 X (by omega) M122 hH122 b127 ⟨by omega, by omega⟩).le (by decide)) (fun z140 _ ⟨rfl, lz140, uz140, p141, p142⟩ => ?_)
           skip
           refine jt_i c3 hm rfl rfl pj_X12_isLetter rfl rfl rfl ((ct_X12_isLetter X (by omega) M122 hH122 z140 ⟨by omega, by omega⟩).le (by decide)) (fun z143 _ ⟨rfl, lz143, uz143, p144, p145⟩ => ?_)
           have J165 : ∀ (h164 : M122.1 173 5 < M122.1 173 3), F 243 [some (.inr (.inr (.inl 173))), some (.inl z36), some (.inl z62), some (.inl b120), o121] [] M122 := by
            intro h164
            refine jx_load c1 hm rfl rfl rfl rfl ?_
            refine jx_getr c1 hm rfl sh_173 rfl ?_
            refine jx_load c1 hm rfl rfl rfl rfl ?_
            refine jx_geti c1 hm rfl sh_173 rfl k128 ?_
            obtain ⟨z166, k167, lz166, uz166⟩ := hH122.ld (c := 174) (i := (b127).toNat) (A := 0) (B := 255) rfl
            refine jx_iald c1 hm rfl sh_174 ⟨by omega, by omega⟩ k167 ?_
            refine jx_stor c1 hm (L' := [some (.inr (.inr (.inl 173))), some (.inl z36), some (.inl z62), some (.inl b120), some (.inl z166)]) rfl rfl rfl rfl rfl ?_
            refine jx_load c1 hm rfl rfl rfl rfl ?_
            have J174 : ∀ (b173 : Int) (hb173 : 0 ≤ b173 ∧ b173 ≤ 1), F 272 [some (.inr (.inr (.inl 173))), some (.inl z36), some (.inl z62), some (.inl b120), some (.inl z166)] [.inl b173] M122 := by
             intro b173 hb173
             refine jx_stor c1 hm (L' := [some (.inr (.inr (.inl 173))), some (.inl z36), some (.inl z62), some (.inl b173), some (.inl z166)]) rfl rfl rfl rfl rfl ?_
             refine jx_load c1 hm rfl rfl rfl rfl ?_
             refine jx_geti c1 hm rfl sh_173 rfl k128 ?_
             refine jx_load c1 hm rfl rfl rfl rfl ?_
             refine jx_geti c1 hm rfl sh_173 rfl k130 ?_
             refine jy_sub c1 hm (-b10 + b127) rfl (by omega) ?_
             refine jy_bp c1 hm rfl (by decide) ?_
             have J197 : ∀ (M182 : JM) (hH182 : HI (X) M182) (hF182 : Fr md_X12_go_173 M0 M182) (k184 : M182.1 173 3 = z3) (k186 : M182.1 173 4 = z5) (k188 : M182.1 173 5 = b127) (k190 : M182.1 173 6 = b10) (k192 : M182.1 173 8 = b132) (hw2 : wbi (M182.1 173 5 - M182.1 173 6 + 1) (M182.2 173 12).toInt), F 307 [some (.inr (.inr (.inl 173))), some (.inl z36), some (.inl z62), some (.inl b173), some (.inl z166)] [] M182 := by
              intro M182 hH182 hF182 k184 k186 k188 k190 k192 hw2
              refine jx_load c1 hm rfl rfl rfl rfl ?_
              refine jx_geti c1 hm rfl sh_173 rfl k188 ?_
              refine jx_load c1 hm rfl rfl rfl rfl ?_
              refine jx_geti c1 hm rfl sh_173 rfl k190 ?_
              refine jy_sub c1 hm (-b10 + b127) rfl (by omega) ?_
              refine jy_ic c1 hm rfl (by decide) ?_
              have J218 : ∀ (M203 : JM) (hH203 : HI (X) M203) (hF203 : Fr md_X12_go_173 M0 M203) (k205 : M203.1 173 3 = z3) (k207 : M203.1 173 4 = z5) (k209 : M203.1 173 5 = b127) (k211 : M203.1 173 6 = b10) (b212 : Int) (hb212 : (-2147483648) ≤ b212 ∧ b212 ≤ 2147483647) (k213 : M203.1 173 8 = b212) (hw3 : wbi (M203.1 173 5 - M203.1 173 6 + 1) (M203.2 173 12).toInt), F 337 [some (.inr (.inr (.inl 173))), some (.inl z36), some (.inl z62), some (.inl b173), some (.inl z166)] [] M203 := by
               intro M203 hH203 hF203 k205 k207 k209 k211 b212 hb212 k213 hw3
               refine jx_load c1 hm rfl rfl rfl rfl ?_
               refine jx_dup c1 hm rfl rfl ?_
               refine jx_geti c1 hm rfl sh_173 rfl k209 ?_
               refine jy_ic c1 hm rfl (by decide) ?_
               refine jy_add c1 hm (b127 + 1) rfl (by omega) ?_
               obtain ⟨M219, e219, hH219, hF219, k219, n219, q219⟩ := mup hH203 hF203 (c := 173) (i := 5) (v := (b127 + 1)) (A := 0) (B := 940) (bs_28_3 _ _ (by omega) (by omega)) ⟨by omega, by omega⟩ (jin_of 0 rfl ⟨by omega, by omega⟩)
               refine jm_puti c1 hm rfl sh_173 rfl e219 ?_
               refine jx_goto c1 hm 215 rfl rfl ?_
               have k220 : M219.1 173 3 = z3 := (n219 173 3 (by decide)).trans k205
               have k221 : M219.1 173 4 = z5 := (n219 173 4 (by decide)).trans k207
               have k222 : M219.1 173 6 = b10 := (n219 173 6 (by decide)).trans k211
               have k223 : M219.1 173 8 = b212 := (n219 173 8 (by decide)).trans k213
               have t224 : (M219.2 173 12).toInt = (M203.2 173 12).toInt := by rw [q219 173 12]
               exact ihW138 b173 (by omega) (some (.inl z166)) (Or.inr (Or.inl ⟨_, rfl⟩)) M219 hH219 hF219 k220 k221 (b127 + 1) (by omega) k219 k222 b212 (by omega) k223 (by omega) (wbi_e hw3 (by omega) (by omega)) (by omega)
              refine jc_ge c1 hm 337 rfl rfl (fun h198 => ?_) (fun h198 => ?_)
              ·
               obtain ⟨w215, kw215⟩ : ∃ w, M182.2 173 12 = w := ⟨_, rfl⟩
               have bw215 : LB w215.toInt := kw215 ▸ hH182.2.1 173 12 rfl
               have t216 : (M182.2 173 12).toInt = w215.toInt := by rw [kw215]
               exact J218 M182 hH182 hF182 k184 k186 k188 k190 b132 (by omega) k192 (wbi_e hw2 (by omega) (by omega))
              refine jx_load c1 hm rfl rfl rfl rfl ?_
              refine jy_bp c1 hm rfl (by decide) ?_
              refine jx_load c1 hm rfl rfl rfl rfl ?_
              refine jx_geti c1 hm rfl sh_173 rfl k192 ?_
              refine jx_iopw c1 hm rfl rfl (fun z199 lz199 uz199 => ?_)
              refine jx_load c1 hm rfl rfl rfl rfl ?_
              refine jx_iopw c1 hm rfl rfl (fun z200 lz200 uz200 => ?_)
              refine jy_bp c1 hm rfl (by decide) ?_
              refine jx_iopw c1 hm rfl rfl (fun z201 lz201 uz201 => ?_)
              obtain ⟨M202, e202, hH202, hF202, k202, n202, q202⟩ := mup hH182 hF182 (c := 173) (i := 8) (v := z201) (A := (-2147483648)) (B := 2147483647) (bs_28_5 _ _ (by omega) (by omega)) ⟨by omega, by omega⟩ (jin_of 3 rfl ⟨by omega, by omega⟩)
              refine jm_puti c1 hm rfl sh_173 rfl e202 ?_
              have k204 : M202.1 173 3 = z3 := (n202 173 3 (by decide)).trans k184
              have k206 : M202.1 173 4 = z5 := (n202 173 4 (by decide)).trans k186
              have k208 : M202.1 173 5 = b127 := (n202 173 5 (by decide)).trans k188
              have k210 : M202.1 173 6 = b10 := (n202 173 6 (by decide)).trans k190
              have t217 : (M202.2 173 12).toInt = (M182.2 173 12).toInt := by rw [q202 173 12]
              exact J218 M202 hH202 hF202 k204 k206 k208 k210 z201 (by omega) k202 (wbi_e hw2 (by omega) (by omega))
             refine jc_ge c1 hm 307 rfl rfl (fun h175 => ?_) (fun h175 => ?_)
             ·
              obtain ⟨w194, kw194⟩ : ∃ w, M122.2 173 12 = w := ⟨_, rfl⟩
              have bw194 : LB w194.toInt := kw194 ▸ hH122.2.1 173 12 rfl
              have t195 : (M122.2 173 12).toInt = w194.toInt := by rw [kw194]
              exact J197 M122 hH122 hF122 k124 k126 k128 k130 k133 (wbi_s hw (by omega) (by omega) (by omega))
             refine jx_load c1 hm rfl rfl rfl rfl ?_
             refine jx_ldc2 c1 hm (v := 27) rfl (by decide) ?_
             refine jx_load c1 hm rfl rfl rfl rfl ?_
             obtain ⟨w176, kw176⟩ : ∃ w, M122.2 173 12 = w := ⟨_, rfl⟩
             have bw176 : LB w176.toInt := kw176 ▸ hH122.2.1 173 12 rfl
             have tw176 : (M122.2 173 12).toInt = w176.toInt := by rw [kw176]
             refine jx_getl c1 hm rfl sh_173 rfl kw176 ?_
             have hwb := wbi_b hw (by omega)
             refine jx_lop c1 hm rfl rfl (fun w177 ew177 => ?_)
             have tw177 : w177.toInt = 27 * w176.toInt := jl_mul ew177 (by decide) rfl (by omega)
             clear ew177
             refine jx_load c1 hm rfl rfl rfl rfl ?_
             refine jx_i2l c1 hm rfl (fun w178 ew178 => ?_)
             have tw178 : w178.toInt = z166 := jl_i2l ew178 (by omega)
             clear ew178
             refine jx_lop c1 hm rfl rfl (fun w179 ew179 => ?_)
             have tw179 : w179.toInt = w177.toInt + w178.toInt := jl_add ew179 rfl rfl (by omega)
             clear ew179
             refine jx_ldc2 c1 hm (v := 96) rfl (by decide) ?_
             refine jx_lop c1 hm rfl rfl (fun w180 ew180 => ?_)
             have tw180 : w180.toInt = w179.toInt - 96 := jl_sub ew180 rfl (by decide) (by omega)
             clear ew180
             have bw180 : LB w180.toInt := by unfold LB; omega
             obtain ⟨M181, e181, hH181, hF181, n181, k181, _⟩ := mul hH122 hF122 (c := 173) (i := 12) (v := w180) (fun _ => bw180)
             refine jm_putl c1 hm rfl sh_173 rfl e181 ?_
             have k183 : M181.1 173 3 = z3 := (n181 173 3).trans k124
             have k185 : M181.1 173 4 = z5 := (n181 173 4).trans k126
             have k187 : M181.1 173 5 = b127 := (n181 173 5).trans k128
             have k189 : M181.1 173 6 = b10 := (n181 173 6).trans k130
             have k191 : M181.1 173 8 = b132 := (n181 173 8).trans k133
             have t196 : (M181.2 173 12).toInt = w180.toInt := by rw [k181]
             exact J197 M181 hH181 hF181 k183 k185 k187 k189 k191 (wbi_u hw (by omega) (by omega) (by omega))
            refine jz_eq c1 hm 271 rfl rfl (fun h168 => ?_) (fun h168 => ?_)
            ·
             refine jy_ic c1 hm rfl (by decide) ?_
             exact J174 0 (by omega)
            refine jx_load c1 hm rfl rfl rfl rfl ?_
            refine jt_i c3 hm rfl rfl pj_X12_isLetter rfl rfl rfl ((ct_X12_isLetter X (by omega) M122 hH122 z166 ⟨by omega, by omega⟩).le (by decide)) (fun z169 _ ⟨rfl, lz169, uz169, p170, p171⟩ => ?_)
            refine jx_load c1 hm rfl rfl rfl rfl ?_
            refine jc_ne c1 hm 271 rfl rfl (fun h172 => ?_) (fun h172 => ?_)
            ·
             refine jy_ic c1 hm rfl (by decide) ?_
             exact J174 0 (by omega)
            refine jy_ic c1 hm rfl (by decide) ?_
            refine jx_goto c1 hm 272 rfl rfl ?_
            exact J174 1 (by omega)
           refine jz_ne c1 hm 243 rfl rfl (fun h146 => ?_) (fun h146 => ?_)
           ·
            exact J165 (by omega)
           refine jx_load c1 hm rfl rfl rfl rfl ?_
           refine jx_load c1 hm rfl rfl rfl rfl ?_
           refine jx_geti c1 hm rfl sh_173 rfl k128 ?_
           refine jv_i c3 hm rfl pj_X12_tapeAt rfl rfl ⟨_, _, _, rfl, sh_173⟩ rfl ((ct_X12_tapeAt_173 X (by omega) M122 hH122 b127 ⟨by omega, by omega⟩).le (by decide)) (fun z147 _ ⟨rfl, lz147, uz147, p148, p149⟩ => ?_)
           skip
           refine jt_i c3 hm rfl rfl pj_X12_isDigit rfl rfl rfl ((ct_X12_isDigit X (by omega) M122 hH122 z147 ⟨by omega, by omega⟩).le (by decide)) (fun z150 _ ⟨rfl, lz150, uz150, p151, p152⟩ => ?_)
           refine jz_eq c1 hm 350 rfl rfl (fun h153 => ?_) (fun h153 => ?_)
           ·
            refine jx_load c1 hm rfl rfl rfl rfl ?_
            refine jx_load c1 hm rfl rfl rfl rfl ?_
            have J161 : ∀ (b160 : Int) (hb160 : 1 ≤ b160 ∧ b160 ≤ 3), F 390 [some (.inr (.inr (.inl 173))), some (.inl z36), some (.inl z62), some (.inl b120), o121] [.inl b160, .inr (.inr (.inl 173))] M122 := by
             intro b160 hb160
             obtain ⟨M162, e162, hH162, hF162, k162, n162, q162⟩ := mup hH122 hF122 (c := 173) (i := 7) (v := b160) (A := 0) (B := 4) (bs_28_4 _ _ (by omega) (by omega)) ⟨by omega, by omega⟩ (jin_of 2 rfl ⟨by omega, by omega⟩)
             refine jm_puti c1 hm rfl sh_173 rfl e162 ?_
             have k163 : M162.1 173 5 = b127 := (n162 173 5 (by decide)).trans k128
             exact jx_retv c2 hm rfl rfl ⟨rfl, hH162, hF162, (by omega), (by omega)⟩
            refine jz_eq c1 hm 377 rfl rfl (fun h154 => ?_) (fun h154 => ?_)
            ·
             refine jy_ic c1 hm rfl (by decide) ?_
             refine jx_goto c1 hm 390 rfl rfl ?_
             exact J161 1 (by omega)
            refine jx_load c1 hm rfl rfl rfl rfl ?_
            refine jx_geti c1 hm rfl sh_173 rfl k128 ?_
            refine jx_load c1 hm rfl rfl rfl rfl ?_
            refine jx_geti c1 hm rfl sh_173 rfl k130 ?_
            refine jy_sub c1 hm (-b10 + b127) rfl (by omega) ?_
            refine jx_load c1 hm rfl rfl rfl rfl ?_
            have J157 : ∀ (b156 : Int) (hb156 : 3 ≤ b156 ∧ b156 ≤ 7), F 374 [some (.inr (.inr (.inl 173))), some (.inl z36), some (.inl z62), some (.inl b120), o121] [.inl b156, .inl (-b10 + b127), .inr (.inr (.inl 173))] M122 := by
             intro b156 hb156
             refine jc_le c1 hm 381 rfl rfl (fun h158 => ?_) (fun h158 => ?_)
             ·
              refine jx_load c1 hm rfl rfl rfl rfl ?_
              refine jz_eq c1 hm 389 rfl rfl (fun h159 => ?_) (fun h159 => ?_)
              ·
               refine jy_ic c1 hm rfl (by decide) ?_
               exact J161 3 (by omega)
              refine jy_ic c1 hm rfl (by decide) ?_
              refine jx_goto c1 hm 390 rfl rfl ?_
              exact J161 2 (by omega)
             refine jy_ic c1 hm rfl (by decide) ?_
             refine jx_goto c1 hm 390 rfl rfl ?_
             exact J161 1 (by omega)
            refine jz_eq c1 hm 373 rfl rfl (fun h155 => ?_) (fun h155 => ?_)
            ·
             refine jy_ic c1 hm rfl (by decide) ?_
             exact J157 3 (by omega)
            refine jy_bp c1 hm rfl (by decide) ?_
            refine jx_goto c1 hm 374 rfl rfl ?_
            exact J157 7 (by omega)
           exact J165 (by omega)
         have k123 : M119.1 173 3 = z3 := (n119 173 3 (by decide)).trans ((n117 173 3 (by decide)).trans ((n112 173 3).trans k71))
         have k125 : M119.1 173 4 = z5 := (n119 173 4 (by decide)).trans ((n117 173 4 (by decide)).trans ((n112 173 4).trans ((n66 173 4 (by decide)).trans ((n65 173 4).trans k27))))
         have k129 : M119.1 173 6 = b10 := (n119 173 6 (by decide)).trans ((n117 173 6 (by decide)).trans k114)
         have k131 : M119.1 173 8 = (z98 - 48) := (n119 173 8 (by decide)).trans k117
         have k136 : M119.2 173 12 = w111 := (q119 173 12).trans ((q117 173 12).trans k112)
         have t137 : (M119.2 173 12).toInt = w111.toInt := by rw [k136]
         exact W138 ((-b10 + 939) + 1 : Int).toNat b105 (by omega) (some (.inl z98)) (Or.inr (Or.inl ⟨_, rfl⟩)) M119 hH119 hF119 k123 k125 (b10 + 1) (by omega) k119 k129 (z98 - 48) (by omega) k131 (by omega) (wbi_u hw (by omega) (by omega) (by omega)) (by omega)
        refine jz_eq c1 hm 271 rfl rfl (fun h100 => ?_) (fun h100 => ?_)
        ·
         exfalso; omega
        refine jx_load c1 hm rfl rfl rfl rfl ?_
        refine jt_i c3 hm rfl rfl pj_X12_isLetter rfl rfl rfl ((ct_X12_isLetter X (by omega) M66 hH66 z98 ⟨by omega, by omega⟩).le (by decide)) (fun z101 _ ⟨rfl, lz101, uz101, p102, p103⟩ => ?_)
        refine jx_load c1 hm rfl rfl rfl rfl ?_
        refine jc_ne c1 hm 271 rfl rfl (fun h104 => ?_) (fun h104 => ?_)
        ·
         refine jy_ic c1 hm rfl (by decide) ?_
         exact J106 0 (by omega)
        refine jy_ic c1 hm rfl (by decide) ?_
        refine jx_goto c1 hm 272 rfl rfl ?_
        exact J106 1 (by omega)
       refine jz_ne c1 hm 243 rfl rfl (fun h78 => ?_) (fun h78 => ?_)
       ·
        exact J97 (by omega)
       refine jx_load c1 hm rfl rfl rfl rfl ?_
       refine jx_load c1 hm rfl rfl rfl rfl ?_
       refine jx_geti c1 hm rfl sh_173 rfl k67 ?_
       refine jv_i c3 hm rfl pj_X12_tapeAt rfl rfl ⟨_, _, _, rfl, sh_173⟩ rfl ((ct_X12_tapeAt_173 X (by omega) M66 hH66 b10 ⟨by omega, by omega⟩).le (by decide)) (fun z79 _ ⟨rfl, lz79, uz79, p80, p81⟩ => ?_)
       have hcz79 : z79 = z36 := (p81.resolve_left (by omega)).trans (((n66 174 _ (fun h => absurd h.1 (by decide))).trans (n65 174 _)).trans k37)
       refine jt_i c3 hm rfl rfl pj_X12_isDigit rfl rfl rfl ((ct_X12_isDigit X (by omega) M66 hH66 z79 ⟨by omega, by omega⟩).le (by decide)) (fun z82 _ ⟨rfl, lz82, uz82, p83, p84⟩ => ?_)
       refine jz_eq c1 hm 350 rfl rfl (fun h85 => ?_) (fun h85 => ?_)
       ·
        refine jx_load c1 hm rfl rfl rfl rfl ?_
        refine jx_load c1 hm rfl rfl rfl rfl ?_
        have J93 : ∀ (b92 : Int) (hb92 : 2 ≤ b92 ∧ b92 ≤ 3), F 390 [some (.inr (.inr (.inl 173))), some (.inl z36), some (.inl z62), some (.inl 1), none] [.inl b92, .inr (.inr (.inl 173))] M66 := by
         intro b92 hb92
         obtain ⟨M94, e94, hH94, hF94, k94, n94, q94⟩ := mup hH66 hF66 (c := 173) (i := 7) (v := b92) (A := 0) (B := 4) (bs_28_4 _ _ (by omega) (by omega)) ⟨by omega, by omega⟩ (jin_of 2 rfl ⟨by omega, by omega⟩)
         refine jm_puti c1 hm rfl sh_173 rfl e94 ?_
         have k95 : M94.1 173 5 = b10 := (n94 173 5 (by decide)).trans k67
         exact jx_retv c2 hm rfl rfl ⟨rfl, hH94, hF94, (by omega), (by omega)⟩
        refine jz_eq c1 hm 377 rfl rfl (fun h86 => ?_) (fun h86 => ?_)
        ·
         exfalso; omega
        refine jx_load c1 hm rfl rfl rfl rfl ?_
        refine jx_geti c1 hm rfl sh_173 rfl k67 ?_
        refine jx_load c1 hm rfl rfl rfl rfl ?_
        refine jx_geti c1 hm rfl sh_173 rfl k68 ?_
        refine jy_sub c1 hm 0 rfl (by omega) ?_
        refine jx_load c1 hm rfl rfl rfl rfl ?_
        have J89 : ∀ (b88 : Int) (hb88 : 3 ≤ b88 ∧ b88 ≤ 7), F 374 [some (.inr (.inr (.inl 173))), some (.inl z36), some (.inl z62), some (.inl 1), none] [.inl b88, .inl 0, .inr (.inr (.inl 173))] M66 := by
         intro b88 hb88
         refine jc_le c1 hm 381 rfl rfl (fun h90 => ?_) (fun h90 => ?_)
         ·
          refine jx_load c1 hm rfl rfl rfl rfl ?_
          refine jz_eq c1 hm 389 rfl rfl (fun h91 => ?_) (fun h91 => ?_)
          ·
           refine jy_ic c1 hm rfl (by decide) ?_
           exact J93 3 (by omega)
          refine jy_ic c1 hm rfl (by decide) ?_
          refine jx_goto c1 hm 390 rfl rfl ?_
          exact J93 2 (by omega)
         exfalso; omega
        refine jz_eq c1 hm 373 rfl rfl (fun h87 => ?_) (fun h87 => ?_)
        ·
         refine jy_ic c1 hm rfl (by decide) ?_
         exact J89 3 (by omega)
        refine jy_bp c1 hm rfl (by decide) ?_
        refine jx_goto c1 hm 374 rfl rfl ?_
        exact J89 7 (by omega)
       exact J97 (by omega)
      refine jz_ne c1 hm 198 rfl rfl (fun h41 => ?_) (fun h41 => ?_)
      ·
       exact J61 (by omega) (by omega)
      refine jx_load c1 hm rfl rfl rfl rfl ?_
      refine jt_i c3 hm rfl rfl pj_X12_isDigit rfl rfl rfl ((ct_X12_isDigit X (by omega) M25 hH25 z36 ⟨by omega, by omega⟩).le (by decide)) (fun z42 _ ⟨rfl, lz42, uz42, p43, p44⟩ => ?_)
      refine jz_ne c1 hm 198 rfl rfl (fun h45 => ?_) (fun h45 => ?_)
      ·
       exact J61 (by omega) (by omega)
      refine jx_load c1 hm rfl rfl rfl rfl ?_
      refine jx_load c1 hm rfl rfl rfl rfl ?_
      refine jy_bp c1 hm rfl (by decide) ?_
      have J53 : ∀ (b52 : Int) (hb52 : 1 ≤ b52 ∧ b52 ≤ 4), F 179 [some (.inr (.inr (.inl 173))), some (.inl z36), none, none, none] [.inl b52, .inr (.inr (.inl 173))] M25 := by
       intro b52 hb52
       obtain ⟨M54, e54, hH54, hF54, k54, n54, q54⟩ := mup hH25 hF25 (c := 173) (i := 7) (v := b52) (A := 0) (B := 4) (bs_28_4 _ _ (by omega) (by omega)) ⟨by omega, by omega⟩ (jin_of 2 rfl ⟨by omega, by omega⟩)
       refine jm_puti c1 hm rfl sh_173 rfl e54 ?_
       refine jx_load c1 hm rfl rfl rfl rfl ?_
       refine jx_load c1 hm rfl rfl rfl rfl ?_
       obtain ⟨M55, e55, hH55, hF55, k55, n55, q55⟩ := mup hH54 hF54 (c := 173) (i := 9) (v := z36) (A := (-2147483648)) (B := 2147483647) (bs_28_5 _ _ (by omega) (by omega)) ⟨by omega, by omega⟩ (jin_of 4 rfl ⟨by omega, by omega⟩)
       refine jm_puti c1 hm rfl sh_173 rfl e55 ?_
       refine jx_load c1 hm rfl rfl rfl rfl ?_
       refine jx_dup c1 hm rfl rfl ?_
       have k56 : M55.1 173 5 = b10 := (n55 173 5 (by decide)).trans ((n54 173 5 (by decide)).trans k34)
       refine jx_geti c1 hm rfl sh_173 rfl k56 ?_
       refine jy_ic c1 hm rfl (by decide) ?_
       refine jy_add c1 hm (b10 + 1) rfl (by omega) ?_
       obtain ⟨M57, e57, hH57, hF57, k57, n57, q57⟩ := mup hH55 hF55 (c := 173) (i := 5) (v := (b10 + 1)) (A := 0) (B := 940) (bs_28_3 _ _ (by omega) (by omega)) ⟨by omega, by omega⟩ (jin_of 0 rfl ⟨by omega, by omega⟩)
       refine jm_puti c1 hm rfl sh_173 rfl e57 ?_
       have k58 : M57.1 173 7 = b52 := (n57 173 7 (by decide)).trans ((n55 173 7 (by decide)).trans k54)
       exact jx_retv c2 hm rfl rfl ⟨rfl, hH57, hF57, (by omega), (by omega)⟩
      refine jc_eq c1 hm 174 rfl rfl (fun h46 => ?_) (fun h46 => ?_)
      ·
       refine jy_ic c1 hm rfl (by decide) ?_
       refine jx_goto c1 hm 179 rfl rfl ?_
       exact J53 4 (by omega)
      refine jx_load c1 hm rfl rfl rfl rfl ?_
      refine jy_bp c1 hm rfl (by decide) ?_
      refine jc_eq c1 hm 174 rfl rfl (fun h47 => ?_) (fun h47 => ?_)
      ·
       refine jy_ic c1 hm rfl (by decide) ?_
       refine jx_goto c1 hm 179 rfl rfl ?_
       exact J53 4 (by omega)
      refine jx_load c1 hm rfl rfl rfl rfl ?_
      refine jy_bp c1 hm rfl (by decide) ?_
      refine jc_eq c1 hm 174 rfl rfl (fun h48 => ?_) (fun h48 => ?_)
      ·
       refine jy_ic c1 hm rfl (by decide) ?_
       refine jx_goto c1 hm 179 rfl rfl ?_
       exact J53 4 (by omega)
      refine jx_load c1 hm rfl rfl rfl rfl ?_
      refine jy_bp c1 hm rfl (by decide) ?_
      refine jc_eq c1 hm 174 rfl rfl (fun h49 => ?_) (fun h49 => ?_)
      ·
       refine jy_ic c1 hm rfl (by decide) ?_
       refine jx_goto c1 hm 179 rfl rfl ?_
       exact J53 4 (by omega)
      refine jx_load c1 hm rfl rfl rfl rfl ?_
      refine jy_bp c1 hm rfl (by decide) ?_
      refine jc_eq c1 hm 174 rfl rfl (fun h50 => ?_) (fun h50 => ?_)
      ·
       refine jy_ic c1 hm rfl (by decide) ?_
       refine jx_goto c1 hm 179 rfl rfl ?_
       exact J53 4 (by omega)
      refine jx_load c1 hm rfl rfl rfl rfl ?_
      refine jy_bp c1 hm rfl (by decide) ?_
      refine jc_ne c1 hm 178 rfl rfl (fun h51 => ?_) (fun h51 => ?_)
      ·
       refine jy_ic c1 hm rfl (by decide) ?_
       exact J53 1 (by omega)
      refine jy_ic c1 hm rfl (by decide) ?_
      refine jx_goto c1 hm 179 rfl rfl ?_
      exact J53 4 (by omega)
     refine jx_load c1 hm rfl rfl rfl rfl ?_
     refine jy_ic c1 hm rfl (by decide) ?_
     obtain ⟨M225, e225, hH225, hF225, k225, n225, q225⟩ := mup hH25 hF25 (c := 173) (i := 7) (v := 0) (A := 0) (B := 4) (bs_28_4 _ _ (by omega) (by omega)) ⟨by omega, by omega⟩ (jin_of 2 rfl ⟨by omega, by omega⟩)
     refine jm_puti c1 hm rfl sh_173 rfl e225 ?_
     have k226 : M225.1 173 5 = b10 := (n225 173 5 (by decide)).trans k34
     exact jx_retv c2 hm rfl rfl ⟨rfl, hH225, hF225, (by omega), (by omega)⟩
    refine jc_le c1 hm 96 rfl rfl (fun h28 => ?_) (fun h28 => ?_)
    ·
     exact J33 
    refine jx_load c1 hm rfl rfl rfl rfl ?_
    refine jx_geti c1 hm rfl sh_173 rfl k25 ?_
    refine jx_load c1 hm rfl rfl rfl rfl ?_
    refine jx_geti c1 hm rfl sh_173 rfl k27 ?_
    refine jc_lt c1 hm 96 rfl rfl (fun h29 => ?_) (fun h29 => ?_)
    ·
     exact J33 
    refine jx_load c1 hm rfl rfl rfl rfl ?_
    refine jx_load c1 hm rfl rfl rfl rfl ?_
    refine jx_geti c1 hm rfl sh_173 rfl k27 ?_
    obtain ⟨M30, e30, hH30, hF30, k30, n30, q30⟩ := mup hH25 hF25 (c := 173) (i := 6) (v := z5) (A := 0) (B := 940) (bs_28_3 _ _ (by omega) (by omega)) ⟨by omega, by omega⟩ (jin_of 1 rfl ⟨by omega, by omega⟩)
    refine jm_puti c1 hm rfl sh_173 rfl e30 ?_
    refine jx_load c1 hm rfl rfl rfl rfl ?_
    refine jy_ic c1 hm rfl (by decide) ?_
    obtain ⟨M31, e31, hH31, hF31, k31, n31, q31⟩ := mup hH30 hF30 (c := 173) (i := 7) (v := 1) (A := 0) (B := 4) (bs_28_4 _ _ (by omega) (by omega)) ⟨by omega, by omega⟩ (jin_of 2 rfl ⟨by omega, by omega⟩)
    refine jm_puti c1 hm rfl sh_173 rfl e31 ?_
    have k32 : M31.1 173 5 = b10 := (n31 173 5 (by decide)).trans ((n30 173 5 (by decide)).trans ((n25 173 5 (by decide)).trans k11))
    exact jx_retv c2 hm rfl rfl ⟨rfl, hH31, hF31, (by omega), (by omega)⟩
   refine jc_ge c1 hm 52 rfl rfl (fun h15 => ?_) (fun h15 => ?_)
   ·
    exact J24 
   refine jx_load c1 hm rfl rfl rfl rfl ?_
   refine jx_getr c1 hm rfl sh_173 rfl ?_
   refine jx_load c1 hm rfl rfl rfl rfl ?_
   refine jx_geti c1 hm rfl sh_173 rfl k11 ?_
   obtain ⟨z16, k17, lz16, uz16⟩ := hH7.ld (c := 174) (i := (b10).toNat) (A := 0) (B := 255) rfl
   refine jx_iald c1 hm rfl sh_174 ⟨by omega, by omega⟩ k17 ?_
   refine jy_bp c1 hm rfl (by decide) ?_
   refine jc_eq c1 hm 39 rfl rfl (fun h18 => ?_) (fun h18 => ?_)
   ·
    refine jx_load c1 hm rfl rfl rfl rfl ?_
    refine jx_dup c1 hm rfl rfl ?_
    refine jx_geti c1 hm rfl sh_173 rfl k11 ?_
    refine jy_ic c1 hm rfl (by decide) ?_
    refine jy_add c1 hm (b10 + 1) rfl (by omega) ?_
    obtain ⟨M19, e19, hH19, hF19, k19, n19, q19⟩ := mup hH7 hF7 (c := 173) (i := 5) (v := (b10 + 1)) (A := 0) (B := 940) (bs_28_3 _ _ (by omega) (by omega)) ⟨by omega, by omega⟩ (jin_of 0 rfl ⟨by omega, by omega⟩)
    refine jm_puti c1 hm rfl sh_173 rfl e19 ?_
    refine jx_goto c1 hm 0 rfl rfl ?_
    have k227 : M19.1 173 3 = z3 := (n19 173 3 (by decide)).trans k8
    have k228 : M19.1 173 4 = z5 := (n19 173 4 (by decide)).trans k9
    exact ihW13 M19 hH19 hF19 k227 k228 (b10 + 1) (by omega) k19 (by omega) (by omega)
   refine jx_load c1 hm rfl rfl rfl rfl ?_
   refine jx_getr c1 hm rfl sh_173 rfl ?_
   refine jx_load c1 hm rfl rfl rfl rfl ?_
   refine jx_geti c1 hm rfl sh_173 rfl k11 ?_
   obtain ⟨z20, k21, lz20, uz20⟩ := hH7.ld (c := 174) (i := (b10).toNat) (A := 0) (B := 255) rfl
   refine jx_iald c1 hm rfl sh_174 ⟨by omega, by omega⟩ k21 ?_
   refine jy_bp c1 hm rfl (by decide) ?_
   refine jc_ne c1 hm 52 rfl rfl (fun h22 => ?_) (fun h22 => ?_)
   ·
    exact J24 
   refine jx_load c1 hm rfl rfl rfl rfl ?_
   refine jx_dup c1 hm rfl rfl ?_
   refine jx_geti c1 hm rfl sh_173 rfl k11 ?_
   refine jy_ic c1 hm rfl (by decide) ?_
   refine jy_add c1 hm (b10 + 1) rfl (by omega) ?_
   obtain ⟨M23, e23, hH23, hF23, k23, n23, q23⟩ := mup hH7 hF7 (c := 173) (i := 5) (v := (b10 + 1)) (A := 0) (B := 940) (bs_28_3 _ _ (by omega) (by omega)) ⟨by omega, by omega⟩ (jin_of 0 rfl ⟨by omega, by omega⟩)
   refine jm_puti c1 hm rfl sh_173 rfl e23 ?_
   refine jx_goto c1 hm 0 rfl rfl ?_
   have k229 : M23.1 173 3 = z3 := (n23 173 3 (by decide)).trans k8
   have k230 : M23.1 173 4 = z5 := (n23 173 4 (by decide)).trans k9
   exact ihW13 M23 hH23 hF23 k229 k230 (b10 + 1) (by omega) k23 (by omega) (by omega)
 exact W13 ((-z1 + 940) + 1 : Int).toNat M0 hH0 hF0 k4 k6 z1 (by omega) k2 (by omega) (by omega)
