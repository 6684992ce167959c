/-! Contracts of the reference (by wip/q/wlk.py). -/
def md_X12_begin_173 : List (Nat × (Nat × Nat)) := [(173, (0, 0)), (173, (2, 2)), (173, (3, 3)), (173, (4, 4)), (173, (5, 5)), (173, (6, 6)), (173, (7, 7)), (173, (8, 8)), (173, (9, 9)), (173, (10, 10))]
theorem ct_X12_begin_173 (X : Int) (hX : 0 ≤ X ∧ X ≤ 100000000) (M0 : JM) (hH0 : HI X M0) (a0 : Int) (ha0 : 0 ≤ a0 ∧ a0 ≤ 900) : JOk shp PJ 3 82 [.inr (.inr (.inl 173)), .inl a0] M0 (jRv (fun M' => HI X M' ∧ Fr md_X12_begin_173 M0 M' )) := by
 refine ⟨jr_X12_begin, pj_X12_begin, fun F c1 c2 c3 => ?_⟩
 have hm := pj_X12_begin
 change F 0 [some (.inr (.inr (.inl 173))), some (.inl a0)] [] M0
 have hF0 : Fr md_X12_begin_173 M0 M0 := Fr.rf _ _
 refine jx_load c1 hm rfl rfl rfl rfl ?_
 refine jy_ic c1 hm rfl (by decide) ?_
 obtain ⟨M1, e1, hH1, hF1, k1, n1, q1⟩ := mup hH0 hF0 (c := 173) (i := 0) (v := 0) (A := (-2147483648)) (B := 2147483647) (bs_28_0 _ _ (by omega) (by omega)) ⟨by omega, by omega⟩ (jin_of 0 rfl ⟨by omega, by omega⟩)
 refine jm_puti c1 hm rfl sh_173 rfl e1 ?_
 refine jx_load c1 hm rfl rfl rfl rfl ?_
 refine jx_load c1 hm rfl rfl rfl rfl ?_
 refine jv_i c3 hm rfl pj_X12_take rfl rfl ⟨_, _, _, rfl, sh_173⟩ rfl ((ct_X12_take_173 X (by omega) M1 hH1 ).le (by decide)) (fun z2 M3 ⟨hH3, hR3, lz2, uz2⟩ => ?_)
 have hF3 := hF1.tr hR3 (by decide +kernel)
 obtain ⟨M4, e4, hH4, hF4, k4, n4, q4⟩ := mup hH3 hF3 (c := 173) (i := 3) (v := z2) (A := 0) (B := 940) (bs_28_1 _ _ (by omega) (by omega)) ⟨by omega, by omega⟩ (jin_of 2 rfl ⟨by omega, by omega⟩)
 refine jm_puti c1 hm rfl sh_173 rfl e4 ?_
 refine jx_load c1 hm rfl rfl rfl rfl ?_
 refine jx_load c1 hm rfl rfl rfl rfl ?_
 obtain ⟨M5, e5, hH5, hF5, k5, n5, q5⟩ := mup hH4 hF4 (c := 173) (i := 4) (v := a0) (A := 0) (B := 900) (bs_28_2 _ _ (by omega) (by omega)) ⟨by omega, by omega⟩ (jin_of 3 rfl ⟨by omega, by omega⟩)
 refine jm_puti c1 hm rfl sh_173 rfl e5 ?_
 refine jx_load c1 hm rfl rfl rfl rfl ?_
 refine jy_ic c1 hm rfl (by decide) ?_
 obtain ⟨M6, e6, hH6, hF6, k6, n6, q6⟩ := mup hH5 hF5 (c := 173) (i := 10) (v := 0) (A := (-2147483648)) (B := 2147483647) (bs_28_5 _ _ (by omega) (by omega)) ⟨by omega, by omega⟩ (jin_of 9 rfl ⟨by omega, by omega⟩)
 refine jm_puti c1 hm rfl sh_173 rfl e6 ?_
 refine jx_load c1 hm rfl rfl rfl rfl ?_
 refine jy_ic c1 hm rfl (by decide) ?_
 obtain ⟨M7, e7, hH7, hF7, k7, n7, q7⟩ := mup hH6 hF6 (c := 173) (i := 5) (v := 0) (A := 0) (B := 940) (bs_28_3 _ _ (by omega) (by omega)) ⟨by omega, by omega⟩ (jin_of 4 rfl ⟨by omega, by omega⟩)
 refine jm_puti c1 hm rfl sh_173 rfl e7 ?_
 refine jx_load c1 hm rfl rfl rfl rfl ?_
 refine jv_v c3 hm rfl pj_X12_go rfl rfl ⟨_, _, _, rfl, sh_173⟩ rfl ((ct_X12_go_173 X (by omega) M7 hH7 ).le (by decide)) (fun M10 ⟨hH10, hR10, p8, p9⟩ => ?_)
 have hF10 := hF7.tr hR10 (by decide +kernel)
 obtain ⟨z11, k12, lz11, uz11⟩ := hH10.ld (c := 173) (i := 5) (A := 0) (B := 940) (bs_28_3 _ _ (by omega) (by omega))
 obtain ⟨z13, k14, lz13, uz13⟩ := hH10.ld (c := 173) (i := 7) (A := 0) (B := 4) (bs_28_4 _ _ (by omega) (by omega))
 exact jx_retv c2 hm rfl rfl ⟨rfl, hH10, hF10⟩
def md_X12_startSo_173 : List (Nat × (Nat × Nat)) := [(175, (101, 475))]
theorem ct_X12_startSo_173 (X : Int) (hX : 0 ≤ X ∧ X ≤ 100000000) (M0 : JM) (hH0 : HI X M0)  : JOk shp PJ 1 184 [.inr (.inr (.inl 173))] M0 (jRv (fun M' => HI X M' ∧ Fr md_X12_startSo_173 M0 M' ∧ (M'.1 175 234 = 0))) := by
 refine ⟨jr_X12_startSo, pj_X12_startSo, fun F c1 c2 c3 => ?_⟩
 have hm := pj_X12_startSo
 change F 0 [some (.inr (.inr (.inl 173))), none] [] M0
 have hF0 : Fr md_X12_startSo_173 M0 M0 := Fr.rf _ _
 refine jy_bp c1 hm rfl (by decide) ?_
 refine jx_stor c1 hm (L' := [some (.inr (.inr (.inl 173))), some (.inl 101)]) rfl rfl rfl rfl rfl ?_
 have W4 : ∀ (n5 : Nat) (b1 : Int) (hb1 : 101 ≤ b1 ∧ b1 ≤ 476) (M2 : JM) (hH2 : HI (X) M2) (hF2 : Fr md_X12_startSo_173 M0 M2) (hz0 : ∀ j : Nat, 101 ≤ j → (j : Int) < b1 → M2.1 175 j = 0), (-b1 + 476) < (n5 : Int) → F 3 [some (.inr (.inr (.inl 173))), some (.inl b1)] [] M2 := by
  intro n5
  induction n5 with
  | zero => intros; omega
  | succ n5 ihW4 =>
   intro b1 hb1 M2 hH2 hF2 hz0 hrW4
   refine jx_load c1 hm rfl rfl rfl rfl ?_
   refine jy_sp c1 hm rfl (by decide) ?_
   refine jc_ge c1 hm 23 rfl rfl (fun h6 => ?_) (fun h6 => ?_)
   ·
    refine jy_ic c1 hm rfl (by decide) ?_
    have h234 : M2.1 175 234 = 0 := hz0 234 (by decide) (by omega)
    refine jx_stor c1 hm (L' := [some (.inr (.inr (.inl 173))), some (.inl 0)]) rfl rfl rfl rfl rfl ?_
    have W11 : ∀ (n12 : Nat) (b8 : Int) (hb8 : 0 ≤ b8 ∧ b8 ≤ 6) (M9 : JM) (hH9 : HI (X) M9) (hF9 : Fr md_X12_startSo_173 M0 M9) (k10 : M9.1 175 234 = 0), (-b8 + 6) < (n12 : Int) → F 25 [some (.inr (.inr (.inl 173))), some (.inl b8)] [] M9 := by
     intro n12
     induction n12 with
     | zero => intros; omega
     | succ n12 ihW11 =>
      intro b8 hb8 M9 hH9 hF9 k10 hrW11
      refine jx_load c1 hm rfl rfl rfl rfl ?_
      refine jy_bp c1 hm rfl (by decide) ?_
      refine jc_ge c1 hm 72 rfl rfl (fun h13 => ?_) (fun h13 => ?_)
      ·
       refine jy_ic c1 hm rfl (by decide) ?_
       refine jx_stor c1 hm (L' := [some (.inr (.inr (.inl 173))), some (.inl 0)]) rfl rfl rfl rfl rfl ?_
       have W23 : ∀ (n24 : Nat) (b20 : Int) (hb20 : 0 ≤ b20 ∧ b20 ≤ 36) (M21 : JM) (hH21 : HI (X) M21) (hF21 : Fr md_X12_startSo_173 M0 M21) (k22 : M21.1 175 234 = 0), (-b20 + 36) < (n24 : Int) → F 74 [some (.inr (.inr (.inl 173))), some (.inl b20)] [] M21 := by
        intro n24
        induction n24 with
        | zero => intros; omega
        | succ n24 ihW23 =>
         intro b20 hb20 M21 hH21 hF21 k22 hrW23
         refine jx_load c1 hm rfl rfl rfl rfl ?_
         refine jy_bp c1 hm rfl (by decide) ?_
         refine jc_ge c1 hm 104 rfl rfl (fun h25 => ?_) (fun h25 => ?_)
         ·
          exact jx_retv c2 hm rfl rfl ⟨rfl, hH21, hF21, (by omega)⟩
         refine jx_load c1 hm rfl rfl rfl rfl ?_
         refine jx_getr c1 hm rfl sh_173 rfl ?_
         refine jy_bp c1 hm rfl (by decide) ?_
         refine jx_load c1 hm rfl rfl rfl rfl ?_
         refine jy_add c1 hm (b20 + 120) rfl (by omega) ?_
         refine jx_load c1 hm rfl rfl rfl rfl ?_
         refine jx_getr c1 hm rfl sh_173 rfl ?_
         refine jy_bp c1 hm rfl (by decide) ?_
         refine jx_load c1 hm rfl rfl rfl rfl ?_
         refine jy_add c1 hm (b20 + 65) rfl (by omega) ?_
         obtain ⟨z26, k27, lz26, uz26⟩ := hH21.ld (c := 175) (i := ((b20 + 65)).toNat) (A := (-2147483648)) (B := 2147483647) (bs_11_7 _ _ (by omega) (by omega))
         refine jx_iald c1 hm rfl sh_175 ⟨by omega, by omega⟩ k27 ?_
         obtain ⟨M28, e28, hH28, hF28, k28, n28, q28⟩ := mup hH21 hF21 (c := 175) (i := ((b20 + 120)).toNat) (v := z26) (A := (-2147483648)) (B := 2147483647) (bs_11_9 _ _ (by omega) (by omega)) ⟨by omega, by omega⟩ (jin_of 0 rfl ⟨by omega, by omega⟩)
         refine jm_iast c1 hm rfl sh_175 ⟨by omega, by omega⟩ e28 ?_
         refine jx_iinc c1 hm (v := (b20 + 1)) (L' := [some (.inr (.inr (.inl 173))), some (.inl (b20 + 1))]) rfl rfl (by omega) (by omega) rfl ?_
         refine jx_goto c1 hm 74 rfl rfl ?_
         have k29 : M28.1 175 234 = 0 := (n28 175 234 (by omega)).trans k22
         exact ihW23 (b20 + 1) (by omega) M28 hH28 hF28 k29 (by omega)
       exact W23 (36 + 1 : Int).toNat 0 (by omega) M9 hH9 hF9 k10 (by omega)
      refine jx_load c1 hm rfl rfl rfl rfl ?_
      refine jx_getr c1 hm rfl sh_173 rfl ?_
      refine jy_bp c1 hm rfl (by decide) ?_
      refine jx_load c1 hm rfl rfl rfl rfl ?_
      refine jy_add c1 hm (b8 + 102) rfl (by omega) ?_
      refine jx_load c1 hm rfl rfl rfl rfl ?_
      refine jx_getr c1 hm rfl sh_173 rfl ?_
      refine jy_ic c1 hm rfl (by decide) ?_
      refine jx_load c1 hm rfl rfl rfl rfl ?_
      refine jy_add c1 hm (b8 + 5) rfl (by omega) ?_
      obtain ⟨z14, k15, lz14, uz14⟩ := hH9.ld (c := 175) (i := ((b8 + 5)).toNat) (A := 0) (B := 99) (bs_11_2 _ _ (by omega) (by omega))
      refine jx_iald c1 hm rfl sh_175 ⟨by omega, by omega⟩ k15 ?_
      obtain ⟨M16, e16, hH16, hF16, k16, n16, q16⟩ := mup hH9 hF9 (c := 175) (i := ((b8 + 102)).toNat) (v := z14) (A := (-20) * X) (B := 99) (bs_11_8 _ _ (by omega) (by omega)) ⟨by omega, by omega⟩ (jin_of 0 rfl ⟨by omega, by omega⟩)
      refine jm_iast c1 hm rfl sh_175 ⟨by omega, by omega⟩ e16 ?_
      refine jx_load c1 hm rfl rfl rfl rfl ?_
      refine jx_getr c1 hm rfl sh_173 rfl ?_
      refine jy_bp c1 hm rfl (by decide) ?_
      refine jx_load c1 hm rfl rfl rfl rfl ?_
      refine jy_add c1 hm (b8 + 114) rfl (by omega) ?_
      refine jx_load c1 hm rfl rfl rfl rfl ?_
      refine jx_getr c1 hm rfl sh_173 rfl ?_
      refine jy_bp c1 hm rfl (by decide) ?_
      refine jx_load c1 hm rfl rfl rfl rfl ?_
      refine jy_add c1 hm (b8 + 59) rfl (by omega) ?_
      obtain ⟨z17, k18, lz17, uz17⟩ := hH16.ld (c := 175) (i := ((b8 + 59)).toNat) (A := 0) (B := 20) (bs_11_6 _ _ (by omega) (by omega))
      refine jx_iald c1 hm rfl sh_175 ⟨by omega, by omega⟩ k18 ?_
      obtain ⟨M19, e19, hH19, hF19, k19, n19, q19⟩ := mup hH16 hF16 (c := 175) (i := ((b8 + 114)).toNat) (v := z17) (A := (-2147483648)) (B := 2147483647) (bs_11_9 _ _ (by omega) (by omega)) ⟨by omega, by omega⟩ (jin_of 0 rfl ⟨by omega, by omega⟩)
      refine jm_iast c1 hm rfl sh_175 ⟨by omega, by omega⟩ e19 ?_
      refine jx_iinc c1 hm (v := (b8 + 1)) (L' := [some (.inr (.inr (.inl 173))), some (.inl (b8 + 1))]) rfl rfl (by omega) (by omega) rfl ?_
      refine jx_goto c1 hm 25 rfl rfl ?_
      have k30 : M19.1 175 234 = 0 := (n19 175 234 (by omega)).trans ((n16 175 234 (by omega)).trans k10)
      exact ihW11 (b8 + 1) (by omega) M19 hH19 hF19 k30 (by omega)
    exact W11 (6 + 1 : Int).toNat 0 (by omega) M2 hH2 hF2 h234 (by omega)
   refine jx_load c1 hm rfl rfl rfl rfl ?_
   refine jx_getr c1 hm rfl sh_173 rfl ?_
   refine jx_load c1 hm rfl rfl rfl rfl ?_
   refine jy_ic c1 hm rfl (by decide) ?_
   obtain ⟨M7, e7, hH7, hF7, k7, n7, q7⟩ := mup hH2 hF2 (c := 175) (i := (b1).toNat) (v := 0) (A := (bnd (X) 175 (b1).toNat).1) (B := (bnd (X) 175 (b1).toNat).2) rfl (czn (by omega) (by omega)) (jin_of 0 rfl ⟨by omega, by omega⟩)
   refine jm_iast c1 hm rfl sh_175 ⟨by omega, by omega⟩ e7 ?_
   refine jx_iinc c1 hm (v := (b1 + 1)) (L' := [some (.inr (.inr (.inl 173))), some (.inl (b1 + 1))]) rfl rfl (by omega) (by omega) rfl ?_
   refine jx_goto c1 hm 3 rfl rfl ?_
   exact ihW4 (b1 + 1) (by omega) M7 hH7 hF7 (fun j h1 h2 => if c : (j : Int) < b1 then (n7 175 j (by omega)).trans (hz0 j h1 c) else (by have e : j = (b1).toNat := (by omega); subst e; exact k7)) (by omega)
 exact W4 (375 + 1 : Int).toNat 101 (by omega) M0 hH0 hF0 (fun j h1 h2 => by omega) (by omega)
theorem ct_X12_spelt (X : Int) (hX : 0 ≤ X ∧ X ≤ 100000000) (M0 : JM) (hH0 : HI X M0) (a0 : Int) (ha0 : 0 ≤ a0 ∧ a0 ≤ 122) (a1 : Int) (ha1 : 0 ≤ a1 ∧ a1 ≤ 122) (a2 : Int) (ha2 : 0 ≤ a2 ∧ a2 ≤ 122) (a3 : Int) (ha3 : 0 ≤ a3 ∧ a3 ≤ 122) (a4 : Int) (ha4 : 0 ≤ a4 ∧ a4 ≤ 122) (a5 : Int) (ha5 : 0 ≤ a5 ∧ a5 ≤ 122) (a6 : Int) (ha6 : 0 ≤ a6 ∧ a6 ≤ 122) : JOk shp PJ 1 183 [.inl a0, .inl a1, .inl a2, .inl a3, .inl a4, .inl a5, .inl a6] M0 (jRl (fun v M' => M0 = M' ∧ LB v.toInt )) := by
 refine ⟨jr_X12_spelt, pj_X12_spelt, fun F c1 c2 c3 => ?_⟩
 have hm := pj_X12_spelt
 change F 0 [some (.inl a0), some (.inl a1), some (.inl a2), some (.inl a3), some (.inl a4), some (.inl a5), some (.inl a6), none, none] [] M0
 refine jx_ldc2 c1 hm (v := 27) rfl (by decide) ?_
 refine jx_load c1 hm rfl rfl rfl rfl ?_
 refine jx_i2l c1 hm rfl (fun w1 ew1 => ?_)
 have tw1 : w1.toInt = a0 := jl_i2l ew1 (by omega)
 clear ew1
 refine jx_ldc2 c1 hm (v := 96) rfl (by decide) ?_
 refine jx_lop c1 hm rfl rfl (fun w2 ew2 => ?_)
 have tw2 : w2.toInt = w1.toInt - 96 := jl_sub ew2 rfl (by decide) (by omega)
 clear ew2
 refine jx_lop c1 hm rfl rfl (fun w3 ew3 => ?_)
 have tw3 : w3.toInt = 27 * w2.toInt := jl_mul ew3 (by decide) rfl (by omega)
 clear ew3
 refine jx_load c1 hm rfl rfl rfl rfl ?_
 refine jx_i2l c1 hm rfl (fun w4 ew4 => ?_)
 have tw4 : w4.toInt = a1 := jl_i2l ew4 (by omega)
 clear ew4
 refine jx_lop c1 hm rfl rfl (fun w5 ew5 => ?_)
 have tw5 : w5.toInt = w3.toInt + w4.toInt := jl_add ew5 rfl rfl (by omega)
 clear ew5
 refine jx_ldc2 c1 hm (v := 96) rfl (by decide) ?_
 refine jx_lop c1 hm rfl rfl (fun w6 ew6 => ?_)
 have tw6 : w6.toInt = w5.toInt - 96 := jl_sub ew6 rfl (by decide) (by omega)
 clear ew6
 refine jx_stor c1 hm (L' := [some (.inl a0), some (.inl a1), some (.inl a2), some (.inl a3), some (.inl a4), some (.inl a5), some (.inl a6), some (.inr (.inl w6)), none]) rfl rfl rfl rfl rfl ?_
 refine jx_load c1 hm rfl rfl rfl rfl ?_
 have J14 : ∀ (w12 : Int64) (h13 : -72672 ≤ w12.toInt ∧ w12.toInt ≤ 72672), F 38 [some (.inl a0), some (.inl a1), some (.inl a2), some (.inl a3), some (.inl a4), some (.inl a5), some (.inl a6), some (.inr (.inl w12)), none] [] M0 := by
  intro w12 h13
  refine jx_load c1 hm rfl rfl rfl rfl ?_
  have J22 : ∀ (w20 : Int64) (h21 : -1962240 ≤ w20.toInt ∧ w20.toInt ≤ 1962240), F 57 [some (.inl a0), some (.inl a1), some (.inl a2), some (.inl a3), some (.inl a4), some (.inl a5), some (.inl a6), some (.inr (.inl w20)), none] [] M0 := by
   intro w20 h21
   refine jx_load c1 hm rfl rfl rfl rfl ?_
   have J30 : ∀ (w28 : Int64) (h29 : -52980576 ≤ w28.toInt ∧ w28.toInt ≤ 52980576), F 78 [some (.inl a0), some (.inl a1), some (.inl a2), some (.inl a3), some (.inl a4), some (.inl a5), some (.inl a6), some (.inr (.inl w28)), none] [] M0 := by
    intro w28 h29
    refine jx_load c1 hm rfl rfl rfl rfl ?_
    have J38 : ∀ (w36 : Int64) (h37 : -1430475648 ≤ w36.toInt ∧ w36.toInt ≤ 1430475648), F 99 [some (.inl a0), some (.inl a1), some (.inl a2), some (.inl a3), some (.inl a4), some (.inl a5), some (.inl a6), some (.inr (.inl w36)), none] [] M0 := by
     intro w36 h37
     refine jx_load c1 hm rfl rfl rfl rfl ?_
     refine jz_le c1 hm 120 rfl rfl (fun h39 => ?_) (fun h39 => ?_)
     ·
      refine jx_load c1 hm rfl rfl rfl rfl ?_
      have bw36 : LB w36.toInt := by unfold LB; omega
      exact jx_retl c2 hm rfl rfl ⟨_, rfl, rfl, bw36⟩
     refine jx_ldc2 c1 hm (v := 27) rfl (by decide) ?_
     refine jx_load c1 hm rfl rfl rfl rfl ?_
     refine jx_lop c1 hm rfl rfl (fun w40 ew40 => ?_)
     have tw40 : w40.toInt = 27 * w36.toInt := jl_mul ew40 (by decide) rfl (by omega)
     clear ew40
     refine jx_load c1 hm rfl rfl rfl rfl ?_
     refine jx_i2l c1 hm rfl (fun w41 ew41 => ?_)
     have tw41 : w41.toInt = a6 := jl_i2l ew41 (by omega)
     clear ew41
     refine jx_lop c1 hm rfl rfl (fun w42 ew42 => ?_)
     have tw42 : w42.toInt = w40.toInt + w41.toInt := jl_add ew42 rfl rfl (by omega)
     clear ew42
     refine jx_ldc2 c1 hm (v := 96) rfl (by decide) ?_
     refine jx_lop c1 hm rfl rfl (fun w43 ew43 => ?_)
     have tw43 : w43.toInt = w42.toInt - 96 := jl_sub ew43 rfl (by decide) (by omega)
     clear ew43
     refine jx_stor c1 hm (L' := [some (.inl a0), some (.inl a1), some (.inl a2), some (.inl a3), some (.inl a4), some (.inl a5), some (.inl a6), some (.inr (.inl w43)), none]) rfl rfl rfl rfl rfl ?_
     refine jx_load c1 hm rfl rfl rfl rfl ?_
     have bw43 : LB w43.toInt := by unfold LB; omega
     exact jx_retl c2 hm rfl rfl ⟨_, rfl, rfl, bw43⟩
    refine jz_le c1 hm 99 rfl rfl (fun h31 => ?_) (fun h31 => ?_)
    ·
     exact J38 w28 (by omega)
    refine jx_ldc2 c1 hm (v := 27) rfl (by decide) ?_
    refine jx_load c1 hm rfl rfl rfl rfl ?_
    refine jx_lop c1 hm rfl rfl (fun w32 ew32 => ?_)
    have tw32 : w32.toInt = 27 * w28.toInt := jl_mul ew32 (by decide) rfl (by omega)
    clear ew32
    refine jx_load c1 hm rfl rfl rfl rfl ?_
    refine jx_i2l c1 hm rfl (fun w33 ew33 => ?_)
    have tw33 : w33.toInt = a5 := jl_i2l ew33 (by omega)
    clear ew33
    refine jx_lop c1 hm rfl rfl (fun w34 ew34 => ?_)
    have tw34 : w34.toInt = w32.toInt + w33.toInt := jl_add ew34 rfl rfl (by omega)
    clear ew34
    refine jx_ldc2 c1 hm (v := 96) rfl (by decide) ?_
    refine jx_lop c1 hm rfl rfl (fun w35 ew35 => ?_)
    have tw35 : w35.toInt = w34.toInt - 96 := jl_sub ew35 rfl (by decide) (by omega)
    clear ew35
    refine jx_stor c1 hm (L' := [some (.inl a0), some (.inl a1), some (.inl a2), some (.inl a3), some (.inl a4), some (.inl a5), some (.inl a6), some (.inr (.inl w35)), none]) rfl rfl rfl rfl rfl ?_
    exact J38 w35 (by omega)
   refine jz_le c1 hm 78 rfl rfl (fun h23 => ?_) (fun h23 => ?_)
   ·
    exact J30 w20 (by omega)
   refine jx_ldc2 c1 hm (v := 27) rfl (by decide) ?_
   refine jx_load c1 hm rfl rfl rfl rfl ?_
   refine jx_lop c1 hm rfl rfl (fun w24 ew24 => ?_)
   have tw24 : w24.toInt = 27 * w20.toInt := jl_mul ew24 (by decide) rfl (by omega)
   clear ew24
   refine jx_load c1 hm rfl rfl rfl rfl ?_
   refine jx_i2l c1 hm rfl (fun w25 ew25 => ?_)
   have tw25 : w25.toInt = a4 := jl_i2l ew25 (by omega)
   clear ew25
   refine jx_lop c1 hm rfl rfl (fun w26 ew26 => ?_)
   have tw26 : w26.toInt = w24.toInt + w25.toInt := jl_add ew26 rfl rfl (by omega)
   clear ew26
   refine jx_ldc2 c1 hm (v := 96) rfl (by decide) ?_
   refine jx_lop c1 hm rfl rfl (fun w27 ew27 => ?_)
   have tw27 : w27.toInt = w26.toInt - 96 := jl_sub ew27 rfl (by decide) (by omega)
   clear ew27
   refine jx_stor c1 hm (L' := [some (.inl a0), some (.inl a1), some (.inl a2), some (.inl a3), some (.inl a4), some (.inl a5), some (.inl a6), some (.inr (.inl w27)), none]) rfl rfl rfl rfl rfl ?_
   exact J30 w27 (by omega)
  refine jz_le c1 hm 57 rfl rfl (fun h15 => ?_) (fun h15 => ?_)
  ·
   exact J22 w12 (by omega)
  refine jx_ldc2 c1 hm (v := 27) rfl (by decide) ?_
  refine jx_load c1 hm rfl rfl rfl rfl ?_
  refine jx_lop c1 hm rfl rfl (fun w16 ew16 => ?_)
  have tw16 : w16.toInt = 27 * w12.toInt := jl_mul ew16 (by decide) rfl (by omega)
  clear ew16
  refine jx_load c1 hm rfl rfl rfl rfl ?_
  refine jx_i2l c1 hm rfl (fun w17 ew17 => ?_)
  have tw17 : w17.toInt = a3 := jl_i2l ew17 (by omega)
  clear ew17
  refine jx_lop c1 hm rfl rfl (fun w18 ew18 => ?_)
  have tw18 : w18.toInt = w16.toInt + w17.toInt := jl_add ew18 rfl rfl (by omega)
  clear ew18
  refine jx_ldc2 c1 hm (v := 96) rfl (by decide) ?_
  refine jx_lop c1 hm rfl rfl (fun w19 ew19 => ?_)
  have tw19 : w19.toInt = w18.toInt - 96 := jl_sub ew19 rfl (by decide) (by omega)
  clear ew19
  refine jx_stor c1 hm (L' := [some (.inl a0), some (.inl a1), some (.inl a2), some (.inl a3), some (.inl a4), some (.inl a5), some (.inl a6), some (.inr (.inl w19)), none]) rfl rfl rfl rfl rfl ?_
  exact J22 w19 (by omega)
 refine jz_le c1 hm 38 rfl rfl (fun h7 => ?_) (fun h7 => ?_)
 ·
  exact J14 w6 (by omega)
 refine jx_ldc2 c1 hm (v := 27) rfl (by decide) ?_
 refine jx_load c1 hm rfl rfl rfl rfl ?_
 refine jx_lop c1 hm rfl rfl (fun w8 ew8 => ?_)
 have tw8 : w8.toInt = 27 * w6.toInt := jl_mul ew8 (by decide) rfl (by omega)
 clear ew8
 refine jx_load c1 hm rfl rfl rfl rfl ?_
 refine jx_i2l c1 hm rfl (fun w9 ew9 => ?_)
 have tw9 : w9.toInt = a2 := jl_i2l ew9 (by omega)
 clear ew9
 refine jx_lop c1 hm rfl rfl (fun w10 ew10 => ?_)
 have tw10 : w10.toInt = w8.toInt + w9.toInt := jl_add ew10 rfl rfl (by omega)
 clear ew10
 refine jx_ldc2 c1 hm (v := 96) rfl (by decide) ?_
 refine jx_lop c1 hm rfl rfl (fun w11 ew11 => ?_)
 have tw11 : w11.toInt = w10.toInt - 96 := jl_sub ew11 rfl (by decide) (by omega)
 clear ew11
 refine jx_stor c1 hm (L' := [some (.inl a0), some (.inl a1), some (.inl a2), some (.inl a3), some (.inl a4), some (.inl a5), some (.inl a6), some (.inr (.inl w11)), none]) rfl rfl rfl rfl rfl ?_
 exact J14 w11 (by omega)
theorem ct_X12_wordOf (X : Int) (hX : 0 ≤ X ∧ X ≤ 100000000) (M0 : JM) (hH0 : HI X M0) (a0 : Int) (ha0 : (-2147483648) ≤ a0 ∧ a0 ≤ 2147483647) : JOk shp PJ 2 201 [.inl a0] M0 (jRl (fun v M' => M0 = M' ∧ LB v.toInt )) := by
 refine ⟨jr_X12_wordOf, pj_X12_wordOf, fun F c1 c2 c3 => ?_⟩
 have hm := pj_X12_wordOf
 change F 0 [some (.inl a0)] [] M0
 refine jx_load c1 hm rfl rfl rfl rfl ?_
 by_cases h1 : a0 = 0
 ·
  refine jx_tswI c1 hm 108 rfl ⟨by omega, by omega⟩ (by rw [h1] <;> rfl) rfl ?_
  refine jy_bp c1 hm rfl (by decide) ?_
  refine jy_bp c1 hm rfl (by decide) ?_
  refine jy_bp c1 hm rfl (by decide) ?_
  refine jy_ic c1 hm rfl (by decide) ?_
  refine jy_ic c1 hm rfl (by decide) ?_
  refine jy_ic c1 hm rfl (by decide) ?_
  refine jy_ic c1 hm rfl (by decide) ?_
  refine jt_l c3 hm rfl rfl pj_X12_spelt rfl rfl rfl ((ct_X12_spelt X (by omega) M0 hH0 109 ⟨by omega, by omega⟩ 97 ⟨by omega, by omega⟩ 110 ⟨by omega, by omega⟩ 0 ⟨by omega, by omega⟩ 0 ⟨by omega, by omega⟩ 0 ⟨by omega, by omega⟩ 0 ⟨by omega, by omega⟩).le (by decide)) (fun w2 _ ⟨rfl, bw2⟩ => ?_)
  exact jx_retl c2 hm rfl rfl ⟨_, rfl, rfl, bw2⟩
 by_cases h3 : a0 = 1
 ·
  refine jx_tswI c1 hm 122 rfl ⟨by omega, by omega⟩ (by rw [h3] <;> rfl) rfl ?_
  refine jy_bp c1 hm rfl (by decide) ?_
  refine jy_bp c1 hm rfl (by decide) ?_
  refine jy_bp c1 hm rfl (by decide) ?_
  refine jy_bp c1 hm rfl (by decide) ?_
  refine jy_bp c1 hm rfl (by decide) ?_
  refine jy_bp c1 hm rfl (by decide) ?_
  refine jy_bp c1 hm rfl (by decide) ?_
  refine jt_l c3 hm rfl rfl pj_X12_spelt rfl rfl rfl ((ct_X12_spelt X (by omega) M0 hH0 102 ⟨by omega, by omega⟩ 111 ⟨by omega, by omega⟩ 114 ⟨by omega, by omega⟩ 102 ⟨by omega, by omega⟩ 101 ⟨by omega, by omega⟩ 105 ⟨by omega, by omega⟩ 116 ⟨by omega, by omega⟩).le (by decide)) (fun w4 _ ⟨rfl, bw4⟩ => ?_)
  exact jx_retl c2 hm rfl rfl ⟨_, rfl, rfl, bw4⟩
 by_cases h5 : a0 = 2
 ·
  refine jx_tswI c1 hm 140 rfl ⟨by omega, by omega⟩ (by rw [h5] <;> rfl) rfl ?_
  refine jy_bp c1 hm rfl (by decide) ?_
  refine jy_bp c1 hm rfl (by decide) ?_
  refine jy_bp c1 hm rfl (by decide) ?_
  refine jy_bp c1 hm rfl (by decide) ?_
  refine jy_bp c1 hm rfl (by decide) ?_
  refine jy_ic c1 hm rfl (by decide) ?_
  refine jy_ic c1 hm rfl (by decide) ?_
  refine jt_l c3 hm rfl rfl pj_X12_spelt rfl rfl rfl ((ct_X12_spelt X (by omega) M0 hH0 109 ⟨by omega, by omega⟩ 105 ⟨by omega, by omega⟩ 110 ⟨by omega, by omega⟩ 100 ⟨by omega, by omega⟩ 115 ⟨by omega, by omega⟩ 0 ⟨by omega, by omega⟩ 0 ⟨by omega, by omega⟩).le (by decide)) (fun w6 _ ⟨rfl, bw6⟩ => ?_)
  exact jx_retl c2 hm rfl rfl ⟨_, rfl, rfl, bw6⟩
 by_cases h7 : a0 = 3
 ·
  refine jx_tswI c1 hm 156 rfl ⟨by omega, by omega⟩ (by rw [h7] <;> rfl) rfl ?_
  refine jy_bp c1 hm rfl (by decide) ?_
  refine jy_bp c1 hm rfl (by decide) ?_
  refine jy_bp c1 hm rfl (by decide) ?_
  refine jy_bp c1 hm rfl (by decide) ?_
  refine jy_ic c1 hm rfl (by decide) ?_
  refine jy_ic c1 hm rfl (by decide) ?_
  refine jy_ic c1 hm rfl (by decide) ?_
  refine jt_l c3 hm rfl rfl pj_X12_spelt rfl rfl rfl ((ct_X12_spelt X (by omega) M0 hH0 103 ⟨by omega, by omega⟩ 111 ⟨by omega, by omega⟩ 111 ⟨by omega, by omega⟩ 100 ⟨by omega, by omega⟩ 0 ⟨by omega, by omega⟩ 0 ⟨by omega, by omega⟩ 0 ⟨by omega, by omega⟩).le (by decide)) (fun w8 _ ⟨rfl, bw8⟩ => ?_)
  exact jx_retl c2 hm rfl rfl ⟨_, rfl, rfl, bw8⟩
 by_cases h9 : a0 = 4
 ·
  refine jx_tswI c1 hm 171 rfl ⟨by omega, by omega⟩ (by rw [h9] <;> rfl) rfl ?_
  refine jy_bp c1 hm rfl (by decide) ?_
  refine jy_bp c1 hm rfl (by decide) ?_
  refine jy_bp c1 hm rfl (by decide) ?_
  refine jy_bp c1 hm rfl (by decide) ?_
  refine jy_ic c1 hm rfl (by decide) ?_
  refine jy_ic c1 hm rfl (by decide) ?_
  refine jy_ic c1 hm rfl (by decide) ?_
  refine jt_l c3 hm rfl rfl pj_X12_spelt rfl rfl rfl ((ct_X12_spelt X (by omega) M0 hH0 111 ⟨by omega, by omega⟩ 119 ⟨by omega, by omega⟩ 101 ⟨by omega, by omega⟩ 115 ⟨by omega, by omega⟩ 0 ⟨by omega, by omega⟩ 0 ⟨by omega, by omega⟩ 0 ⟨by omega, by omega⟩).le (by decide)) (fun w10 _ ⟨rfl, bw10⟩ => ?_)
  exact jx_retl c2 hm rfl rfl ⟨_, rfl, rfl, bw10⟩
 by_cases h11 : a0 = 5
 ·
  refine jx_tswI c1 hm 186 rfl ⟨by omega, by omega⟩ (by rw [h11] <;> rfl) rfl ?_
  refine jy_bp c1 hm rfl (by decide) ?_
  refine jy_bp c1 hm rfl (by decide) ?_
  refine jy_bp c1 hm rfl (by decide) ?_
  refine jy_bp c1 hm rfl (by decide) ?_
  refine jy_bp c1 hm rfl (by decide) ?_
  refine jy_ic c1 hm rfl (by decide) ?_
  refine jy_ic c1 hm rfl (by decide) ?_
  refine jt_l c3 hm rfl rfl pj_X12_spelt rfl rfl rfl ((ct_X12_spelt X (by omega) M0 hH0 119 ⟨by omega, by omega⟩ 101 ⟨by omega, by omega⟩ 97 ⟨by omega, by omega⟩ 114 ⟨by omega, by omega⟩ 115 ⟨by omega, by omega⟩ 0 ⟨by omega, by omega⟩ 0 ⟨by omega, by omega⟩).le (by decide)) (fun w12 _ ⟨rfl, bw12⟩ => ?_)
  exact jx_retl c2 hm rfl rfl ⟨_, rfl, rfl, bw12⟩
 by_cases h13 : a0 = 6
 ·
  refine jx_tswI c1 hm 202 rfl ⟨by omega, by omega⟩ (by rw [h13] <;> rfl) rfl ?_
  refine jy_bp c1 hm rfl (by decide) ?_
  refine jy_bp c1 hm rfl (by decide) ?_
  refine jy_bp c1 hm rfl (by decide) ?_
  refine jy_bp c1 hm rfl (by decide) ?_
  refine jy_bp c1 hm rfl (by decide) ?_
  refine jy_ic c1 hm rfl (by decide) ?_
  refine jy_ic c1 hm rfl (by decide) ?_
  refine jt_l c3 hm rfl rfl pj_X12_spelt rfl rfl rfl ((ct_X12_spelt X (by omega) M0 hH0 109 ⟨by omega, by omega⟩ 101 ⟨by omega, by omega⟩ 110 ⟨by omega, by omega⟩ 100 ⟨by omega, by omega⟩ 115 ⟨by omega, by omega⟩ 0 ⟨by omega, by omega⟩ 0 ⟨by omega, by omega⟩).le (by decide)) (fun w14 _ ⟨rfl, bw14⟩ => ?_)
  exact jx_retl c2 hm rfl rfl ⟨_, rfl, rfl, bw14⟩
 by_cases h15 : a0 = 7
 ·
  refine jx_tswI c1 hm 218 rfl ⟨by omega, by omega⟩ (by rw [h15] <;> rfl) rfl ?_
  refine jy_bp c1 hm rfl (by decide) ?_
  refine jy_bp c1 hm rfl (by decide) ?_
  refine jy_bp c1 hm rfl (by decide) ?_
  refine jy_bp c1 hm rfl (by decide) ?_
  refine jy_ic c1 hm rfl (by decide) ?_
  refine jy_ic c1 hm rfl (by decide) ?_
  refine jy_ic c1 hm rfl (by decide) ?_
  refine jt_l c3 hm rfl rfl pj_X12_spelt rfl rfl rfl ((ct_X12_spelt X (by omega) M0 hH0 100 ⟨by omega, by omega⟩ 111 ⟨by omega, by omega⟩ 101 ⟨by omega, by omega⟩ 115 ⟨by omega, by omega⟩ 0 ⟨by omega, by omega⟩ 0 ⟨by omega, by omega⟩ 0 ⟨by omega, by omega⟩).le (by decide)) (fun w16 _ ⟨rfl, bw16⟩ => ?_)
  exact jx_retl c2 hm rfl rfl ⟨_, rfl, rfl, bw16⟩
 by_cases h17 : a0 = 8
 ·
  refine jx_tswI c1 hm 233 rfl ⟨by omega, by omega⟩ (by rw [h17] <;> rfl) rfl ?_
  refine jy_bp c1 hm rfl (by decide) ?_
  refine jy_bp c1 hm rfl (by decide) ?_
  refine jy_bp c1 hm rfl (by decide) ?_
  refine jy_bp c1 hm rfl (by decide) ?_
  refine jy_ic c1 hm rfl (by decide) ?_
  refine jy_ic c1 hm rfl (by decide) ?_
  refine jy_ic c1 hm rfl (by decide) ?_
  refine jt_l c3 hm rfl rfl pj_X12_spelt rfl rfl rfl ((ct_X12_spelt X (by omega) M0 hH0 98 ⟨by omega, by omega⟩ 117 ⟨by omega, by omega⟩ 121 ⟨by omega, by omega⟩ 115 ⟨by omega, by omega⟩ 0 ⟨by omega, by omega⟩ 0 ⟨by omega, by omega⟩ 0 ⟨by omega, by omega⟩).le (by decide)) (fun w18 _ ⟨rfl, bw18⟩ => ?_)
  exact jx_retl c2 hm rfl rfl ⟨_, rfl, rfl, bw18⟩
 by_cases h19 : a0 = 9
 ·
  refine jx_tswI c1 hm 248 rfl ⟨by omega, by omega⟩ (by rw [h19] <;> rfl) rfl ?_
  refine jy_bp c1 hm rfl (by decide) ?_
  refine jy_bp c1 hm rfl (by decide) ?_
  refine jy_bp c1 hm rfl (by decide) ?_
  refine jy_bp c1 hm rfl (by decide) ?_
  refine jy_bp c1 hm rfl (by decide) ?_
  refine jy_ic c1 hm rfl (by decide) ?_
  refine jy_ic c1 hm rfl (by decide) ?_
  refine jt_l c3 hm rfl rfl pj_X12_spelt rfl rfl rfl ((ct_X12_spelt X (by omega) M0 hH0 108 ⟨by omega, by omega⟩ 101 ⟨by omega, by omega⟩ 110 ⟨by omega, by omega⟩ 100 ⟨by omega, by omega⟩ 115 ⟨by omega, by omega⟩ 0 ⟨by omega, by omega⟩ 0 ⟨by omega, by omega⟩).le (by decide)) (fun w20 _ ⟨rfl, bw20⟩ => ?_)
  exact jx_retl c2 hm rfl rfl ⟨_, rfl, rfl, bw20⟩
 by_cases h21 : a0 = 10
 ·
  refine jx_tswI c1 hm 264 rfl ⟨by omega, by omega⟩ (by rw [h21] <;> rfl) rfl ?_
  refine jy_bp c1 hm rfl (by decide) ?_
  refine jy_bp c1 hm rfl (by decide) ?_
  refine jy_bp c1 hm rfl (by decide) ?_
  refine jy_bp c1 hm rfl (by decide) ?_
  refine jy_bp c1 hm rfl (by decide) ?_
  refine jy_bp c1 hm rfl (by decide) ?_
  refine jy_ic c1 hm rfl (by decide) ?_
  refine jt_l c3 hm rfl rfl pj_X12_spelt rfl rfl rfl ((ct_X12_spelt X (by omega) M0 hH0 114 ⟨by omega, by omega⟩ 101 ⟨by omega, by omega⟩ 112 ⟨by omega, by omega⟩ 97 ⟨by omega, by omega⟩ 121 ⟨by omega, by omega⟩ 115 ⟨by omega, by omega⟩ 0 ⟨by omega, by omega⟩).le (by decide)) (fun w22 _ ⟨rfl, bw22⟩ => ?_)
  exact jx_retl c2 hm rfl rfl ⟨_, rfl, rfl, bw22⟩
 by_cases h23 : a0 = 11
 ·
  refine jx_tswI c1 hm 281 rfl ⟨by omega, by omega⟩ (by rw [h23] <;> rfl) rfl ?_
  refine jy_bp c1 hm rfl (by decide) ?_
  refine jy_bp c1 hm rfl (by decide) ?_
  refine jy_bp c1 hm rfl (by decide) ?_
  refine jy_bp c1 hm rfl (by decide) ?_
  refine jy_bp c1 hm rfl (by decide) ?_
  refine jy_bp c1 hm rfl (by decide) ?_
  refine jy_ic c1 hm rfl (by decide) ?_
  refine jt_l c3 hm rfl rfl pj_X12_spelt rfl rfl rfl ((ct_X12_spelt X (by omega) M0 hH0 115 ⟨by omega, by omega⟩ 116 ⟨by omega, by omega⟩ 114 ⟨by omega, by omega⟩ 105 ⟨by omega, by omega⟩ 107 ⟨by omega, by omega⟩ 101 ⟨by omega, by omega⟩ 0 ⟨by omega, by omega⟩).le (by decide)) (fun w24 _ ⟨rfl, bw24⟩ => ?_)
  exact jx_retl c2 hm rfl rfl ⟨_, rfl, rfl, bw24⟩
 by_cases h25 : a0 = 12
 ·
  refine jx_tswI c1 hm 298 rfl ⟨by omega, by omega⟩ (by rw [h25] <;> rfl) rfl ?_
  refine jy_bp c1 hm rfl (by decide) ?_
  refine jy_bp c1 hm rfl (by decide) ?_
  refine jy_bp c1 hm rfl (by decide) ?_
  refine jy_bp c1 hm rfl (by decide) ?_
  refine jy_ic c1 hm rfl (by decide) ?_
  refine jy_ic c1 hm rfl (by decide) ?_
  refine jy_ic c1 hm rfl (by decide) ?_
  refine jt_l c3 hm rfl rfl pj_X12_spelt rfl rfl rfl ((ct_X12_spelt X (by omega) M0 hH0 119 ⟨by omega, by omega⟩ 101 ⟨by omega, by omega⟩ 101 ⟨by omega, by omega⟩ 107 ⟨by omega, by omega⟩ 0 ⟨by omega, by omega⟩ 0 ⟨by omega, by omega⟩ 0 ⟨by omega, by omega⟩).le (by decide)) (fun w26 _ ⟨rfl, bw26⟩ => ?_)
  exact jx_retl c2 hm rfl rfl ⟨_, rfl, rfl, bw26⟩
 by_cases h27 : a0 = 13
 ·
  refine jx_tswI c1 hm 313 rfl ⟨by omega, by omega⟩ (by rw [h27] <;> rfl) rfl ?_
  refine jy_bp c1 hm rfl (by decide) ?_
  refine jy_bp c1 hm rfl (by decide) ?_
  refine jy_ic c1 hm rfl (by decide) ?_
  refine jy_ic c1 hm rfl (by decide) ?_
  refine jy_ic c1 hm rfl (by decide) ?_
  refine jy_ic c1 hm rfl (by decide) ?_
  refine jy_ic c1 hm rfl (by decide) ?_
  refine jt_l c3 hm rfl rfl pj_X12_spelt rfl rfl rfl ((ct_X12_spelt X (by omega) M0 hH0 111 ⟨by omega, by omega⟩ 114 ⟨by omega, by omega⟩ 0 ⟨by omega, by omega⟩ 0 ⟨by omega, by omega⟩ 0 ⟨by omega, by omega⟩ 0 ⟨by omega, by omega⟩ 0 ⟨by omega, by omega⟩).le (by decide)) (fun w28 _ ⟨rfl, bw28⟩ => ?_)
  exact jx_retl c2 hm rfl rfl ⟨_, rfl, rfl, bw28⟩
 by_cases h29 : a0 = 14
 ·
  refine jx_tswI c1 hm 326 rfl ⟨by omega, by omega⟩ (by rw [h29] <;> rfl) rfl ?_
  refine jy_bp c1 hm rfl (by decide) ?_
  refine jy_bp c1 hm rfl (by decide) ?_
  refine jy_bp c1 hm rfl (by decide) ?_
  refine jy_ic c1 hm rfl (by decide) ?_
  refine jy_ic c1 hm rfl (by decide) ?_
  refine jy_ic c1 hm rfl (by decide) ?_
  refine jy_ic c1 hm rfl (by decide) ?_
  refine jt_l c3 hm rfl rfl pj_X12_spelt rfl rfl rfl ((ct_X12_spelt X (by omega) M0 hH0 97 ⟨by omega, by omega⟩ 110 ⟨by omega, by omega⟩ 100 ⟨by omega, by omega⟩ 0 ⟨by omega, by omega⟩ 0 ⟨by omega, by omega⟩ 0 ⟨by omega, by omega⟩ 0 ⟨by omega, by omega⟩).le (by decide)) (fun w30 _ ⟨rfl, bw30⟩ => ?_)
  exact jx_retl c2 hm rfl rfl ⟨_, rfl, rfl, bw30⟩
 by_cases h31 : a0 = 15
 ·
  refine jx_tswI c1 hm 340 rfl ⟨by omega, by omega⟩ (by rw [h31] <;> rfl) rfl ?_
  refine jy_bp c1 hm rfl (by decide) ?_
  refine jy_bp c1 hm rfl (by decide) ?_
  refine jy_bp c1 hm rfl (by decide) ?_
  refine jy_ic c1 hm rfl (by decide) ?_
  refine jy_ic c1 hm rfl (by decide) ?_
  refine jy_ic c1 hm rfl (by decide) ?_
  refine jy_ic c1 hm rfl (by decide) ?_
  refine jt_l c3 hm rfl rfl pj_X12_spelt rfl rfl rfl ((ct_X12_spelt X (by omega) M0 hH0 110 ⟨by omega, by omega⟩ 111 ⟨by omega, by omega⟩ 116 ⟨by omega, by omega⟩ 0 ⟨by omega, by omega⟩ 0 ⟨by omega, by omega⟩ 0 ⟨by omega, by omega⟩ 0 ⟨by omega, by omega⟩).le (by decide)) (fun w32 _ ⟨rfl, bw32⟩ => ?_)
  exact jx_retl c2 hm rfl rfl ⟨_, rfl, rfl, bw32⟩
 by_cases h33 : a0 = 16
 ·
  refine jx_tswI c1 hm 354 rfl ⟨by omega, by omega⟩ (by rw [h33] <;> rfl) rfl ?_
  refine jy_bp c1 hm rfl (by decide) ?_
  refine jy_bp c1 hm rfl (by decide) ?_
  refine jy_bp c1 hm rfl (by decide) ?_
  refine jy_bp c1 hm rfl (by decide) ?_
  refine jy_bp c1 hm rfl (by decide) ?_
  refine jy_ic c1 hm rfl (by decide) ?_
  refine jy_ic c1 hm rfl (by decide) ?_
  refine jt_l c3 hm rfl rfl pj_X12_spelt rfl rfl rfl ((ct_X12_spelt X (by omega) M0 hH0 112 ⟨by omega, by omega⟩ 114 ⟨by omega, by omega⟩ 111 ⟨by omega, by omega⟩ 117 ⟨by omega, by omega⟩ 100 ⟨by omega, by omega⟩ 0 ⟨by omega, by omega⟩ 0 ⟨by omega, by omega⟩).le (by decide)) (fun w34 _ ⟨rfl, bw34⟩ => ?_)
  exact jx_retl c2 hm rfl rfl ⟨_, rfl, rfl, bw34⟩
 by_cases h35 : a0 = 17
 ·
  refine jx_tswI c1 hm 370 rfl ⟨by omega, by omega⟩ (by rw [h35] <;> rfl) rfl ?_
  refine jy_bp c1 hm rfl (by decide) ?_
  refine jy_bp c1 hm rfl (by decide) ?_
  refine jy_bp c1 hm rfl (by decide) ?_
  refine jy_bp c1 hm rfl (by decide) ?_
  refine jy_bp c1 hm rfl (by decide) ?_
  refine jy_ic c1 hm rfl (by decide) ?_
  refine jy_ic c1 hm rfl (by decide) ?_
  refine jt_l c3 hm rfl rfl pj_X12_spelt rfl rfl rfl ((ct_X12_spelt X (by omega) M0 hH0 111 ⟨by omega, by omega⟩ 119 ⟨by omega, by omega⟩ 105 ⟨by omega, by omega⟩ 110 ⟨by omega, by omega⟩ 103 ⟨by omega, by omega⟩ 0 ⟨by omega, by omega⟩ 0 ⟨by omega, by omega⟩).le (by decide)) (fun w36 _ ⟨rfl, bw36⟩ => ?_)
  exact jx_retl c2 hm rfl rfl ⟨_, rfl, rfl, bw36⟩
 by_cases h37 : a0 = 18
 ·
  refine jx_tswI c1 hm 386 rfl ⟨by omega, by omega⟩ (by rw [h37] <;> rfl) rfl ?_
  refine jy_bp c1 hm rfl (by decide) ?_
  refine jy_bp c1 hm rfl (by decide) ?_
  refine jy_bp c1 hm rfl (by decide) ?_
  refine jy_ic c1 hm rfl (by decide) ?_
  refine jy_ic c1 hm rfl (by decide) ?_
  refine jy_ic c1 hm rfl (by decide) ?_
  refine jy_ic c1 hm rfl (by decide) ?_
  refine jt_l c3 hm rfl rfl pj_X12_spelt rfl rfl rfl ((ct_X12_spelt X (by omega) M0 hH0 104 ⟨by omega, by omega⟩ 97 ⟨by omega, by omega⟩ 115 ⟨by omega, by omega⟩ 0 ⟨by omega, by omega⟩ 0 ⟨by omega, by omega⟩ 0 ⟨by omega, by omega⟩ 0 ⟨by omega, by omega⟩).le (by decide)) (fun w38 _ ⟨rfl, bw38⟩ => ?_)
  exact jx_retl c2 hm rfl rfl ⟨_, rfl, rfl, bw38⟩
 by_cases h39 : a0 = 19
 ·
  refine jx_tswI c1 hm 400 rfl ⟨by omega, by omega⟩ (by rw [h39] <;> rfl) rfl ?_
  refine jy_bp c1 hm rfl (by decide) ?_
  refine jy_bp c1 hm rfl (by decide) ?_
  refine jy_bp c1 hm rfl (by decide) ?_
  refine jy_ic c1 hm rfl (by decide) ?_
  refine jy_ic c1 hm rfl (by decide) ?_
  refine jy_ic c1 hm rfl (by decide) ?_
  refine jy_ic c1 hm rfl (by decide) ?_
  refine jt_l c3 hm rfl rfl pj_X12_spelt rfl rfl rfl ((ct_X12_spelt X (by omega) M0 hH0 100 ⟨by omega, by omega⟩ 105 ⟨by omega, by omega⟩ 100 ⟨by omega, by omega⟩ 0 ⟨by omega, by omega⟩ 0 ⟨by omega, by omega⟩ 0 ⟨by omega, by omega⟩ 0 ⟨by omega, by omega⟩).le (by decide)) (fun w40 _ ⟨rfl, bw40⟩ => ?_)
  exact jx_retl c2 hm rfl rfl ⟨_, rfl, rfl, bw40⟩
 by_cases h41 : a0 = 20
 ·
  refine jx_tswI c1 hm 414 rfl ⟨by omega, by omega⟩ (by rw [h41] <;> rfl) rfl ?_
  refine jy_bp c1 hm rfl (by decide) ?_
  refine jy_bp c1 hm rfl (by decide) ?_
  refine jy_bp c1 hm rfl (by decide) ?_
  refine jy_bp c1 hm rfl (by decide) ?_
  refine jy_bp c1 hm rfl (by decide) ?_
  refine jy_ic c1 hm rfl (by decide) ?_
  refine jy_ic c1 hm rfl (by decide) ?_
  refine jt_l c3 hm rfl rfl pj_X12_spelt rfl rfl rfl ((ct_X12_spelt X (by omega) M0 hH0 112 ⟨by omega, by omega⟩ 114 ⟨by omega, by omega⟩ 105 ⟨by omega, by omega⟩ 100 ⟨by omega, by omega⟩ 101 ⟨by omega, by omega⟩ 0 ⟨by omega, by omega⟩ 0 ⟨by omega, by omega⟩).le (by decide)) (fun w42 _ ⟨rfl, bw42⟩ => ?_)
  exact jx_retl c2 hm rfl rfl ⟨_, rfl, rfl, bw42⟩
 by_cases h43 : a0 = 21
 ·
  refine jx_tswI c1 hm 430 rfl ⟨by omega, by omega⟩ (by rw [h43] <;> rfl) rfl ?_
  refine jy_bp c1 hm rfl (by decide) ?_
  refine jy_bp c1 hm rfl (by decide) ?_
  refine jy_bp c1 hm rfl (by decide) ?_
  refine jy_bp c1 hm rfl (by decide) ?_
  refine jy_bp c1 hm rfl (by decide) ?_
  refine jy_bp c1 hm rfl (by decide) ?_
  refine jy_ic c1 hm rfl (by decide) ?_
  refine jt_l c3 hm rfl rfl pj_X12_spelt rfl rfl rfl ((ct_X12_spelt X (by omega) M0 hH0 99 ⟨by omega, by omega⟩ 114 ⟨by omega, by omega⟩ 101 ⟨by omega, by omega⟩ 100 ⟨by omega, by omega⟩ 105 ⟨by omega, by omega⟩ 116 ⟨by omega, by omega⟩ 0 ⟨by omega, by omega⟩).le (by decide)) (fun w44 _ ⟨rfl, bw44⟩ => ?_)
  exact jx_retl c2 hm rfl rfl ⟨_, rfl, rfl, bw44⟩
 by_cases h45 : a0 = 22
 ·
  refine jx_tswI c1 hm 447 rfl ⟨by omega, by omega⟩ (by rw [h45] <;> rfl) rfl ?_
  refine jy_bp c1 hm rfl (by decide) ?_
  refine jy_bp c1 hm rfl (by decide) ?_
  refine jy_bp c1 hm rfl (by decide) ?_
  refine jy_bp c1 hm rfl (by decide) ?_
  refine jy_bp c1 hm rfl (by decide) ?_
  refine jy_ic c1 hm rfl (by decide) ?_
  refine jy_ic c1 hm rfl (by decide) ?_
  refine jt_l c3 hm rfl rfl pj_X12_spelt rfl rfl rfl ((ct_X12_spelt X (by omega) M0 hH0 100 ⟨by omega, by omega⟩ 101 ⟨by omega, by omega⟩ 98 ⟨by omega, by omega⟩ 116 ⟨by omega, by omega⟩ 115 ⟨by omega, by omega⟩ 0 ⟨by omega, by omega⟩ 0 ⟨by omega, by omega⟩).le (by decide)) (fun w46 _ ⟨rfl, bw46⟩ => ?_)
  exact jx_retl c2 hm rfl rfl ⟨_, rfl, rfl, bw46⟩
 refine jx_tswO c1 hm 463 rfl (by omega) rfl ?_
 refine jy_bp c1 hm rfl (by decide) ?_
 refine jy_bp c1 hm rfl (by decide) ?_
 refine jy_bp c1 hm rfl (by decide) ?_
 refine jy_bp c1 hm rfl (by decide) ?_
 refine jy_bp c1 hm rfl (by decide) ?_
 refine jy_bp c1 hm rfl (by decide) ?_
 refine jy_ic c1 hm rfl (by decide) ?_
 refine jt_l c3 hm rfl rfl pj_X12_spelt rfl rfl rfl ((ct_X12_spelt X (by omega) M0 hH0 110 ⟨by omega, by omega⟩ 117 ⟨by omega, by omega⟩ 109 ⟨by omega, by omega⟩ 98 ⟨by omega, by omega⟩ 101 ⟨by omega, by omega⟩ 114 ⟨by omega, by omega⟩ 0 ⟨by omega, by omega⟩).le (by decide)) (fun w47 _ ⟨rfl, bw47⟩ => ?_)
 exact jx_retl c2 hm rfl rfl ⟨_, rfl, rfl, bw47⟩
theorem ct_X12_isWord_173 (X : Int) (hX : 0 ≤ X ∧ X ≤ 100000000) (M0 : JM) (hH0 : HI X M0) (a0 : Int) (ha0 : (-2147483648) ≤ a0 ∧ a0 ≤ 2147483647) : JOk shp PJ 3 124 [.inr (.inr (.inl 173)), .inl a0] M0 (jRi (fun v M' => M0 = M' ∧ 0 ≤ v ∧ v ≤ 1 ∧ (v = 1 → M0.1 173 7 = 2))) := by
 refine ⟨jr_X12_isWord, pj_X12_isWord, fun F c1 c2 c3 => ?_⟩
 have hm := pj_X12_isWord
 change F 0 [some (.inr (.inr (.inl 173))), some (.inl a0)] [] M0
 obtain ⟨z1, k2, lz1, uz1⟩ := hH0.ld (c := 173) (i := 7) (A := 0) (B := 4) (bs_28_4 _ _ (by omega) (by omega))
 refine jx_load c1 hm rfl rfl rfl rfl ?_
 refine jx_geti c1 hm rfl sh_173 rfl k2 ?_
 refine jy_ic c1 hm rfl (by decide) ?_
 refine jc_ne c1 hm 24 rfl rfl (fun h3 => ?_) (fun h3 => ?_)
 ·
  refine jy_ic c1 hm rfl (by decide) ?_
  exact jx_retz c2 hm rfl rfl ⟨by omega, by omega⟩ ⟨_, rfl, rfl, by omega, by omega, (by omega)⟩
 refine jx_load c1 hm rfl rfl rfl rfl ?_
 obtain ⟨w4, kw4⟩ : ∃ w, M0.2 173 12 = w := ⟨_, rfl⟩
 have bw4 : LB w4.toInt := kw4 ▸ hH0.2.1 173 12 rfl
 refine jx_getl c1 hm rfl sh_173 rfl kw4 ?_
 refine jx_load c1 hm rfl rfl rfl rfl ?_
 refine jt_l c3 hm rfl rfl pj_X12_wordOf rfl rfl rfl ((ct_X12_wordOf X (by omega) M0 hH0 a0 ⟨by omega, by omega⟩).le (by decide)) (fun w5 _ ⟨rfl, bw5⟩ => ?_)
 refine jx_lcmp c1 hm rfl (fun z6 lz6 uz6 ez6 fz6 => ?_)
 refine jz_ne c1 hm 24 rfl rfl (fun h7 => ?_) (fun h7 => ?_)
 ·
  refine jy_ic c1 hm rfl (by decide) ?_
  exact jx_retz c2 hm rfl rfl ⟨by omega, by omega⟩ ⟨_, rfl, rfl, by omega, by omega, (by omega)⟩
 refine jy_ic c1 hm rfl (by decide) ?_
 refine jx_goto c1 hm 25 rfl rfl ?_
 exact jx_retz c2 hm rfl rfl ⟨by omega, by omega⟩ ⟨_, rfl, rfl, by omega, by omega, (by omega)⟩
def md_X12_bad_173 : List (Nat × (Nat × Nat)) := [(173, (10, 10)), (173, (11, 11))]
theorem ct_X12_bad_173 (X : Int) (hX : 0 ≤ X ∧ X ≤ 100000000) (M0 : JM) (hH0 : HI X M0) (a0 : Int) (ha0 : (-2147483648) ≤ a0 ∧ a0 ≤ 2147483647) : JOk shp PJ 1 81 [.inr (.inr (.inl 173)), .inl a0] M0 (jRi (fun v M' => HI X M' ∧ Fr md_X12_bad_173 M0 M' ∧ 0 ≤ v ∧ v ≤ 1 ∧ (v = 0))) := by
 refine ⟨jr_X12_bad, pj_X12_bad, fun F c1 c2 c3 => ?_⟩
 have hm := pj_X12_bad
 change F 0 [some (.inr (.inr (.inl 173))), some (.inl a0)] [] M0
 have hF0 : Fr md_X12_bad_173 M0 M0 := Fr.rf _ _
 refine jx_load c1 hm rfl rfl rfl rfl ?_
 refine jx_load c1 hm rfl rfl rfl rfl ?_
 obtain ⟨z1, k2, lz1, uz1⟩ := hH0.ld (c := 173) (i := 7) (A := 0) (B := 4) (bs_28_4 _ _ (by omega) (by omega))
 refine jx_geti c1 hm rfl sh_173 rfl k2 ?_
 refine jy_ic c1 hm rfl (by decide) ?_
 have J5 : ∀ (b4 : Int) (hb4 : (-2147483648) ≤ b4 ∧ b4 ≤ 2147483647), F 14 [some (.inr (.inr (.inl 173))), some (.inl a0)] [.inl b4, .inr (.inr (.inl 173))] M0 := by
  intro b4 hb4
  obtain ⟨M6, e6, hH6, hF6, k6, n6, q6⟩ := mup hH0 hF0 (c := 173) (i := 10) (v := b4) (A := (-2147483648)) (B := 2147483647) (bs_28_5 _ _ (by omega) (by omega)) ⟨by omega, by omega⟩ (jin_of 0 rfl ⟨by omega, by omega⟩)
  refine jm_puti c1 hm rfl sh_173 rfl e6 ?_
  refine jx_load c1 hm rfl rfl rfl rfl ?_
  refine jx_load c1 hm rfl rfl rfl rfl ?_
  obtain ⟨z7, k8, lz7, uz7⟩ := hH6.ld (c := 173) (i := 6) (A := 0) (B := 940) (bs_28_3 _ _ (by omega) (by omega))
  refine jx_geti c1 hm rfl sh_173 rfl k8 ?_
  obtain ⟨M9, e9, hH9, hF9, k9, n9, q9⟩ := mup hH6 hF6 (c := 173) (i := 11) (v := z7) (A := 0) (B := 940) (bs_28_6 _ _ (by omega) (by omega)) ⟨by omega, by omega⟩ (jin_of 1 rfl ⟨by omega, by omega⟩)
  refine jm_puti c1 hm rfl sh_173 rfl e9 ?_
  refine jy_ic c1 hm rfl (by decide) ?_
  exact jx_retz c2 hm rfl rfl ⟨by omega, by omega⟩ ⟨_, rfl, hH9, hF9, by omega, by omega, (by omega)⟩
 refine jc_ne c1 hm 13 rfl rfl (fun h3 => ?_) (fun h3 => ?_)
 ·
  refine jx_load c1 hm rfl rfl rfl rfl ?_
  exact J5 a0 (by omega)
 refine jy_ic c1 hm rfl (by decide) ?_
 refine jx_goto c1 hm 14 rfl rfl ?_
 exact J5 1 (by omega)
def md_X12_readNumber_173 : List (Nat × (Nat × Nat)) := [(173, (5, 5)), (173, (6, 6)), (173, (7, 7)), (173, (8, 8)), (173, (9, 9)), (173, (10, 10)), (173, (11, 11)), (173, (13, 13))]
theorem ct_X12_readNumber_173 (X : Int) (hX : 0 ≤ X ∧ X ≤ 100000000) (M0 : JM) (hH0 : HI X M0) (a0 : Int) (ha0 : 0 ≤ a0 ∧ a0 ≤ 1) (a1 : Int) (ha1 : 0 ≤ a1 ∧ a1 ≤ 999) : JOk shp PJ 3 167 [.inr (.inr (.inl 173)), .inl a0, .inl a1] M0 (jRi (fun v M' => HI X M' ∧ Fr md_X12_readNumber_173 M0 M' ∧ 0 ≤ v ∧ v ≤ 1 ∧ (M0.1 173 5 ≤ M'.1 173 5) ∧ (v = 1 → a0 ≤ M'.1 173 13 ∧ M'.1 173 13 ≤ a1) ∧ (v = 1 → M0.1 173 7 = 3))) := by
 refine ⟨jr_X12_readNumber, pj_X12_readNumber, fun F c1 c2 c3 => ?_⟩
 have hm := pj_X12_readNumber
 change F 0 [some (.inr (.inr (.inl 173))), some (.inl a0), some (.inl a1)] [] M0
 have hF0 : Fr md_X12_readNumber_173 M0 M0 := Fr.rf _ _
 obtain ⟨z1, k2, lz1, uz1⟩ := hH0.ld (c := 173) (i := 5) (A := 0) (B := 940) (bs_28_3 _ _ (by omega) (by omega))
 obtain ⟨z3, k4, lz3, uz3⟩ := hH0.ld (c := 173) (i := 7) (A := 0) (B := 4) (bs_28_4 _ _ (by omega) (by omega))
 refine jx_load c1 hm rfl rfl rfl rfl ?_
 refine jx_geti c1 hm rfl sh_173 rfl k4 ?_
 refine jy_ic c1 hm rfl (by decide) ?_
 refine jc_eq c1 hm 14 rfl rfl (fun h5 => ?_) (fun h5 => ?_)
 ·
  refine jx_load c1 hm rfl rfl rfl rfl ?_
  obtain ⟨z6, k7, lz6, uz6⟩ := hH0.ld (c := 173) (i := 8) (A := (-2147483648)) (B := 2147483647) (bs_28_5 _ _ (by omega) (by omega))
  refine jx_geti c1 hm rfl sh_173 rfl k7 ?_
  refine jx_load c1 hm rfl rfl rfl rfl ?_
  refine jx_load c1 hm rfl rfl rfl rfl ?_
  refine jt_i c3 hm rfl rfl pj_X12_isIn rfl rfl rfl ((ct_X12_isIn X (by omega) M0 hH0 z6 ⟨by omega, by omega⟩ a0 ⟨by omega, by omega⟩ a1 ⟨by omega, by omega⟩).le (by decide)) (fun z8 _ ⟨rfl, lz8, uz8, p9⟩ => ?_)
  refine jz_ne c1 hm 32 rfl rfl (fun h10 => ?_) (fun h10 => ?_)
  ·
   refine jx_load c1 hm rfl rfl rfl rfl ?_
   refine jx_load c1 hm rfl rfl rfl rfl ?_
   refine jx_geti c1 hm rfl sh_173 rfl k7 ?_
   obtain ⟨M11, e11, hH11, hF11, k11, n11, q11⟩ := mup hH0 hF0 (c := 173) (i := 13) (v := z6) (A := (-2147483648)) (B := 2147483647) (bs_28_7 _ _ (by omega) (by omega)) ⟨by omega, by omega⟩ (jin_of 7 rfl ⟨by omega, by omega⟩)
   refine jm_puti c1 hm rfl sh_173 rfl e11 ?_
   refine jx_load c1 hm rfl rfl rfl rfl ?_
   have k12 : M11.1 173 5 = z1 := (n11 173 5 (by decide)).trans k2
   refine jv_v c3 hm rfl pj_X12_go rfl rfl ⟨_, _, _, rfl, sh_173⟩ rfl ((ct_X12_go_173 X (by omega) M11 hH11 ).le (by decide)) (fun M15 ⟨hH15, hR15, p13, p14⟩ => ?_)
   have hF15 := hF11.tr hR15 (by decide +kernel)
   obtain ⟨z16, k17, lz16, uz16⟩ := hH15.ld (c := 173) (i := 5) (A := 0) (B := 940) (bs_28_3 _ _ (by omega) (by omega))
   obtain ⟨z18, k19, lz18, uz18⟩ := hH15.ld (c := 173) (i := 7) (A := 0) (B := 4) (bs_28_4 _ _ (by omega) (by omega))
   refine jy_ic c1 hm rfl (by decide) ?_
   have k20 : M15.1 173 13 = z6 := (hR15 173 13 (by decide +kernel)).trans k11
   exact jx_retz c2 hm rfl rfl ⟨by omega, by omega⟩ ⟨_, rfl, hH15, hF15, by omega, by omega, (by omega), (by omega), (by omega)⟩
  refine jx_load c1 hm rfl rfl rfl rfl ?_
  refine jy_ic c1 hm rfl (by decide) ?_
  refine jv_i c3 hm rfl pj_X12_bad rfl rfl ⟨_, _, _, rfl, sh_173⟩ rfl ((ct_X12_bad_173 X (by omega) M0 hH0 2 ⟨by omega, by omega⟩).le (by decide)) (fun z21 M23 ⟨hH23, hR23, lz21, uz21, p22⟩ => ?_)
  have hF23 := hF0.tr hR23 (by decide +kernel)
  have k24 : M23.1 173 5 = z1 := (hR23 173 5 (by decide +kernel)).trans k2
  have k25 : M23.1 173 7 = z3 := (hR23 173 7 (by decide +kernel)).trans k4
  obtain ⟨z26, k27, lz26, uz26⟩ := hH23.ld (c := 173) (i := 13) (A := (-2147483648)) (B := 2147483647) (bs_28_7 _ _ (by omega) (by omega))
  exact jx_retz c2 hm rfl rfl ⟨by omega, by omega⟩ ⟨_, rfl, hH23, hF23, by omega, by omega, (by omega), (by omega), (by omega)⟩
 refine jx_load c1 hm rfl rfl rfl rfl ?_
 refine jy_ic c1 hm rfl (by decide) ?_
 refine jv_i c3 hm rfl pj_X12_bad rfl rfl ⟨_, _, _, rfl, sh_173⟩ rfl ((ct_X12_bad_173 X (by omega) M0 hH0 1 ⟨by omega, by omega⟩).le (by decide)) (fun z28 M30 ⟨hH30, hR30, lz28, uz28, p29⟩ => ?_)
 have hF30 := hF0.tr hR30 (by decide +kernel)
 have k31 : M30.1 173 5 = z1 := (hR30 173 5 (by decide +kernel)).trans k2
 have k32 : M30.1 173 7 = z3 := (hR30 173 7 (by decide +kernel)).trans k4
 obtain ⟨z33, k34, lz33, uz33⟩ := hH30.ld (c := 173) (i := 13) (A := (-2147483648)) (B := 2147483647) (bs_28_7 _ _ (by omega) (by omega))
 exact jx_retz c2 hm rfl rfl ⟨by omega, by omega⟩ ⟨_, rfl, hH30, hF30, by omega, by omega, (by omega), (by omega), (by omega)⟩
def md_X12_put_173 : List (Nat × (Nat × Nat)) := [(176, (3, 100))]
theorem ct_X12_put_173 (X : Int) (hX : 0 ≤ X ∧ X ≤ 100000000) (M0 : JM) (hH0 : HI X M0) (a0 : Int) (ha0 : 3 ≤ a0 ∧ a0 ≤ 100) (a1 : Int) (ha1 : 0 ≤ a1 ∧ a1 ≤ 1) (hp0 : a1 = 0 ∨ ((bnd X 176 (a0).toNat).1 ≤ M0.1 173 13 ∧ M0.1 173 13 ≤ (bnd X 176 (a0).toNat).2)) : JOk shp PJ 1 151 [.inr (.inr (.inl 173)), .inl a0, .inl a1] M0 (jRi (fun v M' => HI X M' ∧ Fr md_X12_put_173 M0 M' ∧ 0 ≤ v ∧ v ≤ 1 ∧ (v = a1))) := by
 refine ⟨jr_X12_put, pj_X12_put, fun F c1 c2 c3 => ?_⟩
 have hm := pj_X12_put
 change F 0 [some (.inr (.inr (.inl 173))), some (.inl a0), some (.inl a1)] [] M0
 have hF0 : Fr md_X12_put_173 M0 M0 := Fr.rf _ _
 obtain ⟨z1, k2, lz1, uz1⟩ := hH0.ld (c := 173) (i := 13) (A := (-2147483648)) (B := 2147483647) (bs_28_7 _ _ (by omega) (by omega))
 refine jx_load c1 hm rfl rfl rfl rfl ?_
 refine jz_eq c1 hm 14 rfl rfl (fun h3 => ?_) (fun h3 => ?_)
 ·
  refine jx_load c1 hm rfl rfl rfl rfl ?_
  exact jx_retz c2 hm rfl rfl ⟨by omega, by omega⟩ ⟨_, rfl, hH0, hF0, by omega, by omega, (by omega)⟩
 refine jx_load c1 hm rfl rfl rfl rfl ?_
 refine jx_getr c1 hm rfl sh_173 rfl ?_
 refine jx_load c1 hm rfl rfl rfl rfl ?_
 refine jx_load c1 hm rfl rfl rfl rfl ?_
 refine jx_geti c1 hm rfl sh_173 rfl k2 ?_
 obtain ⟨M4, e4, hH4, hF4, k4, n4, q4⟩ := mup hH0 hF0 (c := 176) (i := (a0).toNat) (v := z1) (A := (bnd (X) 176 (a0).toNat).1) (B := (bnd (X) 176 (a0).toNat).2) rfl (by omega) (jin_of 0 rfl ⟨by omega, by omega⟩)
 refine jm_iast c1 hm rfl sh_176 ⟨by omega, by omega⟩ e4 ?_
 refine jx_load c1 hm rfl rfl rfl rfl ?_
 exact jx_retz c2 hm rfl rfl ⟨by omega, by omega⟩ ⟨_, rfl, hH4, hF4, by omega, by omega, (by omega)⟩
theorem ct_X12_isName_173 (X : Int) (hX : 0 ≤ X ∧ X ≤ 100000000) (M0 : JM) (hH0 : HI X M0)  : JOk shp PJ 3 121 [.inr (.inr (.inl 173))] M0 (jRi (fun v M' => M0 = M' ∧ 0 ≤ v ∧ v ≤ 1 ∧ (v = 1 → M0.1 173 7 = 2))) := by
 refine ⟨jr_X12_isName, pj_X12_isName, fun F c1 c2 c3 => ?_⟩
 have hm := pj_X12_isName
 change F 0 [some (.inr (.inr (.inl 173))), none] [] M0
 obtain ⟨z1, k2, lz1, uz1⟩ := hH0.ld (c := 173) (i := 7) (A := 0) (B := 4) (bs_28_4 _ _ (by omega) (by omega))
 refine jx_load c1 hm rfl rfl rfl rfl ?_
 refine jx_geti c1 hm rfl sh_173 rfl k2 ?_
 refine jy_ic c1 hm rfl (by decide) ?_
 refine jc_eq c1 hm 10 rfl rfl (fun h3 => ?_) (fun h3 => ?_)
 ·
  refine jy_ic c1 hm rfl (by decide) ?_
  refine jx_stor c1 hm (L' := [some (.inr (.inr (.inl 173))), some (.inl 0)]) rfl rfl rfl rfl rfl ?_
  have W5 : ∀ (n6 : Nat) (b4 : Int) (hb4 : 0 ≤ b4 ∧ b4 ≤ 24), (-b4 + 24) < (n6 : Int) → F 12 [some (.inr (.inr (.inl 173))), some (.inl b4)] [] M0 := by
   intro n6
   induction n6 with
   | zero => intros; omega
   | succ n6 ihW5 =>
    intro b4 hb4 hrW5
    refine jx_load c1 hm rfl rfl rfl rfl ?_
    refine jy_bp c1 hm rfl (by decide) ?_
    refine jc_gt c1 hm 38 rfl rfl (fun h7 => ?_) (fun h7 => ?_)
    ·
     refine jy_ic c1 hm rfl (by decide) ?_
     exact jx_retz c2 hm rfl rfl ⟨by omega, by omega⟩ ⟨_, rfl, rfl, by omega, by omega, (by omega)⟩
    refine jx_load c1 hm rfl rfl rfl rfl ?_
    obtain ⟨w8, kw8⟩ : ∃ w, M0.2 173 12 = w := ⟨_, rfl⟩
    have bw8 : LB w8.toInt := kw8 ▸ hH0.2.1 173 12 rfl
    refine jx_getl c1 hm rfl sh_173 rfl kw8 ?_
    refine jx_load c1 hm rfl rfl rfl rfl ?_
    refine jt_l c3 hm rfl rfl pj_X12_wordOf rfl rfl rfl ((ct_X12_wordOf X (by omega) M0 hH0 b4 ⟨by omega, by omega⟩).le (by decide)) (fun w9 _ ⟨rfl, bw9⟩ => ?_)
    refine jx_lcmp c1 hm rfl (fun z10 lz10 uz10 ez10 fz10 => ?_)
    refine jz_ne c1 hm 32 rfl rfl (fun h11 => ?_) (fun h11 => ?_)
    ·
     refine jx_iinc c1 hm (v := (b4 + 1)) (L' := [some (.inr (.inr (.inl 173))), some (.inl (b4 + 1))]) rfl rfl (by omega) (by omega) rfl ?_
     refine jx_goto c1 hm 12 rfl rfl ?_
     exact ihW5 (b4 + 1) (by omega) (by omega)
    refine jy_ic c1 hm rfl (by decide) ?_
    exact jx_retz c2 hm rfl rfl ⟨by omega, by omega⟩ ⟨_, rfl, rfl, by omega, by omega, (by omega)⟩
  exact W5 (24 + 1 : Int).toNat 0 (by omega) (by omega)
 refine jy_ic c1 hm rfl (by decide) ?_
 exact jx_retz c2 hm rfl rfl ⟨by omega, by omega⟩ ⟨_, rfl, rfl, by omega, by omega, (by omega)⟩
theorem ct_X12_findIn_181 (X : Int) (hX : 0 ≤ X ∧ X ≤ 100000000) (M0 : JM) (hH0 : HI X M0) (a0 : Int) (ha0 : 0 ≤ a0 ∧ a0 ≤ 12) (a1 : Int) (ha1 : 0 ≤ a1 ∧ a1 ≤ 6) (a2 : Int64) : JOk shp PJ 1 104 [.inr (.inr (.inl 181)), .inl a0, .inl a1, .inr (.inl a2)] M0 (jRi (fun v M' => M0 = M' ∧ (-1) ≤ v ∧ v ≤ 5 ∧ (v = -1 ∨ M0.2 181 (a0 + v).toNat = a2) ∧ (v ≠ -1 ∨ ∀ k : Int, 0 ≤ k → k < a1 → M0.2 181 (a0 + k).toNat ≠ a2) ∧ (v = -1 ∨ v < a1))) := by
 refine ⟨jr_X12_findIn, pj_X12_findIn, fun F c1 c2 c3 => ?_⟩
 have hm := pj_X12_findIn
 change F 0 [some (.inr (.inr (.inl 181))), some (.inl a0), some (.inl a1), some (.inr (.inl a2)), none, none] [] M0
 refine jy_ic c1 hm rfl (by decide) ?_
 refine jx_stor c1 hm (L' := [some (.inr (.inr (.inl 181))), some (.inl a0), some (.inl a1), some (.inr (.inl a2)), none, some (.inl 0)]) rfl rfl rfl rfl rfl ?_
 have W3 : ∀ (n4 : Nat) (b1 : Int) (hb1 : 0 ≤ b1 ∧ b1 ≤ 6) (hfn : ∀ k : Int, 0 ≤ k → k < b1 → M0.2 181 (a0 + k).toNat ≠ a2), (-b1 + 6) < (n4 : Int) → F 3 [some (.inr (.inr (.inl 181))), some (.inl a0), some (.inl a1), some (.inr (.inl a2)), none, some (.inl b1)] [] M0 := by
  intro n4
  induction n4 with
  | zero => intros; omega
  | succ n4 ihW3 =>
   intro b1 hb1 hfn hrW3
   refine jx_load c1 hm rfl rfl rfl rfl ?_
   refine jx_load c1 hm rfl rfl rfl rfl ?_
   refine jc_ge c1 hm 29 rfl rfl (fun h5 => ?_) (fun h5 => ?_)
   ·
    refine jy_ic c1 hm rfl (by decide) ?_
    exact jx_reti c2 hm rfl rfl ⟨_, rfl, rfl, by omega, by omega, (Or.inl rfl), (Or.inr (fun k h1 h2 => hfn k h1 (by omega))), (by omega)⟩
   refine jx_load c1 hm rfl rfl rfl rfl ?_
   refine jx_load c1 hm rfl rfl rfl rfl ?_
   refine jx_load c1 hm rfl rfl rfl rfl ?_
   refine jy_add c1 hm (a0 + b1) rfl (by omega) ?_
   obtain ⟨w6, kw6⟩ : ∃ w, M0.2 181 ((a0 + b1)).toNat = w := ⟨_, rfl⟩
   have bw6 : LB w6.toInt := kw6 ▸ hH0.2.1 181 _ rfl
   refine jx_lald c1 hm rfl sh_181 ⟨by omega, by omega⟩ kw6 ?_
   refine jx_load c1 hm rfl rfl rfl rfl ?_
   refine jx_lcmp c1 hm rfl (fun z7 lz7 uz7 ez7 fz7 => ?_)
   refine jz_ne c1 hm 23 rfl rfl (fun h8 => ?_) (fun h8 => ?_)
   ·
    refine jx_iinc c1 hm (v := (b1 + 1)) (L' := [some (.inr (.inr (.inl 181))), some (.inl a0), some (.inl a1), some (.inr (.inl a2)), none, some (.inl (b1 + 1))]) rfl rfl (by omega) (by omega) rfl ?_
    refine jx_goto c1 hm 3 rfl rfl ?_
    exact ihW3 (b1 + 1) (by omega) (fun k h1 h2 => if c : k < b1 then hfn k h1 c else (by have e : k = b1 := (by omega); subst e; rw [kw6]; exact fun y => absurd (ez7.mpr y) (by omega))) (by omega)
   refine jx_load c1 hm rfl rfl rfl rfl ?_
   exact jx_reti c2 hm rfl rfl ⟨_, rfl, rfl, by omega, by omega, (Or.inr (kw6.trans (ez7.mp (by omega)))), (Or.inl (by omega)), (by omega)⟩
 exact W3 (6 + 1 : Int).toNat 0 (by omega) (fun k h1 h2 => by omega) (by omega)
def md_X12_isOne_173 : List (Nat × (Nat × Nat)) := [(173, (10, 10)), (173, (11, 11)), (173, (13, 13))]
theorem ct_X12_isOne_173 (X : Int) (hX : 0 ≤ X ∧ X ≤ 100000000) (M0 : JM) (hH0 : HI X M0) (a0 : Int) (ha0 : 0 ≤ a0 ∧ a0 ≤ 12) (a1 : Int) (ha1 : 0 ≤ a1 ∧ a1 ≤ 6) : JOk shp PJ 4 122 [.inr (.inr (.inl 173)), .inl a0, .inl a1] M0 (jRi (fun v M' => HI X M' ∧ Fr md_X12_isOne_173 M0 M' ∧ 0 ≤ v ∧ v ≤ 1 ∧ (v = 1 → 0 ≤ M'.1 173 13 ∧ M'.1 173 13 ≤ 5) ∧ (v = 1 → M0.1 173 7 = 2))) := by
 refine ⟨jr_X12_isOne, pj_X12_isOne, fun F c1 c2 c3 => ?_⟩
 have hm := pj_X12_isOne
 change F 0 [some (.inr (.inr (.inl 173))), some (.inl a0), some (.inl a1)] [] M0
 have hF0 : Fr md_X12_isOne_173 M0 M0 := Fr.rf _ _
 obtain ⟨z1, k2, lz1, uz1⟩ := hH0.ld (c := 173) (i := 7) (A := 0) (B := 4) (bs_28_4 _ _ (by omega) (by omega))
 refine jx_load c1 hm rfl rfl rfl rfl ?_
 refine jv_i c3 hm rfl pj_X12_isName rfl rfl ⟨_, _, _, rfl, sh_173⟩ rfl ((ct_X12_isName_173 X (by omega) M0 hH0 ).le (by decide)) (fun z3 _ ⟨rfl, lz3, uz3, p4⟩ => ?_)
 refine jz_ne c1 hm 13 rfl rfl (fun h5 => ?_) (fun h5 => ?_)
 ·
  refine jx_load c1 hm rfl rfl rfl rfl ?_
  refine jx_load c1 hm rfl rfl rfl rfl ?_
  refine jx_getr c1 hm rfl sh_173 rfl ?_
  refine jx_load c1 hm rfl rfl rfl rfl ?_
  refine jx_load c1 hm rfl rfl rfl rfl ?_
  refine jx_load c1 hm rfl rfl rfl rfl ?_
  obtain ⟨w6, kw6⟩ : ∃ w, M0.2 173 12 = w := ⟨_, rfl⟩
  have bw6 : LB w6.toInt := kw6 ▸ hH0.2.1 173 12 rfl
  refine jx_getl c1 hm rfl sh_173 rfl kw6 ?_
  refine jt_i c3 hm rfl rfl pj_X12_findIn rfl rfl rfl ((ct_X12_findIn_181 X (by omega) M0 hH0 a0 ⟨by omega, by omega⟩ a1 ⟨by omega, by omega⟩ w6).le (by decide)) (fun z7 _ ⟨rfl, lz7, uz7, p8, p9, p10⟩ => ?_)
  clear p8 p9 p10
  obtain ⟨M11, e11, hH11, hF11, k11, n11, q11⟩ := mup hH0 hF0 (c := 173) (i := 13) (v := z7) (A := (-2147483648)) (B := 2147483647) (bs_28_7 _ _ (by omega) (by omega)) ⟨by omega, by omega⟩ (jin_of 2 rfl ⟨by omega, by omega⟩)
  refine jm_puti c1 hm rfl sh_173 rfl e11 ?_
  refine jx_load c1 hm rfl rfl rfl rfl ?_
  refine jx_geti c1 hm rfl sh_173 rfl k11 ?_
  refine jy_ic c1 hm rfl (by decide) ?_
  refine jc_ne c1 hm 46 rfl rfl (fun h12 => ?_) (fun h12 => ?_)
  ·
   refine jy_ic c1 hm rfl (by decide) ?_
   refine jx_goto c1 hm 51 rfl rfl ?_
   have k13 : M11.1 173 7 = z1 := (n11 173 7 (by decide)).trans k2
   exact jx_retz c2 hm rfl rfl ⟨by omega, by omega⟩ ⟨_, rfl, hH11, hF11, by omega, by omega, (by omega), (by omega)⟩
  refine jx_load c1 hm rfl rfl rfl rfl ?_
  refine jy_ic c1 hm rfl (by decide) ?_
  refine jv_i c3 hm rfl pj_X12_bad rfl rfl ⟨_, _, _, rfl, sh_173⟩ rfl ((ct_X12_bad_173 X (by omega) M11 hH11 3 ⟨by omega, by omega⟩).le (by decide)) (fun z14 M16 ⟨hH16, hR16, lz14, uz14, p15⟩ => ?_)
  have hF16 := hF11.tr hR16 (by decide +kernel)
  refine jz_eq c1 hm 50 rfl rfl (fun h17 => ?_) (fun h17 => ?_)
  ·
   refine jy_ic c1 hm rfl (by decide) ?_
   have k18 : M16.1 173 7 = z1 := (hR16 173 7 (by decide +kernel)).trans ((n11 173 7 (by decide)).trans k2)
   have k19 : M16.1 173 13 = z7 := (hR16 173 13 (by decide +kernel)).trans k11
   exact jx_retz c2 hm rfl rfl ⟨by omega, by omega⟩ ⟨_, rfl, hH16, hF16, by omega, by omega, (by omega), (by omega)⟩
  exfalso; omega
 refine jx_load c1 hm rfl rfl rfl rfl ?_
 refine jy_ic c1 hm rfl (by decide) ?_
 refine jv_i c3 hm rfl pj_X12_bad rfl rfl ⟨_, _, _, rfl, sh_173⟩ rfl ((ct_X12_bad_173 X (by omega) M0 hH0 1 ⟨by omega, by omega⟩).le (by decide)) (fun z20 M22 ⟨hH22, hR22, lz20, uz20, p21⟩ => ?_)
 have hF22 := hF0.tr hR22 (by decide +kernel)
 have k23 : M22.1 173 7 = z1 := (hR22 173 7 (by decide +kernel)).trans k2
 obtain ⟨z24, k25, lz24, uz24⟩ := hH22.ld (c := 173) (i := 13) (A := (-2147483648)) (B := 2147483647) (bs_28_7 _ _ (by omega) (by omega))
 exact jx_retz c2 hm rfl rfl ⟨by omega, by omega⟩ ⟨_, rfl, hH22, hF22, by omega, by omega, (by omega), (by omega)⟩
def md_X12_readOwes_173 : List (Nat × (Nat × Nat)) := [(173, (5, 5)), (173, (6, 6)), (173, (7, 7)), (173, (8, 8)), (173, (9, 9)), (173, (10, 10)), (173, (11, 11)), (173, (13, 13)), (176, (3, 100))]
theorem ct_X12_readOwes_173 (X : Int) (hX : 0 ≤ X ∧ X ≤ 100000000) (M0 : JM) (hH0 : HI X M0)  : JOk shp PJ 5 170 [.inr (.inr (.inl 173))] M0 (jRi (fun v M' => HI X M' ∧ Fr md_X12_readOwes_173 M0 M' ∧ 0 ≤ v ∧ v ≤ 1 ∧ (M0.1 173 5 ≤ M'.1 173 5) ∧ (v = 1 → M0.1 173 5 < M'.1 173 5))) := by
 refine ⟨jr_X12_readOwes, pj_X12_readOwes, fun F c1 c2 c3 => ?_⟩
 have hm := pj_X12_readOwes
 change F 0 [some (.inr (.inr (.inl 173))), none, none] [] M0
 have hF0 : Fr md_X12_readOwes_173 M0 M0 := Fr.rf _ _
 obtain ⟨z1, k2, lz1, uz1⟩ := hH0.ld (c := 173) (i := 5) (A := 0) (B := 940) (bs_28_3 _ _ (by omega) (by omega))
 refine jx_load c1 hm rfl rfl rfl rfl ?_
 refine jv_v c3 hm rfl pj_X12_go rfl rfl ⟨_, _, _, rfl, sh_173⟩ rfl ((ct_X12_go_173 X (by omega) M0 hH0 ).le (by decide)) (fun M5 ⟨hH5, hR5, p3, p4⟩ => ?_)
 have hF5 := hF0.tr hR5 (by decide +kernel)
 obtain ⟨z6, k7, lz6, uz6⟩ := hH5.ld (c := 173) (i := 5) (A := 0) (B := 940) (bs_28_3 _ _ (by omega) (by omega))
 obtain ⟨z8, k9, lz8, uz8⟩ := hH5.ld (c := 173) (i := 7) (A := 0) (B := 4) (bs_28_4 _ _ (by omega) (by omega))
 refine jx_load c1 hm rfl rfl rfl rfl ?_
 refine jy_ic c1 hm rfl (by decide) ?_
 refine jx_load c1 hm rfl rfl rfl rfl ?_
 refine jx_getr c1 hm rfl sh_173 rfl ?_
 refine jy_ic c1 hm rfl (by decide) ?_
 obtain ⟨z10, k11, lz10, uz10⟩ := hH5.ld (c := 176) (i := 0) (A := 0) (B := 6) (bs_12_0 _ _ (by omega) (by omega))
 refine jx_iald c1 hm rfl sh_176 ⟨by omega, by omega⟩ k11 ?_
 refine jv_i c3 hm rfl pj_X12_isOne rfl rfl ⟨_, _, _, rfl, sh_173⟩ rfl ((ct_X12_isOne_173 X (by omega) M5 hH5 0 ⟨by omega, by omega⟩ z10 ⟨by omega, by omega⟩).le (by decide)) (fun z12 M15 ⟨hH15, hR15, lz12, uz12, p13, p14⟩ => ?_)
 have hF15 := hF5.tr hR15 (by decide +kernel)
 obtain ⟨z16, k17, lz16, uz16⟩ := hH15.ld (c := 173) (i := 13) (A := (-2147483648)) (B := 2147483647) (bs_28_7 _ _ (by omega) (by omega))
 refine jz_ne c1 hm 20 rfl rfl (fun h18 => ?_) (fun h18 => ?_)
 ·
  refine jx_load c1 hm rfl rfl rfl rfl ?_
  refine jx_geti c1 hm rfl sh_173 rfl k17 ?_
  refine jx_stor c1 hm (L' := [some (.inr (.inr (.inl 173))), some (.inl z16), none]) rfl rfl rfl rfl rfl ?_
  refine jx_load c1 hm rfl rfl rfl rfl ?_
  have k19 : M15.1 173 5 = z6 := (hR15 173 5 (by decide +kernel)).trans k7
  refine jv_v c3 hm rfl pj_X12_go rfl rfl ⟨_, _, _, rfl, sh_173⟩ rfl ((ct_X12_go_173 X (by omega) M15 hH15 ).le (by decide)) (fun M22 ⟨hH22, hR22, p20, p21⟩ => ?_)
  have hF22 := hF15.tr hR22 (by decide +kernel)
  obtain ⟨z23, k24, lz23, uz23⟩ := hH22.ld (c := 173) (i := 5) (A := 0) (B := 940) (bs_28_3 _ _ (by omega) (by omega))
  obtain ⟨z25, k26, lz25, uz25⟩ := hH22.ld (c := 173) (i := 7) (A := 0) (B := 4) (bs_28_4 _ _ (by omega) (by omega))
  refine jx_load c1 hm rfl rfl rfl rfl ?_
  refine jy_ic c1 hm rfl (by decide) ?_
  refine jx_load c1 hm rfl rfl rfl rfl ?_
  refine jx_getr c1 hm rfl sh_173 rfl ?_
  refine jy_ic c1 hm rfl (by decide) ?_
  have k27 : M22.1 176 0 = z10 := (hR22 176 0 (by decide +kernel)).trans ((hR15 176 0 (by decide +kernel)).trans k11)
  refine jx_iald c1 hm rfl sh_176 ⟨by omega, by omega⟩ k27 ?_
  refine jv_i c3 hm rfl pj_X12_isOne rfl rfl ⟨_, _, _, rfl, sh_173⟩ rfl ((ct_X12_isOne_173 X (by omega) M22 hH22 0 ⟨by omega, by omega⟩ z10 ⟨by omega, by omega⟩).le (by decide)) (fun z28 M31 ⟨hH31, hR31, lz28, uz28, p29, p30⟩ => ?_)
  have hF31 := hF22.tr hR31 (by decide +kernel)
  obtain ⟨z32, k33, lz32, uz32⟩ := hH31.ld (c := 173) (i := 13) (A := (-2147483648)) (B := 2147483647) (bs_28_7 _ _ (by omega) (by omega))
  refine jz_ne c1 hm 45 rfl rfl (fun h34 => ?_) (fun h34 => ?_)
  ·
   refine jy_bp c1 hm rfl (by decide) ?_
   refine jy_bp c1 hm rfl (by decide) ?_
   refine jx_load c1 hm rfl rfl rfl rfl ?_
   refine jy_mul c1 hm (6 * z16) rfl (by omega) ?_
   refine jy_add c1 hm (6 * z16 + 65) rfl (by omega) ?_
   refine jx_load c1 hm rfl rfl rfl rfl ?_
   refine jx_geti c1 hm rfl sh_173 rfl k33 ?_
   refine jy_add c1 hm (6 * z16 + z32 + 65) rfl (by omega) ?_
   refine jx_stor c1 hm (L' := [some (.inr (.inr (.inl 173))), some (.inl z16), some (.inl (6 * z16 + z32 + 65))]) rfl rfl rfl rfl rfl ?_
   refine jx_load c1 hm rfl rfl rfl rfl ?_
   refine jx_load c1 hm rfl rfl rfl rfl ?_
   refine jx_geti c1 hm rfl sh_173 rfl k33 ?_
   refine jc_eq c1 hm 75 rfl rfl (fun h35 => ?_) (fun h35 => ?_)
   ·
    refine jx_load c1 hm rfl rfl rfl rfl ?_
    refine jy_ic c1 hm rfl (by decide) ?_
    refine jv_i c3 hm rfl pj_X12_bad rfl rfl ⟨_, _, _, rfl, sh_173⟩ rfl ((ct_X12_bad_173 X (by omega) M31 hH31 3 ⟨by omega, by omega⟩).le (by decide)) (fun z36 M38 ⟨hH38, hR38, lz36, uz36, p37⟩ => ?_)
    have hF38 := hF31.tr hR38 (by decide +kernel)
    have k39 : M38.1 173 5 = z23 := (hR38 173 5 (by decide +kernel)).trans ((hR31 173 5 (by decide +kernel)).trans k24)
    exact jx_retz c2 hm rfl rfl ⟨by omega, by omega⟩ ⟨_, rfl, hH38, hF38, by omega, by omega, (by omega), (by omega)⟩
   refine jx_load c1 hm rfl rfl rfl rfl ?_
   refine jx_getr c1 hm rfl sh_173 rfl ?_
   refine jx_load c1 hm rfl rfl rfl rfl ?_
   obtain ⟨z40, k41, lz40, uz40⟩ := hH31.ld (c := 176) (i := ((6 * z16 + z32 + 65)).toNat) (A := (-2147483648)) (B := 2147483647) (bs_12_7 _ _ (by omega))
   refine jx_iald c1 hm rfl sh_176 ⟨by omega, by omega⟩ k41 ?_
   refine jz_le c1 hm 81 rfl rfl (fun h42 => ?_) (fun h42 => ?_)
   ·
    refine jx_load c1 hm rfl rfl rfl rfl ?_
    have k43 : M31.1 173 5 = z23 := (hR31 173 5 (by decide +kernel)).trans k24
    refine jv_v c3 hm rfl pj_X12_go rfl rfl ⟨_, _, _, rfl, sh_173⟩ rfl ((ct_X12_go_173 X (by omega) M31 hH31 ).le (by decide)) (fun M46 ⟨hH46, hR46, p44, p45⟩ => ?_)
    have hF46 := hF31.tr hR46 (by decide +kernel)
    obtain ⟨z47, k48, lz47, uz47⟩ := hH46.ld (c := 173) (i := 5) (A := 0) (B := 940) (bs_28_3 _ _ (by omega) (by omega))
    obtain ⟨z49, k50, lz49, uz49⟩ := hH46.ld (c := 173) (i := 7) (A := 0) (B := 4) (bs_28_4 _ _ (by omega) (by omega))
    refine jx_load c1 hm rfl rfl rfl rfl ?_
    refine jx_load c1 hm rfl rfl rfl rfl ?_
    refine jx_load c1 hm rfl rfl rfl rfl ?_
    refine jy_ic c1 hm rfl (by decide) ?_
    refine jy_bp c1 hm rfl (by decide) ?_
    refine jv_i c3 hm rfl pj_X12_readNumber rfl rfl ⟨_, _, _, rfl, sh_173⟩ rfl ((ct_X12_readNumber_173 X (by omega) M46 hH46 1 ⟨by omega, by omega⟩ 99 ⟨by omega, by omega⟩).le (by decide)) (fun z51 M55 ⟨hH55, hR55, lz51, uz51, p52, p53, p54⟩ => ?_)
    have hF55 := hF46.tr hR55 (by decide +kernel)
    obtain ⟨z56, k57, lz56, uz56⟩ := hH55.ld (c := 173) (i := 5) (A := 0) (B := 940) (bs_28_3 _ _ (by omega) (by omega))
    obtain ⟨z58, k59, lz58, uz58⟩ := hH55.ld (c := 173) (i := 13) (A := (-2147483648)) (B := 2147483647) (bs_28_7 _ _ (by omega) (by omega))
    refine jv_i c3 hm rfl pj_X12_put rfl rfl ⟨_, _, _, rfl, sh_173⟩ rfl ((ct_X12_put_173 X (by omega) M55 hH55 (6 * z16 + z32 + 65) ⟨by omega, by omega⟩ z51 ⟨by omega, by omega⟩ (by rw [show bnd X 176 ((6 * z16 + z32 + 65) : Int).toNat = ((-2147483648), 2147483647) from (bs_12_7 _ _ (by omega))]; dsimp only; omega)).le (by decide)) (fun z60 M62 ⟨hH62, hR62, lz60, uz60, p61⟩ => ?_)
    have hF62 := hF55.tr hR62 (by decide +kernel)
    have k63 : M62.1 173 5 = z56 := (hR62 173 5 (by decide +kernel)).trans k57
    exact jx_retz c2 hm rfl rfl ⟨by omega, by omega⟩ ⟨_, rfl, hH62, hF62, by omega, by omega, (by omega), (by omega)⟩
   refine jx_load c1 hm rfl rfl rfl rfl ?_
   refine jy_ic c1 hm rfl (by decide) ?_
   refine jv_i c3 hm rfl pj_X12_bad rfl rfl ⟨_, _, _, rfl, sh_173⟩ rfl ((ct_X12_bad_173 X (by omega) M31 hH31 3 ⟨by omega, by omega⟩).le (by decide)) (fun z64 M66 ⟨hH66, hR66, lz64, uz64, p65⟩ => ?_)
   have hF66 := hF31.tr hR66 (by decide +kernel)
   have k67 : M66.1 173 5 = z23 := (hR66 173 5 (by decide +kernel)).trans ((hR31 173 5 (by decide +kernel)).trans k24)
   exact jx_retz c2 hm rfl rfl ⟨by omega, by omega⟩ ⟨_, rfl, hH66, hF66, by omega, by omega, (by omega), (by omega)⟩
  refine jy_ic c1 hm rfl (by decide) ?_
  have k68 : M31.1 173 5 = z23 := (hR31 173 5 (by decide +kernel)).trans k24
  exact jx_retz c2 hm rfl rfl ⟨by omega, by omega⟩ ⟨_, rfl, hH31, hF31, by omega, by omega, (by omega), (by omega)⟩
 refine jy_ic c1 hm rfl (by decide) ?_
 have k69 : M15.1 173 5 = z6 := (hR15 173 5 (by decide +kernel)).trans k7
 exact jx_retz c2 hm rfl rfl ⟨by omega, by omega⟩ ⟨_, rfl, hH15, hF15, by omega, by omega, (by omega), (by omega)⟩
def md_X12_readFirst_173 : List (Nat × (Nat × Nat)) := [(173, (5, 5)), (173, (6, 6)), (173, (7, 7)), (173, (8, 8)), (173, (9, 9)), (173, (10, 10)), (173, (11, 11))]
theorem ct_X12_readFirst_173 (X : Int) (hX : 0 ≤ X ∧ X ≤ 100000000) (M0 : JM) (hH0 : HI X M0) (a0 : Int) (ha0 : 0 ≤ a0 ∧ a0 ≤ 2) (a1 : Int) (ha1 : 6 ≤ a1 ∧ a1 ≤ 6) : JOk shp PJ 3 158 [.inr (.inr (.inl 173)), .inl a0, .inl a1] M0 (jRi (fun v M' => HI X M' ∧ Fr md_X12_readFirst_173 M0 M' ∧ 0 ≤ v ∧ v ≤ 1 ∧ (M0.1 173 5 ≤ M'.1 173 5) ∧ (v = 0 ∨ M'.1 173 7 ≤ 1 ∨ M0.1 173 5 < M'.1 173 5) ∧ (a0 ≠ 0 ∨ v = 0 ∨ M0.1 176 0 ≤ 5) ∧ (a0 ≠ 1 ∨ v = 0 ∨ M0.1 176 1 ≤ 5) ∧ (a0 ≠ 2 ∨ v = 0 ∨ M0.1 176 2 ≤ 5))) := by
 refine ⟨jr_X12_readFirst, pj_X12_readFirst, fun F c1 c2 c3 => ?_⟩
 have hm := pj_X12_readFirst
 change F 0 [some (.inr (.inr (.inl 173))), some (.inl a0), some (.inl a1)] [] M0
 have hF0 : Fr md_X12_readFirst_173 M0 M0 := Fr.rf _ _
 obtain ⟨z1, k2, lz1, uz1⟩ := hH0.ld (c := 173) (i := 5) (A := 0) (B := 940) (bs_28_3 _ _ (by omega) (by omega))
 obtain ⟨z3, k4, lz3, uz3⟩ := hH0.ld (c := 176) (i := 0) (A := 0) (B := 6) (bs_12_0 _ _ (by omega) (by omega))
 obtain ⟨z5, k6, lz5, uz5⟩ := hH0.ld (c := 176) (i := 1) (A := 0) (B := 6) (bs_12_0 _ _ (by omega) (by omega))
 obtain ⟨z7, k8, lz7, uz7⟩ := hH0.ld (c := 176) (i := 2) (A := 0) (B := 6) (bs_12_0 _ _ (by omega) (by omega))
 rcases (show (a0 = 0) ∨ (a0 = 1) ∨ (a0 = 2) by omega) with hs | hs | hs
 ·
  subst hs
  refine jx_load c1 hm rfl rfl rfl rfl ?_
  refine jx_getr c1 hm rfl sh_173 rfl ?_
  refine jx_load c1 hm rfl rfl rfl rfl ?_
  refine jx_iald c1 hm rfl sh_176 ⟨by omega, by omega⟩ k4 ?_
  refine jx_load c1 hm rfl rfl rfl rfl ?_
  refine jc_ne c1 hm 16 rfl rfl (fun h9 => ?_) (fun h9 => ?_)
  ·
   refine jx_load c1 hm rfl rfl rfl rfl ?_
   refine jv_v c3 hm rfl pj_X12_go rfl rfl ⟨_, _, _, rfl, sh_173⟩ rfl ((ct_X12_go_173 X (by omega) M0 hH0 ).le (by decide)) (fun M12 ⟨hH12, hR12, p10, p11⟩ => ?_)
   have hF12 := hF0.tr hR12 (by decide +kernel)
   obtain ⟨z13, k14, lz13, uz13⟩ := hH12.ld (c := 173) (i := 5) (A := 0) (B := 940) (bs_28_3 _ _ (by omega) (by omega))
   obtain ⟨z15, k16, lz15, uz15⟩ := hH12.ld (c := 173) (i := 7) (A := 0) (B := 4) (bs_28_4 _ _ (by omega) (by omega))
   refine jy_ic c1 hm rfl (by decide) ?_
   have k17 : M12.1 176 0 = z3 := (hR12 176 0 (by decide +kernel)).trans k4
   have k18 : M12.1 176 1 = z5 := (hR12 176 1 (by decide +kernel)).trans k6
   have k19 : M12.1 176 2 = z7 := (hR12 176 2 (by decide +kernel)).trans k8
   exact jx_retz c2 hm rfl rfl ⟨by omega, by omega⟩ ⟨_, rfl, hH12, hF12, by omega, by omega, (by omega), (by omega), (by omega), (by omega), (by omega)⟩
  refine jx_load c1 hm rfl rfl rfl rfl ?_
  refine jy_ic c1 hm rfl (by decide) ?_
  refine jv_i c3 hm rfl pj_X12_bad rfl rfl ⟨_, _, _, rfl, sh_173⟩ rfl ((ct_X12_bad_173 X (by omega) M0 hH0 4 ⟨by omega, by omega⟩).le (by decide)) (fun z20 M22 ⟨hH22, hR22, lz20, uz20, p21⟩ => ?_)
  have hF22 := hF0.tr hR22 (by decide +kernel)
  have k23 : M22.1 173 5 = z1 := (hR22 173 5 (by decide +kernel)).trans k2
  obtain ⟨z24, k25, lz24, uz24⟩ := hH22.ld (c := 173) (i := 7) (A := 0) (B := 4) (bs_28_4 _ _ (by omega) (by omega))
  have k26 : M22.1 176 0 = z3 := (hR22 176 0 (by decide +kernel)).trans k4
  have k27 : M22.1 176 1 = z5 := (hR22 176 1 (by decide +kernel)).trans k6
  have k28 : M22.1 176 2 = z7 := (hR22 176 2 (by decide +kernel)).trans k8
  exact jx_retz c2 hm rfl rfl ⟨by omega, by omega⟩ ⟨_, rfl, hH22, hF22, by omega, by omega, (by omega), (by omega), (by omega), (by omega), (by omega)⟩
 ·
  subst hs
  refine jx_load c1 hm rfl rfl rfl rfl ?_
  refine jx_getr c1 hm rfl sh_173 rfl ?_
  refine jx_load c1 hm rfl rfl rfl rfl ?_
  refine jx_iald c1 hm rfl sh_176 ⟨by omega, by omega⟩ k6 ?_
  refine jx_load c1 hm rfl rfl rfl rfl ?_
  refine jc_ne c1 hm 16 rfl rfl (fun h29 => ?_) (fun h29 => ?_)
  ·
   refine jx_load c1 hm rfl rfl rfl rfl ?_
   refine jv_v c3 hm rfl pj_X12_go rfl rfl ⟨_, _, _, rfl, sh_173⟩ rfl ((ct_X12_go_173 X (by omega) M0 hH0 ).le (by decide)) (fun M32 ⟨hH32, hR32, p30, p31⟩ => ?_)
   have hF32 := hF0.tr hR32 (by decide +kernel)
   obtain ⟨z33, k34, lz33, uz33⟩ := hH32.ld (c := 173) (i := 5) (A := 0) (B := 940) (bs_28_3 _ _ (by omega) (by omega))
   obtain ⟨z35, k36, lz35, uz35⟩ := hH32.ld (c := 173) (i := 7) (A := 0) (B := 4) (bs_28_4 _ _ (by omega) (by omega))
   refine jy_ic c1 hm rfl (by decide) ?_
   have k37 : M32.1 176 0 = z3 := (hR32 176 0 (by decide +kernel)).trans k4
   have k38 : M32.1 176 1 = z5 := (hR32 176 1 (by decide +kernel)).trans k6
   have k39 : M32.1 176 2 = z7 := (hR32 176 2 (by decide +kernel)).trans k8
   exact jx_retz c2 hm rfl rfl ⟨by omega, by omega⟩ ⟨_, rfl, hH32, hF32, by omega, by omega, (by omega), (by omega), (by omega), (by omega), (by omega)⟩
  refine jx_load c1 hm rfl rfl rfl rfl ?_
  refine jy_ic c1 hm rfl (by decide) ?_
  refine jv_i c3 hm rfl pj_X12_bad rfl rfl ⟨_, _, _, rfl, sh_173⟩ rfl ((ct_X12_bad_173 X (by omega) M0 hH0 4 ⟨by omega, by omega⟩).le (by decide)) (fun z40 M42 ⟨hH42, hR42, lz40, uz40, p41⟩ => ?_)
  have hF42 := hF0.tr hR42 (by decide +kernel)
  have k43 : M42.1 173 5 = z1 := (hR42 173 5 (by decide +kernel)).trans k2
  obtain ⟨z44, k45, lz44, uz44⟩ := hH42.ld (c := 173) (i := 7) (A := 0) (B := 4) (bs_28_4 _ _ (by omega) (by omega))
  have k46 : M42.1 176 0 = z3 := (hR42 176 0 (by decide +kernel)).trans k4
  have k47 : M42.1 176 1 = z5 := (hR42 176 1 (by decide +kernel)).trans k6
  have k48 : M42.1 176 2 = z7 := (hR42 176 2 (by decide +kernel)).trans k8
  exact jx_retz c2 hm rfl rfl ⟨by omega, by omega⟩ ⟨_, rfl, hH42, hF42, by omega, by omega, (by omega), (by omega), (by omega), (by omega), (by omega)⟩
 ·
  subst hs
  refine jx_load c1 hm rfl rfl rfl rfl ?_
  refine jx_getr c1 hm rfl sh_173 rfl ?_
  refine jx_load c1 hm rfl rfl rfl rfl ?_
  refine jx_iald c1 hm rfl sh_176 ⟨by omega, by omega⟩ k8 ?_
  refine jx_load c1 hm rfl rfl rfl rfl ?_
  refine jc_ne c1 hm 16 rfl rfl (fun h49 => ?_) (fun h49 => ?_)
  ·
   refine jx_load c1 hm rfl rfl rfl rfl ?_
   refine jv_v c3 hm rfl pj_X12_go rfl rfl ⟨_, _, _, rfl, sh_173⟩ rfl ((ct_X12_go_173 X (by omega) M0 hH0 ).le (by decide)) (fun M52 ⟨hH52, hR52, p50, p51⟩ => ?_)
   have hF52 := hF0.tr hR52 (by decide +kernel)
   obtain ⟨z53, k54, lz53, uz53⟩ := hH52.ld (c := 173) (i := 5) (A := 0) (B := 940) (bs_28_3 _ _ (by omega) (by omega))
   obtain ⟨z55, k56, lz55, uz55⟩ := hH52.ld (c := 173) (i := 7) (A := 0) (B := 4) (bs_28_4 _ _ (by omega) (by omega))
   refine jy_ic c1 hm rfl (by decide) ?_
   have k57 : M52.1 176 0 = z3 := (hR52 176 0 (by decide +kernel)).trans k4
   have k58 : M52.1 176 1 = z5 := (hR52 176 1 (by decide +kernel)).trans k6
   have k59 : M52.1 176 2 = z7 := (hR52 176 2 (by decide +kernel)).trans k8
   exact jx_retz c2 hm rfl rfl ⟨by omega, by omega⟩ ⟨_, rfl, hH52, hF52, by omega, by omega, (by omega), (by omega), (by omega), (by omega), (by omega)⟩
  refine jx_load c1 hm rfl rfl rfl rfl ?_
  refine jy_ic c1 hm rfl (by decide) ?_
  refine jv_i c3 hm rfl pj_X12_bad rfl rfl ⟨_, _, _, rfl, sh_173⟩ rfl ((ct_X12_bad_173 X (by omega) M0 hH0 4 ⟨by omega, by omega⟩).le (by decide)) (fun z60 M62 ⟨hH62, hR62, lz60, uz60, p61⟩ => ?_)
  have hF62 := hF0.tr hR62 (by decide +kernel)
  have k63 : M62.1 173 5 = z1 := (hR62 173 5 (by decide +kernel)).trans k2
  obtain ⟨z64, k65, lz64, uz64⟩ := hH62.ld (c := 173) (i := 7) (A := 0) (B := 4) (bs_28_4 _ _ (by omega) (by omega))
  have k66 : M62.1 176 0 = z3 := (hR62 176 0 (by decide +kernel)).trans k4
  have k67 : M62.1 176 1 = z5 := (hR62 176 1 (by decide +kernel)).trans k6
  have k68 : M62.1 176 2 = z7 := (hR62 176 2 (by decide +kernel)).trans k8
  exact jx_retz c2 hm rfl rfl ⟨by omega, by omega⟩ ⟨_, rfl, hH62, hF62, by omega, by omega, (by omega), (by omega), (by omega), (by omega), (by omega)⟩
def md_X12_readNew_173 : List (Nat × (Nat × Nat)) := [(173, (5, 5)), (173, (6, 6)), (173, (7, 7)), (173, (8, 8)), (173, (9, 9)), (173, (10, 10)), (173, (11, 11))]
theorem ct_X12_readNew_173 (X : Int) (hX : 0 ≤ X ∧ X ≤ 100000000) (M0 : JM) (hH0 : HI X M0) (a0 : Int) (ha0 : 0 ≤ a0 ∧ a0 ≤ 17) : JOk shp PJ 4 165 [.inr (.inr (.inl 173)), .inl a0] M0 (jRi (fun v M' => HI X M' ∧ Fr md_X12_readNew_173 M0 M' ∧ 0 ≤ v ∧ v ≤ 1 ∧ (M0.1 173 5 ≤ M'.1 173 5) ∧ (v = 1 → M0.1 173 7 = 2))) := by
 refine ⟨jr_X12_readNew, pj_X12_readNew, fun F c1 c2 c3 => ?_⟩
 have hm := pj_X12_readNew
 change F 0 [some (.inr (.inr (.inl 173))), some (.inl a0)] [] M0
 have hF0 : Fr md_X12_readNew_173 M0 M0 := Fr.rf _ _
 obtain ⟨z1, k2, lz1, uz1⟩ := hH0.ld (c := 173) (i := 5) (A := 0) (B := 940) (bs_28_3 _ _ (by omega) (by omega))
 obtain ⟨z3, k4, lz3, uz3⟩ := hH0.ld (c := 173) (i := 7) (A := 0) (B := 4) (bs_28_4 _ _ (by omega) (by omega))
 refine jx_load c1 hm rfl rfl rfl rfl ?_
 refine jv_i c3 hm rfl pj_X12_isName rfl rfl ⟨_, _, _, rfl, sh_173⟩ rfl ((ct_X12_isName_173 X (by omega) M0 hH0 ).le (by decide)) (fun z5 _ ⟨rfl, lz5, uz5, p6⟩ => ?_)
 refine jz_ne c1 hm 13 rfl rfl (fun h7 => ?_) (fun h7 => ?_)
 ·
  refine jx_load c1 hm rfl rfl rfl rfl ?_
  refine jx_getr c1 hm rfl sh_173 rfl ?_
  refine jy_ic c1 hm rfl (by decide) ?_
  refine jx_load c1 hm rfl rfl rfl rfl ?_
  refine jx_getr c1 hm rfl sh_173 rfl ?_
  refine jy_ic c1 hm rfl (by decide) ?_
  obtain ⟨z8, k9, lz8, uz8⟩ := hH0.ld (c := 176) (i := 0) (A := 0) (B := 6) (bs_12_0 _ _ (by omega) (by omega))
  refine jx_iald c1 hm rfl sh_176 ⟨by omega, by omega⟩ k9 ?_
  refine jx_load c1 hm rfl rfl rfl rfl ?_
  obtain ⟨w10, kw10⟩ : ∃ w, M0.2 173 12 = w := ⟨_, rfl⟩
  have bw10 : LB w10.toInt := kw10 ▸ hH0.2.1 173 12 rfl
  refine jx_getl c1 hm rfl sh_173 rfl kw10 ?_
  refine jt_i c3 hm rfl rfl pj_X12_findIn rfl rfl rfl ((ct_X12_findIn_181 X (by omega) M0 hH0 0 ⟨by omega, by omega⟩ z8 ⟨by omega, by omega⟩ w10).le (by decide)) (fun z11 _ ⟨rfl, lz11, uz11, p12, p13, p14⟩ => ?_)
  clear p12 p13 p14
  refine jy_ic c1 hm rfl (by decide) ?_
  refine jc_ne c1 hm 81 rfl rfl (fun h15 => ?_) (fun h15 => ?_)
  ·
   refine jx_load c1 hm rfl rfl rfl rfl ?_
   refine jy_ic c1 hm rfl (by decide) ?_
   refine jv_i c3 hm rfl pj_X12_bad rfl rfl ⟨_, _, _, rfl, sh_173⟩ rfl ((ct_X12_bad_173 X (by omega) M0 hH0 3 ⟨by omega, by omega⟩).le (by decide)) (fun z16 M18 ⟨hH18, hR18, lz16, uz16, p17⟩ => ?_)
   have hF18 := hF0.tr hR18 (by decide +kernel)
   have k19 : M18.1 173 5 = z1 := (hR18 173 5 (by decide +kernel)).trans k2
   have k20 : M18.1 173 7 = z3 := (hR18 173 7 (by decide +kernel)).trans k4
   exact jx_retz c2 hm rfl rfl ⟨by omega, by omega⟩ ⟨_, rfl, hH18, hF18, by omega, by omega, (by omega), (by omega)⟩
  refine jx_load c1 hm rfl rfl rfl rfl ?_
  refine jx_getr c1 hm rfl sh_173 rfl ?_
  refine jy_bp c1 hm rfl (by decide) ?_
  refine jx_load c1 hm rfl rfl rfl rfl ?_
  refine jx_getr c1 hm rfl sh_173 rfl ?_
  refine jy_ic c1 hm rfl (by decide) ?_
  obtain ⟨z21, k22, lz21, uz21⟩ := hH0.ld (c := 176) (i := 1) (A := 0) (B := 6) (bs_12_0 _ _ (by omega) (by omega))
  refine jx_iald c1 hm rfl sh_176 ⟨by omega, by omega⟩ k22 ?_
  refine jx_load c1 hm rfl rfl rfl rfl ?_
  refine jx_getl c1 hm rfl sh_173 rfl kw10 ?_
  refine jt_i c3 hm rfl rfl pj_X12_findIn rfl rfl rfl ((ct_X12_findIn_181 X (by omega) M0 hH0 6 ⟨by omega, by omega⟩ z21 ⟨by omega, by omega⟩ w10).le (by decide)) (fun z23 _ ⟨rfl, lz23, uz23, p24, p25, p26⟩ => ?_)
  clear p24 p25 p26
  refine jy_ic c1 hm rfl (by decide) ?_
  refine jc_ne c1 hm 81 rfl rfl (fun h27 => ?_) (fun h27 => ?_)
  ·
   refine jx_load c1 hm rfl rfl rfl rfl ?_
   refine jy_ic c1 hm rfl (by decide) ?_
   refine jv_i c3 hm rfl pj_X12_bad rfl rfl ⟨_, _, _, rfl, sh_173⟩ rfl ((ct_X12_bad_173 X (by omega) M0 hH0 3 ⟨by omega, by omega⟩).le (by decide)) (fun z28 M30 ⟨hH30, hR30, lz28, uz28, p29⟩ => ?_)
   have hF30 := hF0.tr hR30 (by decide +kernel)
   have k31 : M30.1 173 5 = z1 := (hR30 173 5 (by decide +kernel)).trans k2
   have k32 : M30.1 173 7 = z3 := (hR30 173 7 (by decide +kernel)).trans k4
   exact jx_retz c2 hm rfl rfl ⟨by omega, by omega⟩ ⟨_, rfl, hH30, hF30, by omega, by omega, (by omega), (by omega)⟩
  refine jx_load c1 hm rfl rfl rfl rfl ?_
  refine jx_getr c1 hm rfl sh_173 rfl ?_
  refine jy_bp c1 hm rfl (by decide) ?_
  refine jx_load c1 hm rfl rfl rfl rfl ?_
  refine jx_getr c1 hm rfl sh_173 rfl ?_
  refine jy_ic c1 hm rfl (by decide) ?_
  obtain ⟨z33, k34, lz33, uz33⟩ := hH0.ld (c := 176) (i := 2) (A := 0) (B := 6) (bs_12_0 _ _ (by omega) (by omega))
  refine jx_iald c1 hm rfl sh_176 ⟨by omega, by omega⟩ k34 ?_
  refine jx_load c1 hm rfl rfl rfl rfl ?_
  refine jx_getl c1 hm rfl sh_173 rfl kw10 ?_
  refine jt_i c3 hm rfl rfl pj_X12_findIn rfl rfl rfl ((ct_X12_findIn_181 X (by omega) M0 hH0 12 ⟨by omega, by omega⟩ z33 ⟨by omega, by omega⟩ w10).le (by decide)) (fun z35 _ ⟨rfl, lz35, uz35, p36, p37, p38⟩ => ?_)
  clear p36 p37 p38
  refine jy_ic c1 hm rfl (by decide) ?_
  refine jc_eq c1 hm 87 rfl rfl (fun h39 => ?_) (fun h39 => ?_)
  ·
   refine jx_load c1 hm rfl rfl rfl rfl ?_
   refine jx_getr c1 hm rfl sh_173 rfl ?_
   refine jx_load c1 hm rfl rfl rfl rfl ?_
   refine jx_load c1 hm rfl rfl rfl rfl ?_
   refine jx_getl c1 hm rfl sh_173 rfl kw10 ?_
   obtain ⟨M40, e40, hH40, hF40, n40, k40, _⟩ := mul hH0 hF0 (c := 181) (i := (a0).toNat) (v := w10) (fun _ => bw10)
   refine jm_last c1 hm rfl sh_181 ⟨by omega, by omega⟩ e40 ?_
   refine jx_load c1 hm rfl rfl rfl rfl ?_
   have k41 : M40.1 173 5 = z1 := (n40 173 5).trans k2
   refine jv_v c3 hm rfl pj_X12_go rfl rfl ⟨_, _, _, rfl, sh_173⟩ rfl ((ct_X12_go_173 X (by omega) M40 hH40 ).le (by decide)) (fun M44 ⟨hH44, hR44, p42, p43⟩ => ?_)
   have hF44 := hF40.tr hR44 (by decide +kernel)
   obtain ⟨z45, k46, lz45, uz45⟩ := hH44.ld (c := 173) (i := 5) (A := 0) (B := 940) (bs_28_3 _ _ (by omega) (by omega))
   obtain ⟨z47, k48, lz47, uz47⟩ := hH44.ld (c := 173) (i := 7) (A := 0) (B := 4) (bs_28_4 _ _ (by omega) (by omega))
   refine jy_ic c1 hm rfl (by decide) ?_
   exact jx_retz c2 hm rfl rfl ⟨by omega, by omega⟩ ⟨_, rfl, hH44, hF44, by omega, by omega, (by omega), (by omega)⟩
  refine jx_load c1 hm rfl rfl rfl rfl ?_
  refine jy_ic c1 hm rfl (by decide) ?_
  refine jv_i c3 hm rfl pj_X12_bad rfl rfl ⟨_, _, _, rfl, sh_173⟩ rfl ((ct_X12_bad_173 X (by omega) M0 hH0 3 ⟨by omega, by omega⟩).le (by decide)) (fun z49 M51 ⟨hH51, hR51, lz49, uz49, p50⟩ => ?_)
  have hF51 := hF0.tr hR51 (by decide +kernel)
  have k52 : M51.1 173 5 = z1 := (hR51 173 5 (by decide +kernel)).trans k2
  have k53 : M51.1 173 7 = z3 := (hR51 173 7 (by decide +kernel)).trans k4
  exact jx_retz c2 hm rfl rfl ⟨by omega, by omega⟩ ⟨_, rfl, hH51, hF51, by omega, by omega, (by omega), (by omega)⟩
 refine jx_load c1 hm rfl rfl rfl rfl ?_
 refine jy_ic c1 hm rfl (by decide) ?_
 refine jv_i c3 hm rfl pj_X12_bad rfl rfl ⟨_, _, _, rfl, sh_173⟩ rfl ((ct_X12_bad_173 X (by omega) M0 hH0 1 ⟨by omega, by omega⟩).le (by decide)) (fun z54 M56 ⟨hH56, hR56, lz54, uz54, p55⟩ => ?_)
 have hF56 := hF0.tr hR56 (by decide +kernel)
 have k57 : M56.1 173 5 = z1 := (hR56 173 5 (by decide +kernel)).trans k2
 have k58 : M56.1 173 7 = z3 := (hR56 173 7 (by decide +kernel)).trans k4
 exact jx_retz c2 hm rfl rfl ⟨by omega, by omega⟩ ⟨_, rfl, hH56, hF56, by omega, by omega, (by omega), (by omega)⟩
def md_X12_readGood_173 : List (Nat × (Nat × Nat)) := [(173, (5, 5)), (173, (6, 6)), (173, (7, 7)), (173, (8, 8)), (173, (9, 9)), (173, (10, 10)), (173, (11, 11)), (173, (13, 13)), (176, (2, 2)), (176, (3, 100))]
theorem ct_X12_readGood_173 (X : Int) (hX : 0 ≤ X ∧ X ≤ 100000000) (M0 : JM) (hH0 : HI X M0)  : JOk shp PJ 5 160 [.inr (.inr (.inl 173))] M0 (jRi (fun v M' => HI X M' ∧ Fr md_X12_readGood_173 M0 M' ∧ 0 ≤ v ∧ v ≤ 1 ∧ (M0.1 173 5 ≤ M'.1 173 5) ∧ (v = 1 → M0.1 173 5 < M'.1 173 5))) := by
 refine ⟨jr_X12_readGood, pj_X12_readGood, fun F c1 c2 c3 => ?_⟩
 have hm := pj_X12_readGood
 change F 0 [some (.inr (.inr (.inl 173))), none] [] M0
 have hF0 : Fr md_X12_readGood_173 M0 M0 := Fr.rf _ _
 obtain ⟨z1, k2, lz1, uz1⟩ := hH0.ld (c := 173) (i := 5) (A := 0) (B := 940) (bs_28_3 _ _ (by omega) (by omega))
 refine jx_load c1 hm rfl rfl rfl rfl ?_
 refine jy_ic c1 hm rfl (by decide) ?_
 refine jy_bp c1 hm rfl (by decide) ?_
 obtain ⟨z3, k4, lz3, uz3⟩ := hH0.ld (c := 176) (i := 2) (A := 0) (B := 6) (bs_12_0 _ _ (by omega) (by omega))
 obtain ⟨z5, k6, lz5, uz5⟩ := hH0.ld (c := 176) (i := 0) (A := 0) (B := 6) (bs_12_0 _ _ (by omega) (by omega))
 obtain ⟨z7, k8, lz7, uz7⟩ := hH0.ld (c := 176) (i := 1) (A := 0) (B := 6) (bs_12_0 _ _ (by omega) (by omega))
 refine jv_i c3 hm rfl pj_X12_readFirst rfl rfl ⟨_, _, _, rfl, sh_173⟩ rfl ((ct_X12_readFirst_173 X (by omega) M0 hH0 2 ⟨by omega, by omega⟩ 6 ⟨by omega, by omega⟩).le (by decide)) (fun z9 M15 ⟨hH15, hR15, lz9, uz9, p10, p11, p12, p13, p14⟩ => ?_)
 have hF15 := hF0.tr hR15 (by decide +kernel)
 obtain ⟨z16, k17, lz16, uz16⟩ := hH15.ld (c := 173) (i := 5) (A := 0) (B := 940) (bs_28_3 _ _ (by omega) (by omega))
 obtain ⟨z18, k19, lz18, uz18⟩ := hH15.ld (c := 173) (i := 7) (A := 0) (B := 4) (bs_28_4 _ _ (by omega) (by omega))
 refine jz_ne c1 hm 12 rfl rfl (fun h20 => ?_) (fun h20 => ?_)
 ·
  refine jx_load c1 hm rfl rfl rfl rfl ?_
  refine jx_getr c1 hm rfl sh_173 rfl ?_
  refine jy_ic c1 hm rfl (by decide) ?_
  have k21 : M15.1 176 2 = z3 := (hR15 176 2 (by decide +kernel)).trans k4
  refine jx_iald c1 hm rfl sh_176 ⟨by omega, by omega⟩ k21 ?_
  refine jx_stor c1 hm (L' := [some (.inr (.inr (.inl 173))), some (.inl z3)]) rfl rfl rfl rfl rfl ?_
  refine jx_load c1 hm rfl rfl rfl rfl ?_
  refine jy_bp c1 hm rfl (by decide) ?_
  refine jx_load c1 hm rfl rfl rfl rfl ?_
  refine jy_add c1 hm (z3 + 12) rfl (by omega) ?_
  refine jv_i c3 hm rfl pj_X12_readNew rfl rfl ⟨_, _, _, rfl, sh_173⟩ rfl ((ct_X12_readNew_173 X (by omega) M15 hH15 (z3 + 12) ⟨by omega, by omega⟩).le (by decide)) (fun z22 M25 ⟨hH25, hR25, lz22, uz22, p23, p24⟩ => ?_)
  have hF25 := hF15.tr hR25 (by decide +kernel)
  obtain ⟨z26, k27, lz26, uz26⟩ := hH25.ld (c := 173) (i := 5) (A := 0) (B := 940) (bs_28_3 _ _ (by omega) (by omega))
  refine jz_eq c1 hm 66 rfl rfl (fun h28 => ?_) (fun h28 => ?_)
  ·
   refine jy_ic c1 hm rfl (by decide) ?_
   exact jx_retz c2 hm rfl rfl ⟨by omega, by omega⟩ ⟨_, rfl, hH25, hF25, by omega, by omega, (by omega), (by omega)⟩
  refine jx_load c1 hm rfl rfl rfl rfl ?_
  refine jy_bp c1 hm rfl (by decide) ?_
  refine jx_load c1 hm rfl rfl rfl rfl ?_
  refine jy_add c1 hm (z3 + 53) rfl (by omega) ?_
  refine jx_load c1 hm rfl rfl rfl rfl ?_
  refine jy_ic c1 hm rfl (by decide) ?_
  refine jy_bp c1 hm rfl (by decide) ?_
  obtain ⟨z29, k30, lz29, uz29⟩ := hH25.ld (c := 173) (i := 7) (A := 0) (B := 4) (bs_28_4 _ _ (by omega) (by omega))
  refine jv_i c3 hm rfl pj_X12_readNumber rfl rfl ⟨_, _, _, rfl, sh_173⟩ rfl ((ct_X12_readNumber_173 X (by omega) M25 hH25 1 ⟨by omega, by omega⟩ 99 ⟨by omega, by omega⟩).le (by decide)) (fun z31 M35 ⟨hH35, hR35, lz31, uz31, p32, p33, p34⟩ => ?_)
  have hF35 := hF25.tr hR35 (by decide +kernel)
  obtain ⟨z36, k37, lz36, uz36⟩ := hH35.ld (c := 173) (i := 5) (A := 0) (B := 940) (bs_28_3 _ _ (by omega) (by omega))
  obtain ⟨z38, k39, lz38, uz38⟩ := hH35.ld (c := 173) (i := 13) (A := (-2147483648)) (B := 2147483647) (bs_28_7 _ _ (by omega) (by omega))
  refine jv_i c3 hm rfl pj_X12_put rfl rfl ⟨_, _, _, rfl, sh_173⟩ rfl ((ct_X12_put_173 X (by omega) M35 hH35 (z3 + 53) ⟨by omega, by omega⟩ z31 ⟨by omega, by omega⟩ (by rw [show bnd X 176 ((z3 + 53) : Int).toNat = (0, 99) from (bs_12_5 _ _ (by omega) (by omega))]; dsimp only; omega)).le (by decide)) (fun z40 M42 ⟨hH42, hR42, lz40, uz40, p41⟩ => ?_)
  have hF42 := hF35.tr hR42 (by decide +kernel)
  refine jz_eq c1 hm 66 rfl rfl (fun h43 => ?_) (fun h43 => ?_)
  ·
   refine jy_ic c1 hm rfl (by decide) ?_
   have k44 : M42.1 173 5 = z36 := (hR42 173 5 (by decide +kernel)).trans k37
   exact jx_retz c2 hm rfl rfl ⟨by omega, by omega⟩ ⟨_, rfl, hH42, hF42, by omega, by omega, (by omega), (by omega)⟩
  refine jx_load c1 hm rfl rfl rfl rfl ?_
  refine jy_bp c1 hm rfl (by decide) ?_
  refine jx_load c1 hm rfl rfl rfl rfl ?_
  refine jy_add c1 hm (z3 + 59) rfl (by omega) ?_
  refine jx_load c1 hm rfl rfl rfl rfl ?_
  refine jy_ic c1 hm rfl (by decide) ?_
  refine jy_bp c1 hm rfl (by decide) ?_
  have k45 : M42.1 173 5 = z36 := (hR42 173 5 (by decide +kernel)).trans k37
  obtain ⟨z46, k47, lz46, uz46⟩ := hH42.ld (c := 173) (i := 7) (A := 0) (B := 4) (bs_28_4 _ _ (by omega) (by omega))
  refine jv_i c3 hm rfl pj_X12_readNumber rfl rfl ⟨_, _, _, rfl, sh_173⟩ rfl ((ct_X12_readNumber_173 X (by omega) M42 hH42 0 ⟨by omega, by omega⟩ 20 ⟨by omega, by omega⟩).le (by decide)) (fun z48 M52 ⟨hH52, hR52, lz48, uz48, p49, p50, p51⟩ => ?_)
  have hF52 := hF42.tr hR52 (by decide +kernel)
  obtain ⟨z53, k54, lz53, uz53⟩ := hH52.ld (c := 173) (i := 5) (A := 0) (B := 940) (bs_28_3 _ _ (by omega) (by omega))
  obtain ⟨z55, k56, lz55, uz55⟩ := hH52.ld (c := 173) (i := 13) (A := (-2147483648)) (B := 2147483647) (bs_28_7 _ _ (by omega) (by omega))
  refine jv_i c3 hm rfl pj_X12_put rfl rfl ⟨_, _, _, rfl, sh_173⟩ rfl ((ct_X12_put_173 X (by omega) M52 hH52 (z3 + 59) ⟨by omega, by omega⟩ z48 ⟨by omega, by omega⟩ (by rw [show bnd X 176 ((z3 + 59) : Int).toNat = (0, 20) from (bs_12_6 _ _ (by omega) (by omega))]; dsimp only; omega)).le (by decide)) (fun z57 M59 ⟨hH59, hR59, lz57, uz57, p58⟩ => ?_)
  have hF59 := hF52.tr hR59 (by decide +kernel)
  refine jz_ne c1 hm 68 rfl rfl (fun h60 => ?_) (fun h60 => ?_)
  ·
   refine jx_load c1 hm rfl rfl rfl rfl ?_
   refine jx_getr c1 hm rfl sh_173 rfl ?_
   refine jy_ic c1 hm rfl (by decide) ?_
   refine jx_dup2 c1 hm rfl rfl rfl ?_
   have k61 : M59.1 176 2 = z3 := (hR59 176 2 (by decide +kernel)).trans ((hR52 176 2 (by decide +kernel)).trans ((hR42 176 2 (by decide +kernel)).trans ((hR35 176 2 (by decide +kernel)).trans ((hR25 176 2 (by decide +kernel)).trans k21))))
   refine jx_iald c1 hm rfl sh_176 ⟨by omega, by omega⟩ k61 ?_
   refine jy_ic c1 hm rfl (by decide) ?_
   refine jy_add c1 hm (z3 + 1) rfl (by omega) ?_
   obtain ⟨M62, e62, hH62, hF62, k62, n62, q62⟩ := mup hH59 hF59 (c := 176) (i := 2) (v := (z3 + 1)) (A := 0) (B := 6) (bs_12_0 _ _ (by omega) (by omega)) ⟨by omega, by omega⟩ (jin_of 8 rfl ⟨by omega, by omega⟩)
   refine jm_iast c1 hm rfl sh_176 ⟨by omega, by omega⟩ e62 ?_
   refine jy_ic c1 hm rfl (by decide) ?_
   have k63 : M62.1 173 5 = z53 := (n62 173 5 (fun h => absurd h.1 (by decide))).trans ((hR59 173 5 (by decide +kernel)).trans k54)
   exact jx_retz c2 hm rfl rfl ⟨by omega, by omega⟩ ⟨_, rfl, hH62, hF62, by omega, by omega, (by omega), (by omega)⟩
  refine jy_ic c1 hm rfl (by decide) ?_
  have k64 : M59.1 173 5 = z53 := (hR59 173 5 (by decide +kernel)).trans k54
  exact jx_retz c2 hm rfl rfl ⟨by omega, by omega⟩ ⟨_, rfl, hH59, hF59, by omega, by omega, (by omega), (by omega)⟩
 refine jy_ic c1 hm rfl (by decide) ?_
 exact jx_retz c2 hm rfl rfl ⟨by omega, by omega⟩ ⟨_, rfl, hH15, hF15, by omega, by omega, (by omega), (by omega)⟩
def md_X12_readMinds_173 : List (Nat × (Nat × Nat)) := [(173, (5, 5)), (173, (6, 6)), (173, (7, 7)), (173, (8, 8)), (173, (9, 9)), (173, (10, 10)), (173, (11, 11)), (173, (13, 13)), (176, (3, 100))]
theorem ct_X12_readMinds_173 (X : Int) (hX : 0 ≤ X ∧ X ≤ 100000000) (M0 : JM) (hH0 : HI X M0)  : JOk shp PJ 5 163 [.inr (.inr (.inl 173))] M0 (jRi (fun v M' => HI X M' ∧ Fr md_X12_readMinds_173 M0 M' ∧ 0 ≤ v ∧ v ≤ 1 ∧ (M0.1 173 5 ≤ M'.1 173 5) ∧ (v = 1 → M0.1 173 5 < M'.1 173 5))) := by
 refine ⟨jr_X12_readMinds, pj_X12_readMinds, fun F c1 c2 c3 => ?_⟩
 have hm := pj_X12_readMinds
 change F 0 [some (.inr (.inr (.inl 173))), none] [] M0
 have hF0 : Fr md_X12_readMinds_173 M0 M0 := Fr.rf _ _
 obtain ⟨z1, k2, lz1, uz1⟩ := hH0.ld (c := 173) (i := 5) (A := 0) (B := 940) (bs_28_3 _ _ (by omega) (by omega))
 refine jx_load c1 hm rfl rfl rfl rfl ?_
 refine jv_v c3 hm rfl pj_X12_go rfl rfl ⟨_, _, _, rfl, sh_173⟩ rfl ((ct_X12_go_173 X (by omega) M0 hH0 ).le (by decide)) (fun M5 ⟨hH5, hR5, p3, p4⟩ => ?_)
 have hF5 := hF0.tr hR5 (by decide +kernel)
 obtain ⟨z6, k7, lz6, uz6⟩ := hH5.ld (c := 173) (i := 5) (A := 0) (B := 940) (bs_28_3 _ _ (by omega) (by omega))
 obtain ⟨z8, k9, lz8, uz8⟩ := hH5.ld (c := 173) (i := 7) (A := 0) (B := 4) (bs_28_4 _ _ (by omega) (by omega))
 refine jx_load c1 hm rfl rfl rfl rfl ?_
 refine jy_ic c1 hm rfl (by decide) ?_
 refine jx_load c1 hm rfl rfl rfl rfl ?_
 refine jx_getr c1 hm rfl sh_173 rfl ?_
 refine jy_ic c1 hm rfl (by decide) ?_
 obtain ⟨z10, k11, lz10, uz10⟩ := hH5.ld (c := 176) (i := 0) (A := 0) (B := 6) (bs_12_0 _ _ (by omega) (by omega))
 refine jx_iald c1 hm rfl sh_176 ⟨by omega, by omega⟩ k11 ?_
 refine jv_i c3 hm rfl pj_X12_isOne rfl rfl ⟨_, _, _, rfl, sh_173⟩ rfl ((ct_X12_isOne_173 X (by omega) M5 hH5 0 ⟨by omega, by omega⟩ z10 ⟨by omega, by omega⟩).le (by decide)) (fun z12 M15 ⟨hH15, hR15, lz12, uz12, p13, p14⟩ => ?_)
 have hF15 := hF5.tr hR15 (by decide +kernel)
 obtain ⟨z16, k17, lz16, uz16⟩ := hH15.ld (c := 173) (i := 13) (A := (-2147483648)) (B := 2147483647) (bs_28_7 _ _ (by omega) (by omega))
 refine jz_ne c1 hm 20 rfl rfl (fun h18 => ?_) (fun h18 => ?_)
 ·
  refine jy_bp c1 hm rfl (by decide) ?_
  refine jy_bp c1 hm rfl (by decide) ?_
  refine jx_load c1 hm rfl rfl rfl rfl ?_
  refine jx_geti c1 hm rfl sh_173 rfl k17 ?_
  refine jy_mul c1 hm (6 * z16) rfl (by omega) ?_
  refine jy_add c1 hm (6 * z16 + 17) rfl (by omega) ?_
  refine jx_stor c1 hm (L' := [some (.inr (.inr (.inl 173))), some (.inl (6 * z16 + 17))]) rfl rfl rfl rfl rfl ?_
  refine jx_load c1 hm rfl rfl rfl rfl ?_
  have k19 : M15.1 173 5 = z6 := (hR15 173 5 (by decide +kernel)).trans k7
  refine jv_v c3 hm rfl pj_X12_go rfl rfl ⟨_, _, _, rfl, sh_173⟩ rfl ((ct_X12_go_173 X (by omega) M15 hH15 ).le (by decide)) (fun M22 ⟨hH22, hR22, p20, p21⟩ => ?_)
  have hF22 := hF15.tr hR22 (by decide +kernel)
  obtain ⟨z23, k24, lz23, uz23⟩ := hH22.ld (c := 173) (i := 5) (A := 0) (B := 940) (bs_28_3 _ _ (by omega) (by omega))
  obtain ⟨z25, k26, lz25, uz25⟩ := hH22.ld (c := 173) (i := 7) (A := 0) (B := 4) (bs_28_4 _ _ (by omega) (by omega))
  refine jx_load c1 hm rfl rfl rfl rfl ?_
  refine jy_bp c1 hm rfl (by decide) ?_
  refine jx_load c1 hm rfl rfl rfl rfl ?_
  refine jx_getr c1 hm rfl sh_173 rfl ?_
  refine jy_ic c1 hm rfl (by decide) ?_
  obtain ⟨z27, k28, lz27, uz27⟩ := hH22.ld (c := 176) (i := 1) (A := 0) (B := 6) (bs_12_0 _ _ (by omega) (by omega))
  refine jx_iald c1 hm rfl sh_176 ⟨by omega, by omega⟩ k28 ?_
  refine jv_i c3 hm rfl pj_X12_isOne rfl rfl ⟨_, _, _, rfl, sh_173⟩ rfl ((ct_X12_isOne_173 X (by omega) M22 hH22 6 ⟨by omega, by omega⟩ z27 ⟨by omega, by omega⟩).le (by decide)) (fun z29 M32 ⟨hH32, hR32, lz29, uz29, p30, p31⟩ => ?_)
  have hF32 := hF22.tr hR32 (by decide +kernel)
  obtain ⟨z33, k34, lz33, uz33⟩ := hH32.ld (c := 173) (i := 13) (A := (-2147483648)) (B := 2147483647) (bs_28_7 _ _ (by omega) (by omega))
  refine jz_ne c1 hm 52 rfl rfl (fun h35 => ?_) (fun h35 => ?_)
  ·
   refine jx_load c1 hm rfl rfl rfl rfl ?_
   refine jx_load c1 hm rfl rfl rfl rfl ?_
   refine jx_geti c1 hm rfl sh_173 rfl k34 ?_
   refine jy_add c1 hm (6 * z16 + z33 + 17) rfl (by omega) ?_
   refine jx_stor c1 hm (L' := [some (.inr (.inr (.inl 173))), some (.inl (6 * z16 + z33 + 17))]) rfl rfl rfl rfl rfl ?_
   refine jx_load c1 hm rfl rfl rfl rfl ?_
   refine jx_getr c1 hm rfl sh_173 rfl ?_
   refine jx_load c1 hm rfl rfl rfl rfl ?_
   obtain ⟨z36, k37, lz36, uz36⟩ := hH32.ld (c := 176) (i := ((6 * z16 + z33 + 17)).toNat) (A := (-1)) (B := 20) (bs_12_4 _ _ (by omega) (by omega))
   refine jx_iald c1 hm rfl sh_176 ⟨by omega, by omega⟩ k37 ?_
   refine jy_ic c1 hm rfl (by decide) ?_
   refine jc_eq c1 hm 75 rfl rfl (fun h38 => ?_) (fun h38 => ?_)
   ·
    refine jx_load c1 hm rfl rfl rfl rfl ?_
    have k39 : M32.1 173 5 = z23 := (hR32 173 5 (by decide +kernel)).trans k24
    refine jv_v c3 hm rfl pj_X12_go rfl rfl ⟨_, _, _, rfl, sh_173⟩ rfl ((ct_X12_go_173 X (by omega) M32 hH32 ).le (by decide)) (fun M42 ⟨hH42, hR42, p40, p41⟩ => ?_)
    have hF42 := hF32.tr hR42 (by decide +kernel)
    obtain ⟨z43, k44, lz43, uz43⟩ := hH42.ld (c := 173) (i := 5) (A := 0) (B := 940) (bs_28_3 _ _ (by omega) (by omega))
    obtain ⟨z45, k46, lz45, uz45⟩ := hH42.ld (c := 173) (i := 7) (A := 0) (B := 4) (bs_28_4 _ _ (by omega) (by omega))
    refine jx_load c1 hm rfl rfl rfl rfl ?_
    refine jx_load c1 hm rfl rfl rfl rfl ?_
    refine jx_load c1 hm rfl rfl rfl rfl ?_
    refine jy_ic c1 hm rfl (by decide) ?_
    refine jy_bp c1 hm rfl (by decide) ?_
    refine jv_i c3 hm rfl pj_X12_readNumber rfl rfl ⟨_, _, _, rfl, sh_173⟩ rfl ((ct_X12_readNumber_173 X (by omega) M42 hH42 0 ⟨by omega, by omega⟩ 20 ⟨by omega, by omega⟩).le (by decide)) (fun z47 M51 ⟨hH51, hR51, lz47, uz47, p48, p49, p50⟩ => ?_)
    have hF51 := hF42.tr hR51 (by decide +kernel)
    obtain ⟨z52, k53, lz52, uz52⟩ := hH51.ld (c := 173) (i := 5) (A := 0) (B := 940) (bs_28_3 _ _ (by omega) (by omega))
    obtain ⟨z54, k55, lz54, uz54⟩ := hH51.ld (c := 173) (i := 13) (A := (-2147483648)) (B := 2147483647) (bs_28_7 _ _ (by omega) (by omega))
    refine jv_i c3 hm rfl pj_X12_put rfl rfl ⟨_, _, _, rfl, sh_173⟩ rfl ((ct_X12_put_173 X (by omega) M51 hH51 (6 * z16 + z33 + 17) ⟨by omega, by omega⟩ z47 ⟨by omega, by omega⟩ (by rw [show bnd X 176 ((6 * z16 + z33 + 17) : Int).toNat = ((-1), 20) from (bs_12_4 _ _ (by omega) (by omega))]; dsimp only; omega)).le (by decide)) (fun z56 M58 ⟨hH58, hR58, lz56, uz56, p57⟩ => ?_)
    have hF58 := hF51.tr hR58 (by decide +kernel)
    have k59 : M58.1 173 5 = z52 := (hR58 173 5 (by decide +kernel)).trans k53
    exact jx_retz c2 hm rfl rfl ⟨by omega, by omega⟩ ⟨_, rfl, hH58, hF58, by omega, by omega, (by omega), (by omega)⟩
   refine jx_load c1 hm rfl rfl rfl rfl ?_
   refine jy_ic c1 hm rfl (by decide) ?_
   refine jv_i c3 hm rfl pj_X12_bad rfl rfl ⟨_, _, _, rfl, sh_173⟩ rfl ((ct_X12_bad_173 X (by omega) M32 hH32 3 ⟨by omega, by omega⟩).le (by decide)) (fun z60 M62 ⟨hH62, hR62, lz60, uz60, p61⟩ => ?_)
   have hF62 := hF32.tr hR62 (by decide +kernel)
   have k63 : M62.1 173 5 = z23 := (hR62 173 5 (by decide +kernel)).trans ((hR32 173 5 (by decide +kernel)).trans k24)
   exact jx_retz c2 hm rfl rfl ⟨by omega, by omega⟩ ⟨_, rfl, hH62, hF62, by omega, by omega, (by omega), (by omega)⟩
  refine jy_ic c1 hm rfl (by decide) ?_
  have k64 : M32.1 173 5 = z23 := (hR32 173 5 (by decide +kernel)).trans k24
  exact jx_retz c2 hm rfl rfl ⟨by omega, by omega⟩ ⟨_, rfl, hH32, hF32, by omega, by omega, (by omega), (by omega)⟩
 refine jy_ic c1 hm rfl (by decide) ?_
 have k65 : M15.1 173 5 = z6 := (hR15 173 5 (by decide +kernel)).trans k7
 exact jx_retz c2 hm rfl rfl ⟨by omega, by omega⟩ ⟨_, rfl, hH15, hF15, by omega, by omega, (by omega), (by omega)⟩
def md_X12_readForfeit_173 : List (Nat × (Nat × Nat)) := [(173, (5, 5)), (173, (6, 6)), (173, (7, 7)), (173, (8, 8)), (173, (9, 9)), (173, (10, 10)), (173, (11, 11)), (173, (13, 13)), (176, (1, 1)), (176, (3, 100))]
theorem ct_X12_readForfeit_173 (X : Int) (hX : 0 ≤ X ∧ X ≤ 100000000) (M0 : JM) (hH0 : HI X M0)  : JOk shp PJ 5 159 [.inr (.inr (.inl 173))] M0 (jRi (fun v M' => HI X M' ∧ Fr md_X12_readForfeit_173 M0 M' ∧ 0 ≤ v ∧ v ≤ 1 ∧ (M0.1 173 5 ≤ M'.1 173 5) ∧ (v = 1 → M0.1 173 5 < M'.1 173 5))) := by
 refine ⟨jr_X12_readForfeit, pj_X12_readForfeit, fun F c1 c2 c3 => ?_⟩
 have hm := pj_X12_readForfeit
 change F 0 [some (.inr (.inr (.inl 173))), none] [] M0
 have hF0 : Fr md_X12_readForfeit_173 M0 M0 := Fr.rf _ _
 obtain ⟨z1, k2, lz1, uz1⟩ := hH0.ld (c := 173) (i := 5) (A := 0) (B := 940) (bs_28_3 _ _ (by omega) (by omega))
 refine jx_load c1 hm rfl rfl rfl rfl ?_
 refine jy_ic c1 hm rfl (by decide) ?_
 refine jy_bp c1 hm rfl (by decide) ?_
 obtain ⟨z3, k4, lz3, uz3⟩ := hH0.ld (c := 176) (i := 2) (A := 0) (B := 6) (bs_12_0 _ _ (by omega) (by omega))
 obtain ⟨z5, k6, lz5, uz5⟩ := hH0.ld (c := 176) (i := 0) (A := 0) (B := 6) (bs_12_0 _ _ (by omega) (by omega))
 obtain ⟨z7, k8, lz7, uz7⟩ := hH0.ld (c := 176) (i := 1) (A := 0) (B := 6) (bs_12_0 _ _ (by omega) (by omega))
 refine jv_i c3 hm rfl pj_X12_readFirst rfl rfl ⟨_, _, _, rfl, sh_173⟩ rfl ((ct_X12_readFirst_173 X (by omega) M0 hH0 1 ⟨by omega, by omega⟩ 6 ⟨by omega, by omega⟩).le (by decide)) (fun z9 M15 ⟨hH15, hR15, lz9, uz9, p10, p11, p12, p13, p14⟩ => ?_)
 have hF15 := hF0.tr hR15 (by decide +kernel)
 obtain ⟨z16, k17, lz16, uz16⟩ := hH15.ld (c := 173) (i := 5) (A := 0) (B := 940) (bs_28_3 _ _ (by omega) (by omega))
 obtain ⟨z18, k19, lz18, uz18⟩ := hH15.ld (c := 173) (i := 7) (A := 0) (B := 4) (bs_28_4 _ _ (by omega) (by omega))
 refine jz_ne c1 hm 12 rfl rfl (fun h20 => ?_) (fun h20 => ?_)
 ·
  refine jx_load c1 hm rfl rfl rfl rfl ?_
  refine jx_getr c1 hm rfl sh_173 rfl ?_
  refine jy_ic c1 hm rfl (by decide) ?_
  have k21 : M15.1 176 1 = z7 := (hR15 176 1 (by decide +kernel)).trans k8
  refine jx_iald c1 hm rfl sh_176 ⟨by omega, by omega⟩ k21 ?_
  refine jx_stor c1 hm (L' := [some (.inr (.inr (.inl 173))), some (.inl z7)]) rfl rfl rfl rfl rfl ?_
  refine jx_load c1 hm rfl rfl rfl rfl ?_
  refine jy_bp c1 hm rfl (by decide) ?_
  refine jx_load c1 hm rfl rfl rfl rfl ?_
  refine jy_add c1 hm (z7 + 6) rfl (by omega) ?_
  refine jv_i c3 hm rfl pj_X12_readNew rfl rfl ⟨_, _, _, rfl, sh_173⟩ rfl ((ct_X12_readNew_173 X (by omega) M15 hH15 (z7 + 6) ⟨by omega, by omega⟩).le (by decide)) (fun z22 M25 ⟨hH25, hR25, lz22, uz22, p23, p24⟩ => ?_)
  have hF25 := hF15.tr hR25 (by decide +kernel)
  obtain ⟨z26, k27, lz26, uz26⟩ := hH25.ld (c := 173) (i := 5) (A := 0) (B := 940) (bs_28_3 _ _ (by omega) (by omega))
  refine jz_eq c1 hm 48 rfl rfl (fun h28 => ?_) (fun h28 => ?_)
  ·
   refine jy_ic c1 hm rfl (by decide) ?_
   exact jx_retz c2 hm rfl rfl ⟨by omega, by omega⟩ ⟨_, rfl, hH25, hF25, by omega, by omega, (by omega), (by omega)⟩
  refine jx_load c1 hm rfl rfl rfl rfl ?_
  refine jy_bp c1 hm rfl (by decide) ?_
  refine jx_load c1 hm rfl rfl rfl rfl ?_
  refine jy_add c1 hm (z7 + 11) rfl (by omega) ?_
  refine jx_load c1 hm rfl rfl rfl rfl ?_
  refine jy_ic c1 hm rfl (by decide) ?_
  refine jy_bp c1 hm rfl (by decide) ?_
  obtain ⟨z29, k30, lz29, uz29⟩ := hH25.ld (c := 173) (i := 7) (A := 0) (B := 4) (bs_28_4 _ _ (by omega) (by omega))
  refine jv_i c3 hm rfl pj_X12_readNumber rfl rfl ⟨_, _, _, rfl, sh_173⟩ rfl ((ct_X12_readNumber_173 X (by omega) M25 hH25 0 ⟨by omega, by omega⟩ 20 ⟨by omega, by omega⟩).le (by decide)) (fun z31 M35 ⟨hH35, hR35, lz31, uz31, p32, p33, p34⟩ => ?_)
  have hF35 := hF25.tr hR35 (by decide +kernel)
  obtain ⟨z36, k37, lz36, uz36⟩ := hH35.ld (c := 173) (i := 5) (A := 0) (B := 940) (bs_28_3 _ _ (by omega) (by omega))
  obtain ⟨z38, k39, lz38, uz38⟩ := hH35.ld (c := 173) (i := 13) (A := (-2147483648)) (B := 2147483647) (bs_28_7 _ _ (by omega) (by omega))
  refine jv_i c3 hm rfl pj_X12_put rfl rfl ⟨_, _, _, rfl, sh_173⟩ rfl ((ct_X12_put_173 X (by omega) M35 hH35 (z7 + 11) ⟨by omega, by omega⟩ z31 ⟨by omega, by omega⟩ (by rw [show bnd X 176 ((z7 + 11) : Int).toNat = (0, 20) from (bs_12_3 _ _ (by omega) (by omega))]; dsimp only; omega)).le (by decide)) (fun z40 M42 ⟨hH42, hR42, lz40, uz40, p41⟩ => ?_)
  have hF42 := hF35.tr hR42 (by decide +kernel)
  refine jz_ne c1 hm 50 rfl rfl (fun h43 => ?_) (fun h43 => ?_)
  ·
   refine jx_load c1 hm rfl rfl rfl rfl ?_
   refine jx_getr c1 hm rfl sh_173 rfl ?_
   refine jy_ic c1 hm rfl (by decide) ?_
   refine jx_dup2 c1 hm rfl rfl rfl ?_
   have k44 : M42.1 176 1 = z7 := (hR42 176 1 (by decide +kernel)).trans ((hR35 176 1 (by decide +kernel)).trans ((hR25 176 1 (by decide +kernel)).trans k21))
   refine jx_iald c1 hm rfl sh_176 ⟨by omega, by omega⟩ k44 ?_
   refine jy_ic c1 hm rfl (by decide) ?_
   refine jy_add c1 hm (z7 + 1) rfl (by omega) ?_
   obtain ⟨M45, e45, hH45, hF45, k45, n45, q45⟩ := mup hH42 hF42 (c := 176) (i := 1) (v := (z7 + 1)) (A := 0) (B := 6) (bs_12_0 _ _ (by omega) (by omega)) ⟨by omega, by omega⟩ (jin_of 8 rfl ⟨by omega, by omega⟩)
   refine jm_iast c1 hm rfl sh_176 ⟨by omega, by omega⟩ e45 ?_
   refine jy_ic c1 hm rfl (by decide) ?_
   have k46 : M45.1 173 5 = z36 := (n45 173 5 (fun h => absurd h.1 (by decide))).trans ((hR42 173 5 (by decide +kernel)).trans k37)
   exact jx_retz c2 hm rfl rfl ⟨by omega, by omega⟩ ⟨_, rfl, hH45, hF45, by omega, by omega, (by omega), (by omega)⟩
  refine jy_ic c1 hm rfl (by decide) ?_
  have k47 : M42.1 173 5 = z36 := (hR42 173 5 (by decide +kernel)).trans k37
  exact jx_retz c2 hm rfl rfl ⟨by omega, by omega⟩ ⟨_, rfl, hH42, hF42, by omega, by omega, (by omega), (by omega)⟩
 refine jy_ic c1 hm rfl (by decide) ?_
 exact jx_retz c2 hm rfl rfl ⟨by omega, by omega⟩ ⟨_, rfl, hH15, hF15, by omega, by omega, (by omega), (by omega)⟩
def md_X12_readMan_173 : List (Nat × (Nat × Nat)) := [(173, (5, 5)), (173, (6, 6)), (173, (7, 7)), (173, (8, 8)), (173, (9, 9)), (173, (10, 10)), (173, (11, 11)), (173, (13, 13)), (176, (0, 0)), (176, (3, 100))]
theorem ct_X12_readMan_173 (X : Int) (hX : 0 ≤ X ∧ X ≤ 100000000) (M0 : JM) (hH0 : HI X M0)  : JOk shp PJ 5 162 [.inr (.inr (.inl 173))] M0 (jRi (fun v M' => HI X M' ∧ Fr md_X12_readMan_173 M0 M' ∧ 0 ≤ v ∧ v ≤ 1 ∧ (M0.1 173 5 ≤ M'.1 173 5) ∧ (v = 1 → M0.1 173 5 < M'.1 173 5))) := by
 refine ⟨jr_X12_readMan, pj_X12_readMan, fun F c1 c2 c3 => ?_⟩
 have hm := pj_X12_readMan
 change F 0 [some (.inr (.inr (.inl 173))), none] [] M0
 have hF0 : Fr md_X12_readMan_173 M0 M0 := Fr.rf _ _
 obtain ⟨z1, k2, lz1, uz1⟩ := hH0.ld (c := 173) (i := 5) (A := 0) (B := 940) (bs_28_3 _ _ (by omega) (by omega))
 refine jx_load c1 hm rfl rfl rfl rfl ?_
 refine jy_ic c1 hm rfl (by decide) ?_
 refine jy_bp c1 hm rfl (by decide) ?_
 obtain ⟨z3, k4, lz3, uz3⟩ := hH0.ld (c := 176) (i := 2) (A := 0) (B := 6) (bs_12_0 _ _ (by omega) (by omega))
 obtain ⟨z5, k6, lz5, uz5⟩ := hH0.ld (c := 176) (i := 0) (A := 0) (B := 6) (bs_12_0 _ _ (by omega) (by omega))
 obtain ⟨z7, k8, lz7, uz7⟩ := hH0.ld (c := 176) (i := 1) (A := 0) (B := 6) (bs_12_0 _ _ (by omega) (by omega))
 refine jv_i c3 hm rfl pj_X12_readFirst rfl rfl ⟨_, _, _, rfl, sh_173⟩ rfl ((ct_X12_readFirst_173 X (by omega) M0 hH0 0 ⟨by omega, by omega⟩ 6 ⟨by omega, by omega⟩).le (by decide)) (fun z9 M15 ⟨hH15, hR15, lz9, uz9, p10, p11, p12, p13, p14⟩ => ?_)
 have hF15 := hF0.tr hR15 (by decide +kernel)
 obtain ⟨z16, k17, lz16, uz16⟩ := hH15.ld (c := 173) (i := 5) (A := 0) (B := 940) (bs_28_3 _ _ (by omega) (by omega))
 obtain ⟨z18, k19, lz18, uz18⟩ := hH15.ld (c := 173) (i := 7) (A := 0) (B := 4) (bs_28_4 _ _ (by omega) (by omega))
 refine jz_ne c1 hm 12 rfl rfl (fun h20 => ?_) (fun h20 => ?_)
 ·
  refine jx_load c1 hm rfl rfl rfl rfl ?_
  refine jx_getr c1 hm rfl sh_173 rfl ?_
  refine jy_ic c1 hm rfl (by decide) ?_
  have k21 : M15.1 176 0 = z5 := (hR15 176 0 (by decide +kernel)).trans k6
  refine jx_iald c1 hm rfl sh_176 ⟨by omega, by omega⟩ k21 ?_
  refine jx_stor c1 hm (L' := [some (.inr (.inr (.inl 173))), some (.inl z5)]) rfl rfl rfl rfl rfl ?_
  refine jx_load c1 hm rfl rfl rfl rfl ?_
  refine jx_load c1 hm rfl rfl rfl rfl ?_
  refine jv_i c3 hm rfl pj_X12_readNew rfl rfl ⟨_, _, _, rfl, sh_173⟩ rfl ((ct_X12_readNew_173 X (by omega) M15 hH15 z5 ⟨by omega, by omega⟩).le (by decide)) (fun z22 M25 ⟨hH25, hR25, lz22, uz22, p23, p24⟩ => ?_)
  have hF25 := hF15.tr hR25 (by decide +kernel)
  obtain ⟨z26, k27, lz26, uz26⟩ := hH25.ld (c := 173) (i := 5) (A := 0) (B := 940) (bs_28_3 _ _ (by omega) (by omega))
  refine jz_eq c1 hm 44 rfl rfl (fun h28 => ?_) (fun h28 => ?_)
  ·
   refine jy_ic c1 hm rfl (by decide) ?_
   exact jx_retz c2 hm rfl rfl ⟨by omega, by omega⟩ ⟨_, rfl, hH25, hF25, by omega, by omega, (by omega), (by omega)⟩
  refine jx_load c1 hm rfl rfl rfl rfl ?_
  refine jy_ic c1 hm rfl (by decide) ?_
  refine jx_load c1 hm rfl rfl rfl rfl ?_
  refine jy_add c1 hm (z5 + 5) rfl (by omega) ?_
  refine jx_load c1 hm rfl rfl rfl rfl ?_
  refine jy_ic c1 hm rfl (by decide) ?_
  refine jy_bp c1 hm rfl (by decide) ?_
  obtain ⟨z29, k30, lz29, uz29⟩ := hH25.ld (c := 173) (i := 7) (A := 0) (B := 4) (bs_28_4 _ _ (by omega) (by omega))
  refine jv_i c3 hm rfl pj_X12_readNumber rfl rfl ⟨_, _, _, rfl, sh_173⟩ rfl ((ct_X12_readNumber_173 X (by omega) M25 hH25 0 ⟨by omega, by omega⟩ 99 ⟨by omega, by omega⟩).le (by decide)) (fun z31 M35 ⟨hH35, hR35, lz31, uz31, p32, p33, p34⟩ => ?_)
  have hF35 := hF25.tr hR35 (by decide +kernel)
  obtain ⟨z36, k37, lz36, uz36⟩ := hH35.ld (c := 173) (i := 5) (A := 0) (B := 940) (bs_28_3 _ _ (by omega) (by omega))
  obtain ⟨z38, k39, lz38, uz38⟩ := hH35.ld (c := 173) (i := 13) (A := (-2147483648)) (B := 2147483647) (bs_28_7 _ _ (by omega) (by omega))
  refine jv_i c3 hm rfl pj_X12_put rfl rfl ⟨_, _, _, rfl, sh_173⟩ rfl ((ct_X12_put_173 X (by omega) M35 hH35 (z5 + 5) ⟨by omega, by omega⟩ z31 ⟨by omega, by omega⟩ (by rw [show bnd X 176 ((z5 + 5) : Int).toNat = (0, 99) from (bs_12_2 _ _ (by omega) (by omega))]; dsimp only; omega)).le (by decide)) (fun z40 M42 ⟨hH42, hR42, lz40, uz40, p41⟩ => ?_)
  have hF42 := hF35.tr hR42 (by decide +kernel)
  refine jz_ne c1 hm 46 rfl rfl (fun h43 => ?_) (fun h43 => ?_)
  ·
   refine jx_load c1 hm rfl rfl rfl rfl ?_
   refine jx_getr c1 hm rfl sh_173 rfl ?_
   refine jy_ic c1 hm rfl (by decide) ?_
   refine jx_dup2 c1 hm rfl rfl rfl ?_
   have k44 : M42.1 176 0 = z5 := (hR42 176 0 (by decide +kernel)).trans ((hR35 176 0 (by decide +kernel)).trans ((hR25 176 0 (by decide +kernel)).trans k21))
   refine jx_iald c1 hm rfl sh_176 ⟨by omega, by omega⟩ k44 ?_
   refine jy_ic c1 hm rfl (by decide) ?_
   refine jy_add c1 hm (z5 + 1) rfl (by omega) ?_
   obtain ⟨M45, e45, hH45, hF45, k45, n45, q45⟩ := mup hH42 hF42 (c := 176) (i := 0) (v := (z5 + 1)) (A := 0) (B := 6) (bs_12_0 _ _ (by omega) (by omega)) ⟨by omega, by omega⟩ (jin_of 8 rfl ⟨by omega, by omega⟩)
   refine jm_iast c1 hm rfl sh_176 ⟨by omega, by omega⟩ e45 ?_
   refine jy_ic c1 hm rfl (by decide) ?_
   have k46 : M45.1 173 5 = z36 := (n45 173 5 (fun h => absurd h.1 (by decide))).trans ((hR42 173 5 (by decide +kernel)).trans k37)
   exact jx_retz c2 hm rfl rfl ⟨by omega, by omega⟩ ⟨_, rfl, hH45, hF45, by omega, by omega, (by omega), (by omega)⟩
  refine jy_ic c1 hm rfl (by decide) ?_
  have k47 : M42.1 173 5 = z36 := (hR42 173 5 (by decide +kernel)).trans k37
  exact jx_retz c2 hm rfl rfl ⟨by omega, by omega⟩ ⟨_, rfl, hH42, hF42, by omega, by omega, (by omega), (by omega)⟩
 refine jy_ic c1 hm rfl (by decide) ?_
 exact jx_retz c2 hm rfl rfl ⟨by omega, by omega⟩ ⟨_, rfl, hH15, hF15, by omega, by omega, (by omega), (by omega)⟩
def md_X12_readLine_173 : List (Nat × (Nat × Nat)) := [(173, (5, 5)), (173, (6, 6)), (173, (7, 7)), (173, (8, 8)), (173, (9, 9)), (173, (10, 10)), (173, (11, 11)), (173, (13, 13)), (173, (24, 24)), (173, (25, 25)), (176, (0, 0)), (176, (1, 1)), (176, (2, 2)), (176, (3, 100))]
theorem ct_X12_readLine_173 (X : Int) (hX : 0 ≤ X ∧ X ≤ 100000000) (M0 : JM) (hH0 : HI X M0)  : JOk shp PJ 6 161 [.inr (.inr (.inl 173))] M0 (jRi (fun v M' => HI X M' ∧ Fr md_X12_readLine_173 M0 M' ∧ 0 ≤ v ∧ v ≤ 1 ∧ (M0.1 173 5 ≤ M'.1 173 5) ∧ (v = 1 → M0.1 173 5 < M'.1 173 5))) := by
 refine ⟨jr_X12_readLine, pj_X12_readLine, fun F c1 c2 c3 => ?_⟩
 have hm := pj_X12_readLine
 change F 0 [some (.inr (.inr (.inl 173)))] [] M0
 have hF0 : Fr md_X12_readLine_173 M0 M0 := Fr.rf _ _
 obtain ⟨z1, k2, lz1, uz1⟩ := hH0.ld (c := 173) (i := 5) (A := 0) (B := 940) (bs_28_3 _ _ (by omega) (by omega))
 refine jx_load c1 hm rfl rfl rfl rfl ?_
 refine jy_ic c1 hm rfl (by decide) ?_
 obtain ⟨z3, k4, lz3, uz3⟩ := hH0.ld (c := 173) (i := 7) (A := 0) (B := 4) (bs_28_4 _ _ (by omega) (by omega))
 refine jv_i c3 hm rfl pj_X12_isWord rfl rfl ⟨_, _, _, rfl, sh_173⟩ rfl ((ct_X12_isWord_173 X (by omega) M0 hH0 0 ⟨by omega, by omega⟩).le (by decide)) (fun z5 _ ⟨rfl, lz5, uz5, p6⟩ => ?_)
 refine jz_eq c1 hm 13 rfl rfl (fun h7 => ?_) (fun h7 => ?_)
 ·
  refine jx_load c1 hm rfl rfl rfl rfl ?_
  refine jy_ic c1 hm rfl (by decide) ?_
  refine jv_i c3 hm rfl pj_X12_isWord rfl rfl ⟨_, _, _, rfl, sh_173⟩ rfl ((ct_X12_isWord_173 X (by omega) M0 hH0 1 ⟨by omega, by omega⟩).le (by decide)) (fun z8 _ ⟨rfl, lz8, uz8, p9⟩ => ?_)
  refine jz_eq c1 hm 26 rfl rfl (fun h10 => ?_) (fun h10 => ?_)
  ·
   refine jx_load c1 hm rfl rfl rfl rfl ?_
   refine jy_ic c1 hm rfl (by decide) ?_
   refine jv_i c3 hm rfl pj_X12_isWord rfl rfl ⟨_, _, _, rfl, sh_173⟩ rfl ((ct_X12_isWord_173 X (by omega) M0 hH0 2 ⟨by omega, by omega⟩).le (by decide)) (fun z11 _ ⟨rfl, lz11, uz11, p12⟩ => ?_)
   refine jz_eq c1 hm 39 rfl rfl (fun h13 => ?_) (fun h13 => ?_)
   ·
    refine jx_load c1 hm rfl rfl rfl rfl ?_
    refine jy_ic c1 hm rfl (by decide) ?_
    refine jv_i c3 hm rfl pj_X12_isWord rfl rfl ⟨_, _, _, rfl, sh_173⟩ rfl ((ct_X12_isWord_173 X (by omega) M0 hH0 3 ⟨by omega, by omega⟩).le (by decide)) (fun z14 _ ⟨rfl, lz14, uz14, p15⟩ => ?_)
    refine jz_eq c1 hm 52 rfl rfl (fun h16 => ?_) (fun h16 => ?_)
    ·
     refine jx_load c1 hm rfl rfl rfl rfl ?_
     refine jy_ic c1 hm rfl (by decide) ?_
     refine jv_i c3 hm rfl pj_X12_isWord rfl rfl ⟨_, _, _, rfl, sh_173⟩ rfl ((ct_X12_isWord_173 X (by omega) M0 hH0 4 ⟨by omega, by omega⟩).le (by decide)) (fun z17 _ ⟨rfl, lz17, uz17, p18⟩ => ?_)
     refine jz_eq c1 hm 65 rfl rfl (fun h19 => ?_) (fun h19 => ?_)
     ·
      refine jx_load c1 hm rfl rfl rfl rfl ?_
      refine jy_ic c1 hm rfl (by decide) ?_
      refine jv_i c3 hm rfl pj_X12_isWord rfl rfl ⟨_, _, _, rfl, sh_173⟩ rfl ((ct_X12_isWord_173 X (by omega) M0 hH0 5 ⟨by omega, by omega⟩).le (by decide)) (fun z20 _ ⟨rfl, lz20, uz20, p21⟩ => ?_)
      refine jz_eq c1 hm 108 rfl rfl (fun h22 => ?_) (fun h22 => ?_)
      ·
       refine jx_load c1 hm rfl rfl rfl rfl ?_
       refine jy_bp c1 hm rfl (by decide) ?_
       refine jv_i c3 hm rfl pj_X12_isWord rfl rfl ⟨_, _, _, rfl, sh_173⟩ rfl ((ct_X12_isWord_173 X (by omega) M0 hH0 6 ⟨by omega, by omega⟩).le (by decide)) (fun z23 _ ⟨rfl, lz23, uz23, p24⟩ => ?_)
       refine jz_ne c1 hm 123 rfl rfl (fun h25 => ?_) (fun h25 => ?_)
       ·
        refine jx_load c1 hm rfl rfl rfl rfl ?_
        obtain ⟨z26, k27, lz26, uz26⟩ := hH0.ld (c := 173) (i := 25) (A := 0) (B := 1) (bs_28_9 _ _ (by omega) (by omega))
        refine jx_getz c1 hm rfl sh_173 rfl k27 ?_
        refine jz_eq c1 hm 136 rfl rfl (fun h28 => ?_) (fun h28 => ?_)
        ·
         refine jx_load c1 hm rfl rfl rfl rfl ?_
         refine jy_ic c1 hm rfl (by decide) ?_
         obtain ⟨M29, e29, hH29, hF29, k29, n29, q29⟩ := mup hH0 hF0 (c := 173) (i := 25) (v := 1) (A := 0) (B := 1) (bs_28_9 _ _ (by omega) (by omega)) ⟨by omega, by omega⟩ (jin_of 9 rfl ⟨by omega, by omega⟩)
         refine jm_putz c1 hm rfl sh_173 rfl ⟨by omega, by omega⟩ e29 ?_
         refine jx_load c1 hm rfl rfl rfl rfl ?_
         have k30 : M29.1 173 5 = z1 := (n29 173 5 (by decide)).trans k2
         refine jv_v c3 hm rfl pj_X12_go rfl rfl ⟨_, _, _, rfl, sh_173⟩ rfl ((ct_X12_go_173 X (by omega) M29 hH29 ).le (by decide)) (fun M33 ⟨hH33, hR33, p31, p32⟩ => ?_)
         have hF33 := hF29.tr hR33 (by decide +kernel)
         obtain ⟨z34, k35, lz34, uz34⟩ := hH33.ld (c := 173) (i := 5) (A := 0) (B := 940) (bs_28_3 _ _ (by omega) (by omega))
         obtain ⟨z36, k37, lz36, uz36⟩ := hH33.ld (c := 173) (i := 7) (A := 0) (B := 4) (bs_28_4 _ _ (by omega) (by omega))
         refine jx_load c1 hm rfl rfl rfl rfl ?_
         refine jy_ic c1 hm rfl (by decide) ?_
         refine jx_load c1 hm rfl rfl rfl rfl ?_
         refine jy_ic c1 hm rfl (by decide) ?_
         refine jy_bp c1 hm rfl (by decide) ?_
         refine jv_i c3 hm rfl pj_X12_readNumber rfl rfl ⟨_, _, _, rfl, sh_173⟩ rfl ((ct_X12_readNumber_173 X (by omega) M33 hH33 0 ⟨by omega, by omega⟩ 9 ⟨by omega, by omega⟩).le (by decide)) (fun z38 M42 ⟨hH42, hR42, lz38, uz38, p39, p40, p41⟩ => ?_)
         have hF42 := hF33.tr hR42 (by decide +kernel)
         obtain ⟨z43, k44, lz43, uz43⟩ := hH42.ld (c := 173) (i := 5) (A := 0) (B := 940) (bs_28_3 _ _ (by omega) (by omega))
         obtain ⟨z45, k46, lz45, uz45⟩ := hH42.ld (c := 173) (i := 13) (A := (-2147483648)) (B := 2147483647) (bs_28_7 _ _ (by omega) (by omega))
         refine jv_i c3 hm rfl pj_X12_put rfl rfl ⟨_, _, _, rfl, sh_173⟩ rfl ((ct_X12_put_173 X (by omega) M42 hH42 4 ⟨by omega, by omega⟩ z38 ⟨by omega, by omega⟩ (by rw [show bnd X 176 (4 : Int).toNat = (0, 9) from (bs_12_1 _ _ (by omega) (by omega))]; dsimp only; omega)).le (by decide)) (fun z47 M49 ⟨hH49, hR49, lz47, uz47, p48⟩ => ?_)
         have hF49 := hF42.tr hR49 (by decide +kernel)
         have k50 : M49.1 173 5 = z43 := (hR49 173 5 (by decide +kernel)).trans k44
         exact jx_retz c2 hm rfl rfl ⟨by omega, by omega⟩ ⟨_, rfl, hH49, hF49, by omega, by omega, (by omega), (by omega)⟩
        refine jx_load c1 hm rfl rfl rfl rfl ?_
        refine jy_ic c1 hm rfl (by decide) ?_
        refine jv_i c3 hm rfl pj_X12_bad rfl rfl ⟨_, _, _, rfl, sh_173⟩ rfl ((ct_X12_bad_173 X (by omega) M0 hH0 3 ⟨by omega, by omega⟩).le (by decide)) (fun z51 M53 ⟨hH53, hR53, lz51, uz51, p52⟩ => ?_)
        have hF53 := hF0.tr hR53 (by decide +kernel)
        have k54 : M53.1 173 5 = z1 := (hR53 173 5 (by decide +kernel)).trans k2
        exact jx_retz c2 hm rfl rfl ⟨by omega, by omega⟩ ⟨_, rfl, hH53, hF53, by omega, by omega, (by omega), (by omega)⟩
       refine jx_load c1 hm rfl rfl rfl rfl ?_
       refine jy_ic c1 hm rfl (by decide) ?_
       refine jv_i c3 hm rfl pj_X12_bad rfl rfl ⟨_, _, _, rfl, sh_173⟩ rfl ((ct_X12_bad_173 X (by omega) M0 hH0 1 ⟨by omega, by omega⟩).le (by decide)) (fun z55 M57 ⟨hH57, hR57, lz55, uz55, p56⟩ => ?_)
       have hF57 := hF0.tr hR57 (by decide +kernel)
       have k58 : M57.1 173 5 = z1 := (hR57 173 5 (by decide +kernel)).trans k2
       exact jx_retz c2 hm rfl rfl ⟨by omega, by omega⟩ ⟨_, rfl, hH57, hF57, by omega, by omega, (by omega), (by omega)⟩
      refine jx_load c1 hm rfl rfl rfl rfl ?_
      obtain ⟨z59, k60, lz59, uz59⟩ := hH0.ld (c := 173) (i := 24) (A := 0) (B := 1) (bs_28_9 _ _ (by omega) (by omega))
      refine jx_getz c1 hm rfl sh_173 rfl k60 ?_
      refine jz_eq c1 hm 86 rfl rfl (fun h61 => ?_) (fun h61 => ?_)
      ·
       refine jx_load c1 hm rfl rfl rfl rfl ?_
       refine jy_ic c1 hm rfl (by decide) ?_
       obtain ⟨M62, e62, hH62, hF62, k62, n62, q62⟩ := mup hH0 hF0 (c := 173) (i := 24) (v := 1) (A := 0) (B := 1) (bs_28_9 _ _ (by omega) (by omega)) ⟨by omega, by omega⟩ (jin_of 8 rfl ⟨by omega, by omega⟩)
       refine jm_putz c1 hm rfl sh_173 rfl ⟨by omega, by omega⟩ e62 ?_
       refine jx_load c1 hm rfl rfl rfl rfl ?_
       have k63 : M62.1 173 5 = z1 := (n62 173 5 (by decide)).trans k2
       refine jv_v c3 hm rfl pj_X12_go rfl rfl ⟨_, _, _, rfl, sh_173⟩ rfl ((ct_X12_go_173 X (by omega) M62 hH62 ).le (by decide)) (fun M66 ⟨hH66, hR66, p64, p65⟩ => ?_)
       have hF66 := hF62.tr hR66 (by decide +kernel)
       obtain ⟨z67, k68, lz67, uz67⟩ := hH66.ld (c := 173) (i := 5) (A := 0) (B := 940) (bs_28_3 _ _ (by omega) (by omega))
       obtain ⟨z69, k70, lz69, uz69⟩ := hH66.ld (c := 173) (i := 7) (A := 0) (B := 4) (bs_28_4 _ _ (by omega) (by omega))
       refine jx_load c1 hm rfl rfl rfl rfl ?_
       refine jy_ic c1 hm rfl (by decide) ?_
       refine jx_load c1 hm rfl rfl rfl rfl ?_
       refine jy_ic c1 hm rfl (by decide) ?_
       refine jy_bp c1 hm rfl (by decide) ?_
       refine jv_i c3 hm rfl pj_X12_readNumber rfl rfl ⟨_, _, _, rfl, sh_173⟩ rfl ((ct_X12_readNumber_173 X (by omega) M66 hH66 0 ⟨by omega, by omega⟩ 9 ⟨by omega, by omega⟩).le (by decide)) (fun z71 M75 ⟨hH75, hR75, lz71, uz71, p72, p73, p74⟩ => ?_)
       have hF75 := hF66.tr hR75 (by decide +kernel)
       obtain ⟨z76, k77, lz76, uz76⟩ := hH75.ld (c := 173) (i := 5) (A := 0) (B := 940) (bs_28_3 _ _ (by omega) (by omega))
       obtain ⟨z78, k79, lz78, uz78⟩ := hH75.ld (c := 173) (i := 13) (A := (-2147483648)) (B := 2147483647) (bs_28_7 _ _ (by omega) (by omega))
       refine jv_i c3 hm rfl pj_X12_put rfl rfl ⟨_, _, _, rfl, sh_173⟩ rfl ((ct_X12_put_173 X (by omega) M75 hH75 3 ⟨by omega, by omega⟩ z71 ⟨by omega, by omega⟩ (by rw [show bnd X 176 (3 : Int).toNat = (0, 9) from (bs_12_1 _ _ (by omega) (by omega))]; dsimp only; omega)).le (by decide)) (fun z80 M82 ⟨hH82, hR82, lz80, uz80, p81⟩ => ?_)
       have hF82 := hF75.tr hR82 (by decide +kernel)
       have k83 : M82.1 173 5 = z76 := (hR82 173 5 (by decide +kernel)).trans k77
       exact jx_retz c2 hm rfl rfl ⟨by omega, by omega⟩ ⟨_, rfl, hH82, hF82, by omega, by omega, (by omega), (by omega)⟩
      refine jx_load c1 hm rfl rfl rfl rfl ?_
      refine jy_ic c1 hm rfl (by decide) ?_
      refine jv_i c3 hm rfl pj_X12_bad rfl rfl ⟨_, _, _, rfl, sh_173⟩ rfl ((ct_X12_bad_173 X (by omega) M0 hH0 3 ⟨by omega, by omega⟩).le (by decide)) (fun z84 M86 ⟨hH86, hR86, lz84, uz84, p85⟩ => ?_)
      have hF86 := hF0.tr hR86 (by decide +kernel)
      have k87 : M86.1 173 5 = z1 := (hR86 173 5 (by decide +kernel)).trans k2
      exact jx_retz c2 hm rfl rfl ⟨by omega, by omega⟩ ⟨_, rfl, hH86, hF86, by omega, by omega, (by omega), (by omega)⟩
     refine jx_load c1 hm rfl rfl rfl rfl ?_
     refine jv_i c3 hm rfl pj_X12_readOwes rfl rfl ⟨_, _, _, rfl, sh_173⟩ rfl ((ct_X12_readOwes_173 X (by omega) M0 hH0 ).le (by decide)) (fun z88 M91 ⟨hH91, hR91, lz88, uz88, p89, p90⟩ => ?_)
     have hF91 := hF0.tr hR91 (by decide +kernel)
     obtain ⟨z92, k93, lz92, uz92⟩ := hH91.ld (c := 173) (i := 5) (A := 0) (B := 940) (bs_28_3 _ _ (by omega) (by omega))
     exact jx_retz c2 hm rfl rfl ⟨by omega, by omega⟩ ⟨_, rfl, hH91, hF91, by omega, by omega, (by omega), (by omega)⟩
    refine jx_load c1 hm rfl rfl rfl rfl ?_
    refine jv_i c3 hm rfl pj_X12_readGood rfl rfl ⟨_, _, _, rfl, sh_173⟩ rfl ((ct_X12_readGood_173 X (by omega) M0 hH0 ).le (by decide)) (fun z94 M97 ⟨hH97, hR97, lz94, uz94, p95, p96⟩ => ?_)
    have hF97 := hF0.tr hR97 (by decide +kernel)
    obtain ⟨z98, k99, lz98, uz98⟩ := hH97.ld (c := 173) (i := 5) (A := 0) (B := 940) (bs_28_3 _ _ (by omega) (by omega))
    exact jx_retz c2 hm rfl rfl ⟨by omega, by omega⟩ ⟨_, rfl, hH97, hF97, by omega, by omega, (by omega), (by omega)⟩
   refine jx_load c1 hm rfl rfl rfl rfl ?_
   refine jv_i c3 hm rfl pj_X12_readMinds rfl rfl ⟨_, _, _, rfl, sh_173⟩ rfl ((ct_X12_readMinds_173 X (by omega) M0 hH0 ).le (by decide)) (fun z100 M103 ⟨hH103, hR103, lz100, uz100, p101, p102⟩ => ?_)
   have hF103 := hF0.tr hR103 (by decide +kernel)
   obtain ⟨z104, k105, lz104, uz104⟩ := hH103.ld (c := 173) (i := 5) (A := 0) (B := 940) (bs_28_3 _ _ (by omega) (by omega))
   exact jx_retz c2 hm rfl rfl ⟨by omega, by omega⟩ ⟨_, rfl, hH103, hF103, by omega, by omega, (by omega), (by omega)⟩
  refine jx_load c1 hm rfl rfl rfl rfl ?_
  refine jv_i c3 hm rfl pj_X12_readForfeit rfl rfl ⟨_, _, _, rfl, sh_173⟩ rfl ((ct_X12_readForfeit_173 X (by omega) M0 hH0 ).le (by decide)) (fun z106 M109 ⟨hH109, hR109, lz106, uz106, p107, p108⟩ => ?_)
  have hF109 := hF0.tr hR109 (by decide +kernel)
  obtain ⟨z110, k111, lz110, uz110⟩ := hH109.ld (c := 173) (i := 5) (A := 0) (B := 940) (bs_28_3 _ _ (by omega) (by omega))
  exact jx_retz c2 hm rfl rfl ⟨by omega, by omega⟩ ⟨_, rfl, hH109, hF109, by omega, by omega, (by omega), (by omega)⟩
 refine jx_load c1 hm rfl rfl rfl rfl ?_
 refine jv_i c3 hm rfl pj_X12_readMan rfl rfl ⟨_, _, _, rfl, sh_173⟩ rfl ((ct_X12_readMan_173 X (by omega) M0 hH0 ).le (by decide)) (fun z112 M115 ⟨hH115, hR115, lz112, uz112, p113, p114⟩ => ?_)
 have hF115 := hF0.tr hR115 (by decide +kernel)
 obtain ⟨z116, k117, lz116, uz116⟩ := hH115.ld (c := 173) (i := 5) (A := 0) (B := 940) (bs_28_3 _ _ (by omega) (by omega))
 exact jx_retz c2 hm rfl rfl ⟨by omega, by omega⟩ ⟨_, rfl, hH115, hF115, by omega, by omega, (by omega), (by omega)⟩
theorem ct_X12_isSign_173 (X : Int) (hX : 0 ≤ X ∧ X ≤ 100000000) (M0 : JM) (hH0 : HI X M0) (a0 : Int) (ha0 : (-2147483648) ≤ a0 ∧ a0 ≤ 2147483647) : JOk shp PJ 1 123 [.inr (.inr (.inl 173)), .inl a0] M0 (jRi (fun v M' => M0 = M' ∧ 0 ≤ v ∧ v ≤ 1 ∧ (v = 1 → M0.1 173 7 = 4))) := by
 refine ⟨jr_X12_isSign, pj_X12_isSign, fun F c1 c2 c3 => ?_⟩
 have hm := pj_X12_isSign
 change F 0 [some (.inr (.inr (.inl 173))), some (.inl a0)] [] M0
 obtain ⟨z1, k2, lz1, uz1⟩ := hH0.ld (c := 173) (i := 7) (A := 0) (B := 4) (bs_28_4 _ _ (by omega) (by omega))
 refine jx_load c1 hm rfl rfl rfl rfl ?_
 refine jx_geti c1 hm rfl sh_173 rfl k2 ?_
 refine jy_ic c1 hm rfl (by decide) ?_
 refine jc_ne c1 hm 20 rfl rfl (fun h3 => ?_) (fun h3 => ?_)
 ·
  refine jy_ic c1 hm rfl (by decide) ?_
  exact jx_retz c2 hm rfl rfl ⟨by omega, by omega⟩ ⟨_, rfl, rfl, by omega, by omega, (by omega)⟩
 refine jx_load c1 hm rfl rfl rfl rfl ?_
 obtain ⟨z4, k5, lz4, uz4⟩ := hH0.ld (c := 173) (i := 9) (A := (-2147483648)) (B := 2147483647) (bs_28_5 _ _ (by omega) (by omega))
 refine jx_geti c1 hm rfl sh_173 rfl k5 ?_
 refine jx_load c1 hm rfl rfl rfl rfl ?_
 refine jc_ne c1 hm 20 rfl rfl (fun h6 => ?_) (fun h6 => ?_)
 ·
  refine jy_ic c1 hm rfl (by decide) ?_
  exact jx_retz c2 hm rfl rfl ⟨by omega, by omega⟩ ⟨_, rfl, rfl, by omega, by omega, (by omega)⟩
 refine jy_ic c1 hm rfl (by decide) ?_
 refine jx_goto c1 hm 21 rfl rfl ?_
 exact jx_retz c2 hm rfl rfl ⟨by omega, by omega⟩ ⟨_, rfl, rfl, by omega, by omega, (by omega)⟩
def md_X12_readEnd_173 : List (Nat × (Nat × Nat)) := [(173, (5, 5)), (173, (6, 6)), (173, (7, 7)), (173, (8, 8)), (173, (9, 9)), (173, (10, 10)), (173, (11, 11))]
theorem ct_X12_readEnd_173 (X : Int) (hX : 0 ≤ X ∧ X ≤ 100000000) (M0 : JM) (hH0 : HI X M0)  : JOk shp PJ 3 157 [.inr (.inr (.inl 173))] M0 (jRi (fun v M' => HI X M' ∧ Fr md_X12_readEnd_173 M0 M' ∧ 0 ≤ v ∧ v ≤ 1 ∧ (M0.1 173 5 ≤ M'.1 173 5))) := by
 refine ⟨jr_X12_readEnd, pj_X12_readEnd, fun F c1 c2 c3 => ?_⟩
 have hm := pj_X12_readEnd
 change F 0 [some (.inr (.inr (.inl 173)))] [] M0
 have hF0 : Fr md_X12_readEnd_173 M0 M0 := Fr.rf _ _
 obtain ⟨z1, k2, lz1, uz1⟩ := hH0.ld (c := 173) (i := 5) (A := 0) (B := 940) (bs_28_3 _ _ (by omega) (by omega))
 refine jx_load c1 hm rfl rfl rfl rfl ?_
 refine jy_bp c1 hm rfl (by decide) ?_
 obtain ⟨z3, k4, lz3, uz3⟩ := hH0.ld (c := 173) (i := 7) (A := 0) (B := 4) (bs_28_4 _ _ (by omega) (by omega))
 refine jv_i c3 hm rfl pj_X12_isSign rfl rfl ⟨_, _, _, rfl, sh_173⟩ rfl ((ct_X12_isSign_173 X (by omega) M0 hH0 59 ⟨by omega, by omega⟩).le (by decide)) (fun z5 _ ⟨rfl, lz5, uz5, p6⟩ => ?_)
 refine jz_ne c1 hm 15 rfl rfl (fun h7 => ?_) (fun h7 => ?_)
 ·
  refine jx_load c1 hm rfl rfl rfl rfl ?_
  refine jv_v c3 hm rfl pj_X12_go rfl rfl ⟨_, _, _, rfl, sh_173⟩ rfl ((ct_X12_go_173 X (by omega) M0 hH0 ).le (by decide)) (fun M10 ⟨hH10, hR10, p8, p9⟩ => ?_)
  have hF10 := hF0.tr hR10 (by decide +kernel)
  obtain ⟨z11, k12, lz11, uz11⟩ := hH10.ld (c := 173) (i := 5) (A := 0) (B := 940) (bs_28_3 _ _ (by omega) (by omega))
  obtain ⟨z13, k14, lz13, uz13⟩ := hH10.ld (c := 173) (i := 7) (A := 0) (B := 4) (bs_28_4 _ _ (by omega) (by omega))
  refine jy_ic c1 hm rfl (by decide) ?_
  exact jx_retz c2 hm rfl rfl ⟨by omega, by omega⟩ ⟨_, rfl, hH10, hF10, by omega, by omega, (by omega)⟩
 refine jx_load c1 hm rfl rfl rfl rfl ?_
 refine jy_ic c1 hm rfl (by decide) ?_
 refine jv_i c3 hm rfl pj_X12_bad rfl rfl ⟨_, _, _, rfl, sh_173⟩ rfl ((ct_X12_bad_173 X (by omega) M0 hH0 1 ⟨by omega, by omega⟩).le (by decide)) (fun z15 M17 ⟨hH17, hR17, lz15, uz15, p16⟩ => ?_)
 have hF17 := hF0.tr hR17 (by decide +kernel)
 have k18 : M17.1 173 5 = z1 := (hR17 173 5 (by decide +kernel)).trans k2
 exact jx_retz c2 hm rfl rfl ⟨by omega, by omega⟩ ⟨_, rfl, hH17, hF17, by omega, by omega, (by omega)⟩
def md_X12_duchy_173 : List (Nat × (Nat × Nat)) := [(173, (0, 0)), (173, (2, 2)), (173, (3, 3)), (173, (4, 4)), (173, (5, 5)), (173, (6, 6)), (173, (7, 7)), (173, (8, 8)), (173, (9, 9)), (173, (10, 10)), (173, (11, 11)), (173, (13, 13)), (173, (23, 23)), (173, (24, 24)), (173, (25, 25)), (175, (0, 100)), (175, (101, 475)), (176, (0, 100))]
theorem ct_X12_duchy_173 (X : Int) (hX : 0 ≤ X ∧ X ≤ 100000000) (M0 : JM) (hH0 : HI X M0) (hp0 : SOK M0) : JOk shp PJ 7 99 [.inr (.inr (.inl 173))] M0 (jRi (fun v M' => HI X M' ∧ Fr md_X12_duchy_173 M0 M' ∧ (-941) ≤ v ∧ v ≤ 2147483647 ∧ (SOK M') ∧ (v < 0 ∨ M'.1 175 234 = 0))) := by
 refine ⟨jr_X12_duchy, pj_X12_duchy, fun F c1 c2 c3 => ?_⟩
 have hm := pj_X12_duchy
 change F 0 [some (.inr (.inr (.inl 173))), none, none] [] M0
 have hF0 : Fr md_X12_duchy_173 M0 M0 := Fr.rf _ _
 refine jx_load c1 hm rfl rfl rfl rfl ?_
 refine jy_sp c1 hm rfl (by decide) ?_
 refine jv_v c3 hm rfl pj_X12_begin rfl rfl ⟨_, _, _, rfl, sh_173⟩ rfl ((ct_X12_begin_173 X (by omega) M0 hH0 900 ⟨by omega, by omega⟩).le (by decide)) (fun M1 ⟨hH1, hR1⟩ => ?_)
 have hF1 := hF0.tr hR1 (by decide +kernel)
 refine jy_ic c1 hm rfl (by decide) ?_
 refine jx_stor c1 hm (L' := [some (.inr (.inr (.inl 173))), some (.inl 0), none]) rfl rfl rfl rfl rfl ?_
 have W5 : ∀ (n6 : Nat) (b2 : Int) (hb2 : 0 ≤ b2 ∧ b2 ≤ 101) (M3 : JM) (hH3 : HI (X) M3) (hF3 : Fr md_X12_duchy_173 M0 M3) (hE : ∀ j : Nat, M3.1 175 j = M0.1 175 j), (-b2 + 101) < (n6 : Int) → F 9 [some (.inr (.inr (.inl 173))), some (.inl b2), none] [] M3 := by
  intro n6
  induction n6 with
  | zero => intros; omega
  | succ n6 ihW5 =>
   intro b2 hb2 M3 hH3 hF3 hE hrW5
   refine jx_load c1 hm rfl rfl rfl rfl ?_
   skip
   refine jy_bp c1 hm rfl (by decide) ?_
   refine jc_ge c1 hm 28 rfl rfl (fun h7 => ?_) (fun h7 => ?_)
   ·
    refine jy_ic c1 hm rfl (by decide) ?_
    refine jx_stor c1 hm (L' := [some (.inr (.inr (.inl 173))), some (.inl 0), none]) rfl rfl rfl rfl rfl ?_
    have W12 : ∀ (n13 : Nat) (b9 : Int) (hb9 : 0 ≤ b9 ∧ b9 ≤ 36) (M10 : JM) (hH10 : HI (X) M10) (hF10 : Fr md_X12_duchy_173 M0 M10) (hE : ∀ j : Nat, M10.1 175 j = M0.1 175 j), (-b9 + 36) < (n13 : Int) → F 30 [some (.inr (.inr (.inl 173))), some (.inl b9), none] [] M10 := by
     intro n13
     induction n13 with
     | zero => intros; omega
     | succ n13 ihW12 =>
      intro b9 hb9 M10 hH10 hF10 hE hrW12
      refine jx_load c1 hm rfl rfl rfl rfl ?_
      skip
      refine jy_bp c1 hm rfl (by decide) ?_
      refine jc_ge c1 hm 52 rfl rfl (fun h14 => ?_) (fun h14 => ?_)
      ·
       refine jx_load c1 hm rfl rfl rfl rfl ?_
       refine jx_getr c1 hm rfl sh_173 rfl ?_
       refine jy_ic c1 hm rfl (by decide) ?_
       refine jy_ic c1 hm rfl (by decide) ?_
       obtain ⟨M16, e16, hH16, hF16, k16, n16, q16⟩ := mup hH10 hF10 (c := 176) (i := 3) (v := 1) (A := 0) (B := 9) (bs_12_1 _ _ (by omega) (by omega)) ⟨by omega, by omega⟩ (jin_of 17 rfl ⟨by omega, by omega⟩)
       refine jm_iast c1 hm rfl sh_176 ⟨by omega, by omega⟩ e16 ?_
       refine jx_load c1 hm rfl rfl rfl rfl ?_
       refine jx_getr c1 hm rfl sh_173 rfl ?_
       refine jy_ic c1 hm rfl (by decide) ?_
       refine jy_ic c1 hm rfl (by decide) ?_
       obtain ⟨M17, e17, hH17, hF17, k17, n17, q17⟩ := mup hH16 hF16 (c := 176) (i := 4) (v := 1) (A := 0) (B := 9) (bs_12_1 _ _ (by omega) (by omega)) ⟨by omega, by omega⟩ (jin_of 17 rfl ⟨by omega, by omega⟩)
       refine jm_iast c1 hm rfl sh_176 ⟨by omega, by omega⟩ e17 ?_
       refine jx_load c1 hm rfl rfl rfl rfl ?_
       refine jy_ic c1 hm rfl (by decide) ?_
       obtain ⟨M18, e18, hH18, hF18, k18, n18, q18⟩ := mup hH17 hF17 (c := 173) (i := 24) (v := 0) (A := 0) (B := 1) (bs_28_9 _ _ (by omega) (by omega)) ⟨by omega, by omega⟩ (jin_of 13 rfl ⟨by omega, by omega⟩)
       refine jm_putz c1 hm rfl sh_173 rfl ⟨by omega, by omega⟩ e18 ?_
       refine jx_load c1 hm rfl rfl rfl rfl ?_
       refine jy_ic c1 hm rfl (by decide) ?_
       obtain ⟨M19, e19, hH19, hF19, k19, n19, q19⟩ := mup hH18 hF18 (c := 173) (i := 25) (v := 0) (A := 0) (B := 1) (bs_28_9 _ _ (by omega) (by omega)) ⟨by omega, by omega⟩ (jin_of 14 rfl ⟨by omega, by omega⟩)
       refine jm_putz c1 hm rfl sh_173 rfl ⟨by omega, by omega⟩ e19 ?_
       refine jy_ic c1 hm rfl (by decide) ?_
       refine jx_stor c1 hm (L' := [some (.inr (.inr (.inl 173))), some (.inl 0), none]) rfl rfl rfl rfl rfl ?_
       have W27 : ∀ (n28 : Nat) (b20 : Int) (hb20 : 0 ≤ b20 ∧ b20 ≤ 2147483647) (M21 : JM) (hH21 : HI (X) M21) (hF21 : Fr md_X12_duchy_173 M0 M21) (h22 : 0 ≤ b20 ∧ b20 ≤ M21.1 173 5) (h25 : M21.1 173 5 ≤ 940) (hE : ∀ j : Nat, M21.1 175 j = M0.1 175 j), 940 - M21.1 173 5 < (n28 : Int) → F 78 [some (.inr (.inr (.inl 173))), some (.inl b20), none] [] M21 := by
        intro n28
        induction n28 with
        | zero => intros; omega
        | succ n28 ihW27 =>
         intro b20 hb20 M21 hH21 hF21 h22 h25 hE hrW27
         refine jx_load c1 hm rfl rfl rfl rfl ?_
         skip
         obtain ⟨z29, k30, lz29, uz29⟩ := hH21.ld (c := 173) (i := 7) (A := 0) (B := 4) (bs_28_4 _ _ (by omega) (by omega))
         refine jx_geti c1 hm rfl sh_173 rfl k30 ?_
         refine jz_eq c1 hm 112 rfl rfl (fun h31 => ?_) (fun h31 => ?_)
         ·
          refine jy_ic c1 hm rfl (by decide) ?_
          refine jx_stor c1 hm (L' := [some (.inr (.inr (.inl 173))), some (.inl b20), some (.inl 0)]) rfl rfl rfl rfl rfl ?_
          have W35 : ∀ (n36 : Nat) (b32 : Int) (hb32 : 0 ≤ b32 ∧ b32 ≤ 36) (M33 : JM) (hH33 : HI (X) M33) (hF33 : Fr md_X12_duchy_173 M0 M33) (k34 : M33.1 173 7 = z29), (-b32 + 36) < (n36 : Int) → F 114 [some (.inr (.inr (.inl 173))), some (.inl b20), some (.inl b32)] [] M33 := by
           intro n36
           induction n36 with
           | zero => intros; omega
           | succ n36 ihW35 =>
            intro b32 hb32 M33 hH33 hF33 k34 hrW35
            refine jx_load c1 hm rfl rfl rfl rfl ?_
            refine jy_bp c1 hm rfl (by decide) ?_
            refine jc_ge c1 hm 160 rfl rfl (fun h37 => ?_) (fun h37 => ?_)
            ·
             refine jy_ic c1 hm rfl (by decide) ?_
             refine jx_stor c1 hm (L' := [some (.inr (.inr (.inl 173))), some (.inl b20), some (.inl 0)]) rfl rfl rfl rfl rfl ?_
             have W52 : ∀ (n53 : Nat) (b49 : Int) (hb49 : 0 ≤ b49 ∧ b49 ≤ 101) (M50 : JM) (hH50 : HI (X) M50) (hF50 : Fr md_X12_duchy_173 M0 M50) (k51 : M50.1 173 7 = z29), (-b49 + 101) < (n53 : Int) → F 162 [some (.inr (.inr (.inl 173))), some (.inl b20), some (.inl b49)] [] M50 := by
              intro n53
              induction n53 with
              | zero => intros; omega
              | succ n53 ihW52 =>
               intro b49 hb49 M50 hH50 hF50 k51 hrW52
               refine jx_load c1 hm rfl rfl rfl rfl ?_
               refine jy_bp c1 hm rfl (by decide) ?_
               refine jc_ge c1 hm 186 rfl rfl (fun h54 => ?_) (fun h54 => ?_)
               ·
                refine jy_ic c1 hm rfl (by decide) ?_
                refine jx_stor c1 hm (L' := [some (.inr (.inr (.inl 173))), some (.inl b20), some (.inl 0)]) rfl rfl rfl rfl rfl ?_
                have W61 : ∀ (n62 : Nat) (b58 : Int) (hb58 : 0 ≤ b58 ∧ b58 ≤ 18) (M59 : JM) (hH59 : HI (X) M59) (hF59 : Fr md_X12_duchy_173 M0 M59) (k60 : M59.1 173 7 = z29), (-b58 + 18) < (n62 : Int) → F 188 [some (.inr (.inr (.inl 173))), some (.inl b20), some (.inl b58)] [] M59 := by
                 intro n62
                 induction n62 with
                 | zero => intros; omega
                 | succ n62 ihW61 =>
                  intro b58 hb58 M59 hH59 hF59 k60 hrW61
                  refine jx_load c1 hm rfl rfl rfl rfl ?_
                  refine jy_bp c1 hm rfl (by decide) ?_
                  refine jc_ge c1 hm 212 rfl rfl (fun h63 => ?_) (fun h63 => ?_)
                  ·
                   refine jx_load c1 hm rfl rfl rfl rfl ?_
                   refine jv_v c3 hm rfl pj_X12_startSo rfl rfl ⟨_, _, _, rfl, sh_173⟩ rfl ((ct_X12_startSo_173 X (by omega) M59 hH59 ).le (by decide)) (fun M67 ⟨hH67, hR67, p66⟩ => ?_)
                   have hF67 := hF59.tr hR67 (by decide +kernel)
                   obtain ⟨z68, k69, lz68, uz68⟩ := hH67.ld (c := 175) (i := 234) (A := (-2147483648)) (B := 2147483647) (bs_11_11 _ _ (by omega) (by omega))
                   refine jx_load c1 hm rfl rfl rfl rfl ?_
                   refine jy_ic c1 hm rfl (by decide) ?_
                   obtain ⟨M70, e70, hH70, hF70, k70, n70, q70⟩ := mup hH67 hF67 (c := 173) (i := 23) (v := 0) (A := 0) (B := 8) (bs_28_8 _ _ (by omega) (by omega)) ⟨by omega, by omega⟩ (jin_of 12 rfl ⟨by omega, by omega⟩)
                   refine jm_puti c1 hm rfl sh_173 rfl e70 ?_
                   refine jx_load c1 hm rfl rfl rfl rfl ?_
                   have k71 : M70.1 175 234 = z68 := (n70 175 234 (fun h => absurd h.1 (by decide))).trans k69
                   exact jx_reti c2 hm rfl rfl ⟨_, rfl, hH70, hF70, by omega, by omega, (Or.inl (by omega)), (by omega)⟩
                  refine jx_load c1 hm rfl rfl rfl rfl ?_
                  refine jx_getr c1 hm rfl sh_173 rfl ?_
                  refine jx_load c1 hm rfl rfl rfl rfl ?_
                  refine jx_load c1 hm rfl rfl rfl rfl ?_
                  refine jx_getr c1 hm rfl sh_173 rfl ?_
                  refine jx_load c1 hm rfl rfl rfl rfl ?_
                  obtain ⟨w64, kw64⟩ : ∃ w, M59.2 181 (b58).toNat = w := ⟨_, rfl⟩
                  have bw64 : LB w64.toInt := kw64 ▸ hH59.2.1 181 _ rfl
                  refine jx_lald c1 hm rfl sh_181 ⟨by omega, by omega⟩ kw64 ?_
                  obtain ⟨M65, e65, hH65, hF65, n65, k65, _⟩ := mul hH59 hF59 (c := 180) (i := (b58).toNat) (v := w64) (fun _ => bw64)
                  refine jm_last c1 hm rfl sh_180 ⟨by omega, by omega⟩ e65 ?_
                  refine jx_iinc c1 hm (v := (b58 + 1)) (L' := [some (.inr (.inr (.inl 173))), some (.inl b20), some (.inl (b58 + 1))]) rfl rfl (by omega) (by omega) rfl ?_
                  refine jx_goto c1 hm 188 rfl rfl ?_
                  have k72 : M65.1 173 7 = z29 := (n65 173 7).trans k60
                  exact ihW61 (b58 + 1) (by omega) M65 hH65 hF65 k72 (by omega)
                exact W61 (18 + 1 : Int).toNat 0 (by omega) M50 hH50 hF50 k51 (by omega)
               refine jx_load c1 hm rfl rfl rfl rfl ?_
               refine jx_getr c1 hm rfl sh_173 rfl ?_
               refine jx_load c1 hm rfl rfl rfl rfl ?_
               refine jx_load c1 hm rfl rfl rfl rfl ?_
               refine jx_getr c1 hm rfl sh_173 rfl ?_
               refine jx_load c1 hm rfl rfl rfl rfl ?_
               obtain ⟨z55, k56, lz55, uz55⟩ := hH50.any (by omega) (by omega) 176 (b49).toNat
               refine jx_iald c1 hm rfl sh_176 ⟨by omega, by omega⟩ k56 ?_
               obtain ⟨M57, e57, hH57, hF57, k57, n57, q57⟩ := mupc hH50 hF50 hH50 (c := 175) (i := (b49).toNat) (c1 := 176) (i1 := (b49).toNat) (v := z55) k56 (crd (by omega)) (jin_of 15 rfl ⟨by omega, by omega⟩)
               refine jm_iast c1 hm rfl sh_175 ⟨by omega, by omega⟩ e57 ?_
               refine jx_iinc c1 hm (v := (b49 + 1)) (L' := [some (.inr (.inr (.inl 173))), some (.inl b20), some (.inl (b49 + 1))]) rfl rfl (by omega) (by omega) rfl ?_
               refine jx_goto c1 hm 162 rfl rfl ?_
               have k73 : M57.1 173 7 = z29 := (n57 173 7 (fun h => absurd h.1 (by decide))).trans k51
               exact ihW52 (b49 + 1) (by omega) M57 hH57 hF57 k73 (by omega)
             exact W52 (101 + 1 : Int).toNat 0 (by omega) M33 hH33 hF33 k34 (by omega)
            refine jx_load c1 hm rfl rfl rfl rfl ?_
            refine jx_getr c1 hm rfl sh_173 rfl ?_
            refine jy_bp c1 hm rfl (by decide) ?_
            refine jx_load c1 hm rfl rfl rfl rfl ?_
            refine jy_add c1 hm (b32 + 17) rfl (by omega) ?_
            obtain ⟨z38, k39, lz38, uz38⟩ := hH33.ld (c := 176) (i := ((b32 + 17)).toNat) (A := (-1)) (B := 20) (bs_12_4 _ _ (by omega) (by omega))
            refine jx_iald c1 hm rfl sh_176 ⟨by omega, by omega⟩ k39 ?_
            refine jy_ic c1 hm rfl (by decide) ?_
            have J48 : ∀ (M45 : JM) (hH45 : HI (X) M45) (hF45 : Fr md_X12_duchy_173 M0 M45) (k47 : M45.1 173 7 = z29), F 154 [some (.inr (.inr (.inl 173))), some (.inl b20), some (.inl b32)] [] M45 := by
             intro M45 hH45 hF45 k47
             refine jx_iinc c1 hm (v := (b32 + 1)) (L' := [some (.inr (.inr (.inl 173))), some (.inl b20), some (.inl (b32 + 1))]) rfl rfl (by omega) (by omega) rfl ?_
             refine jx_goto c1 hm 114 rfl rfl ?_
             exact ihW35 (b32 + 1) (by omega) M45 hH45 hF45 k47 (by omega)
            refine jc_ne c1 hm 154 rfl rfl (fun h40 => ?_) (fun h40 => ?_)
            ·
             exact J48 M33 hH33 hF33 k34
            refine jx_load c1 hm rfl rfl rfl rfl ?_
            refine jx_getr c1 hm rfl sh_173 rfl ?_
            refine jy_bp c1 hm rfl (by decide) ?_
            refine jx_load c1 hm rfl rfl rfl rfl ?_
            refine jy_add c1 hm (b32 + 17) rfl (by omega) ?_
            refine jx_load c1 hm rfl rfl rfl rfl ?_
            refine jx_getr c1 hm rfl sh_173 rfl ?_
            refine jy_bp c1 hm rfl (by decide) ?_
            refine jx_load c1 hm rfl rfl rfl rfl ?_
            refine jy_bp c1 hm rfl (by decide) ?_
            refine jy_rem c1 hm rfl ⟨by omega, by omega, by omega, by omega⟩ (fun z41 ez41 lz41 uz41 => ?_)
            refine jy_add c1 hm (z41 + 11) rfl (by omega) ?_
            obtain ⟨z42, k43, lz42, uz42⟩ := hH33.ld (c := 176) (i := ((z41 + 11)).toNat) (A := 0) (B := 20) (bs_12_3 _ _ (by omega) (by omega))
            refine jx_iald c1 hm rfl sh_176 ⟨by omega, by omega⟩ k43 ?_
            obtain ⟨M44, e44, hH44, hF44, k44, n44, q44⟩ := mup hH33 hF33 (c := 176) (i := ((b32 + 17)).toNat) (v := z42) (A := (-1)) (B := 20) (bs_12_4 _ _ (by omega) (by omega)) ⟨by omega, by omega⟩ (jin_of 17 rfl ⟨by omega, by omega⟩)
            refine jm_iast c1 hm rfl sh_176 ⟨by omega, by omega⟩ e44 ?_
            have k46 : M44.1 173 7 = z29 := (n44 173 7 (fun h => absurd h.1 (by decide))).trans k34
            exact J48 M44 hH44 hF44 k46
          exact W35 (36 + 1 : Int).toNat 0 (by omega) M21 hH21 hF21 k30 (by omega)
         refine jx_load c1 hm rfl rfl rfl rfl ?_
         obtain ⟨z74, k75, lz74, uz74⟩ := hH21.ld (c := 173) (i := 5) (A := 0) (B := 940) (bs_28_3 _ _ (by omega) (by omega))
         refine jv_i c3 hm rfl pj_X12_readLine rfl rfl ⟨_, _, _, rfl, sh_173⟩ rfl ((ct_X12_readLine_173 X (by omega) M21 hH21 ).le (by decide)) (fun z76 M79 ⟨hH79, hR79, lz76, uz76, p77, p78⟩ => ?_)
         have hF79 := hF21.tr hR79 (by decide +kernel)
         obtain ⟨z80, k81, lz80, uz80⟩ := hH79.ld (c := 173) (i := 5) (A := 0) (B := 940) (bs_28_3 _ _ (by omega) (by omega))
         refine jz_eq c1 hm 99 rfl rfl (fun h82 => ?_) (fun h82 => ?_)
         ·
          refine jy_ic c1 hm rfl (by decide) ?_
          refine jx_load c1 hm rfl rfl rfl rfl ?_
          obtain ⟨z83, k84, lz83, uz83⟩ := hH79.ld (c := 173) (i := 11) (A := 0) (B := 940) (bs_28_6 _ _ (by omega) (by omega))
          refine jx_geti c1 hm rfl sh_173 rfl k84 ?_
          refine jy_sub c1 hm (-z83 - 1) rfl (by omega) ?_
          obtain ⟨z85, k86, lz85, uz85⟩ := hH79.ld (c := 175) (i := 234) (A := (-2147483648)) (B := 2147483647) (bs_11_11 _ _ (by omega) (by omega))
          exact jx_reti c2 hm rfl rfl ⟨_, rfl, hH79, hF79, by omega, by omega, (SOK.cg hp0 (fun j _ _ => (fun j => ((hR79 175 j rfl).trans (hE j))) j)), (by omega)⟩
         refine jx_load c1 hm rfl rfl rfl rfl ?_
         refine jv_i c3 hm rfl pj_X12_readEnd rfl rfl ⟨_, _, _, rfl, sh_173⟩ rfl ((ct_X12_readEnd_173 X (by omega) M79 hH79 ).le (by decide)) (fun z87 M89 ⟨hH89, hR89, lz87, uz87, p88⟩ => ?_)
         have hF89 := hF79.tr hR89 (by decide +kernel)
         obtain ⟨z90, k91, lz90, uz90⟩ := hH89.ld (c := 173) (i := 5) (A := 0) (B := 940) (bs_28_3 _ _ (by omega) (by omega))
         refine jz_ne c1 hm 106 rfl rfl (fun h92 => ?_) (fun h92 => ?_)
         ·
          have t93 : (-2147483648) ≤ (b20 + 1) ∧ (b20 + 1) ≤ 2147483647 := by omega
          refine jx_iinc c1 hm (v := (b20 + 1)) (L' := [some (.inr (.inr (.inl 173))), some (.inl (b20 + 1)), none]) rfl rfl (by omega) (by omega) rfl ?_
          refine jx_goto c1 hm 78 rfl rfl ?_
          exact ihW27 (b20 + 1) (by omega) M89 hH89 hF89 (by omega) (by omega) (fun j => (((hR89 175 j rfl).trans (hR79 175 j rfl)).trans (hE j))) (by omega)
         refine jy_ic c1 hm rfl (by decide) ?_
         refine jx_load c1 hm rfl rfl rfl rfl ?_
         obtain ⟨z94, k95, lz94, uz94⟩ := hH89.ld (c := 173) (i := 11) (A := 0) (B := 940) (bs_28_6 _ _ (by omega) (by omega))
         refine jx_geti c1 hm rfl sh_173 rfl k95 ?_
         refine jy_sub c1 hm (-z94 - 1) rfl (by omega) ?_
         obtain ⟨z96, k97, lz96, uz96⟩ := hH89.ld (c := 175) (i := 234) (A := (-2147483648)) (B := 2147483647) (bs_11_11 _ _ (by omega) (by omega))
         exact jx_reti c2 hm rfl rfl ⟨_, rfl, hH89, hF89, by omega, by omega, (SOK.cg hp0 (fun j _ _ => (fun j => (((hR89 175 j rfl).trans (hR79 175 j rfl)).trans (hE j))) j)), (by omega)⟩
       obtain ⟨z23, k24, lz23, uz23⟩ := hH19.ld (c := 173) (i := 5) (A := 0) (B := 940) (bs_28_3 _ _ (by omega) (by omega))
       exact W27 (940 - M19.1 173 5 + 1 : Int).toNat 0 (by omega) M19 hH19 hF19 (by omega) (by omega) (fun j => (((((n19 175 j (fun h => absurd h.1 (by decide))).trans (n18 175 j (fun h => absurd h.1 (by decide)))).trans (n17 175 j (fun h => absurd h.1 (by decide)))).trans (n16 175 j (fun h => absurd h.1 (by decide)))).trans (hE j))) (by omega)
      refine jx_load c1 hm rfl rfl rfl rfl ?_
      refine jx_getr c1 hm rfl sh_173 rfl ?_
      refine jy_bp c1 hm rfl (by decide) ?_
      refine jx_load c1 hm rfl rfl rfl rfl ?_
      refine jy_add c1 hm (b9 + 17) rfl (by omega) ?_
      refine jy_ic c1 hm rfl (by decide) ?_
      obtain ⟨M15, e15, hH15, hF15, k15, n15, q15⟩ := mup hH10 hF10 (c := 176) (i := ((b9 + 17)).toNat) (v := (-1)) (A := (-1)) (B := 20) (bs_12_4 _ _ (by omega) (by omega)) ⟨by omega, by omega⟩ (jin_of 17 rfl ⟨by omega, by omega⟩)
      refine jm_iast c1 hm rfl sh_176 ⟨by omega, by omega⟩ e15 ?_
      refine jx_iinc c1 hm (v := (b9 + 1)) (L' := [some (.inr (.inr (.inl 173))), some (.inl (b9 + 1)), none]) rfl rfl (by omega) (by omega) rfl ?_
      refine jx_goto c1 hm 30 rfl rfl ?_
      exact ihW12 (b9 + 1) (by omega) M15 hH15 hF15 (fun j => ((n15 175 j (fun h => absurd h.1 (by decide))).trans (hE j))) (by omega)
    exact W12 (36 + 1 : Int).toNat 0 (by omega) M3 hH3 hF3 (fun j => (hE j)) (by omega)
   refine jx_load c1 hm rfl rfl rfl rfl ?_
   refine jx_getr c1 hm rfl sh_173 rfl ?_
   refine jx_load c1 hm rfl rfl rfl rfl ?_
   refine jy_ic c1 hm rfl (by decide) ?_
   obtain ⟨M8, e8, hH8, hF8, k8, n8, q8⟩ := mup hH3 hF3 (c := 176) (i := (b2).toNat) (v := 0) (A := (bnd (X) 176 (b2).toNat).1) (B := (bnd (X) 176 (b2).toNat).2) rfl (czr _) (jin_of 17 rfl ⟨by omega, by omega⟩)
   refine jm_iast c1 hm rfl sh_176 ⟨by omega, by omega⟩ e8 ?_
   refine jx_iinc c1 hm (v := (b2 + 1)) (L' := [some (.inr (.inr (.inl 173))), some (.inl (b2 + 1)), none]) rfl rfl (by omega) (by omega) rfl ?_
   refine jx_goto c1 hm 9 rfl rfl ?_
   exact ihW5 (b2 + 1) (by omega) M8 hH8 hF8 (fun j => ((n8 175 j (fun h => absurd h.1 (by decide))).trans (hE j))) (by omega)
 exact W5 (101 + 1 : Int).toNat 0 (by omega) M1 hH1 hF1 (fun j => (hR1 175 j rfl)) (by omega)
