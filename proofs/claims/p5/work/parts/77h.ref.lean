/-! What readFirst says of a count. -/
theorem rf_k {M : JM} {a v z k : Int} {j : Nat} (hk : k = (j : Int)) (h : M.1 176 a.toNat = z) (hz : v = 0 ∨ z ≤ 5) : a ≠ k ∨ v = 0 ∨ M.1 176 j ≤ 5 := by
  by_cases e : a = k
  · rw [e, hk, Int.toNat_natCast] at h
    omega
  · exact Or.inl e
/-! Contracts of the reference, exact (by wip/q/wlk.py). -/
theorem ct_X12_speltp (X : Int) (hX : 0 ≤ X ∧ X ≤ 100000000) (M0 : JM) (hH0 : HI X M0) (a0 : Int) (ha0 : 0 ≤ a0 ∧ a0 ≤ 122) (a1 : Int) (ha1 : 0 ≤ a1 ∧ a1 ≤ 122) (a2 : Int) (ha2 : 0 ≤ a2 ∧ a2 ≤ 122) (a3 : Int) (ha3 : 0 ≤ a3 ∧ a3 ≤ 122) (a4 : Int) (ha4 : 0 ≤ a4 ∧ a4 ≤ 122) (a5 : Int) (ha5 : 0 ≤ a5 ∧ a5 ≤ 122) (a6 : Int) (ha6 : 0 ≤ a6 ∧ a6 ≤ 122) : JOk shp PJ 1 183 [.inl a0, .inl a1, .inl a2, .inl a3, .inl a4, .inl a5, .inl a6] M0 (jRl (fun v M' => M0 = M' ∧ LB v.toInt ∧ (v.toInt = spS a0 a1 a2 a3 a4 a5 a6))) := by
 refine ⟨jr_X12_spelt, pj_X12_spelt, fun F c1 c2 c3 => ?_⟩
 have hm := pj_X12_spelt
 change F 0 [some (.inl a0), some (.inl a1), some (.inl a2), some (.inl a3), some (.inl a4), some (.inl a5), some (.inl a6), none, none] [] M0
 refine jx_ldc2 c1 hm (v := 27) rfl (by decide) ?_
 refine jx_load c1 hm rfl rfl rfl rfl ?_
 refine jx_i2l c1 hm rfl (fun w1 ew1 => ?_)
 have tw1 : w1.toInt = a0 := jl_i2l ew1 (by omega)
 clear ew1
 refine jx_ldc2 c1 hm (v := 96) rfl (by decide) ?_
 refine jx_lop c1 hm rfl rfl (fun w2 ew2 => ?_)
 have tw2 : w2.toInt = w1.toInt - 96 := jl_sub ew2 rfl (by decide) (by omega)
 clear ew2
 refine jx_lop c1 hm rfl rfl (fun w3 ew3 => ?_)
 have tw3 : w3.toInt = 27 * w2.toInt := jl_mul ew3 (by decide) rfl (by omega)
 clear ew3
 refine jx_load c1 hm rfl rfl rfl rfl ?_
 refine jx_i2l c1 hm rfl (fun w4 ew4 => ?_)
 have tw4 : w4.toInt = a1 := jl_i2l ew4 (by omega)
 clear ew4
 refine jx_lop c1 hm rfl rfl (fun w5 ew5 => ?_)
 have tw5 : w5.toInt = w3.toInt + w4.toInt := jl_add ew5 rfl rfl (by omega)
 clear ew5
 refine jx_ldc2 c1 hm (v := 96) rfl (by decide) ?_
 refine jx_lop c1 hm rfl rfl (fun w6 ew6 => ?_)
 have tw6 : w6.toInt = w5.toInt - 96 := jl_sub ew6 rfl (by decide) (by omega)
 clear ew6
 refine jx_stor c1 hm (L' := [some (.inl a0), some (.inl a1), some (.inl a2), some (.inl a3), some (.inl a4), some (.inl a5), some (.inl a6), some (.inr (.inl w6)), none]) rfl rfl rfl rfl rfl ?_
 refine jx_load c1 hm rfl rfl rfl rfl ?_
 have J15 : ∀ (w12 : Int64) (h13 : -72672 ≤ w12.toInt ∧ w12.toInt ≤ 72672) (hs38 : w12.toInt = (spx (27 * (a0 - 96) + a1 - 96) a2)), F 38 [some (.inl a0), some (.inl a1), some (.inl a2), some (.inl a3), some (.inl a4), some (.inl a5), some (.inl a6), some (.inr (.inl w12)), none] [] M0 := by
  intro w12 h13 hs38
  refine jx_load c1 hm rfl rfl rfl rfl ?_
  have J24 : ∀ (w21 : Int64) (h22 : -1962240 ≤ w21.toInt ∧ w21.toInt ≤ 1962240) (hs57 : w21.toInt = (spx (spx (27 * (a0 - 96) + a1 - 96) a2) a3)), F 57 [some (.inl a0), some (.inl a1), some (.inl a2), some (.inl a3), some (.inl a4), some (.inl a5), some (.inl a6), some (.inr (.inl w21)), none] [] M0 := by
   intro w21 h22 hs57
   refine jx_load c1 hm rfl rfl rfl rfl ?_
   have J33 : ∀ (w30 : Int64) (h31 : -52980576 ≤ w30.toInt ∧ w30.toInt ≤ 52980576) (hs78 : w30.toInt = (spx (spx (spx (27 * (a0 - 96) + a1 - 96) a2) a3) a4)), F 78 [some (.inl a0), some (.inl a1), some (.inl a2), some (.inl a3), some (.inl a4), some (.inl a5), some (.inl a6), some (.inr (.inl w30)), none] [] M0 := by
    intro w30 h31 hs78
    refine jx_load c1 hm rfl rfl rfl rfl ?_
    have J42 : ∀ (w39 : Int64) (h40 : -1430475648 ≤ w39.toInt ∧ w39.toInt ≤ 1430475648) (hs99 : w39.toInt = (spx (spx (spx (spx (27 * (a0 - 96) + a1 - 96) a2) a3) a4) a5)), F 99 [some (.inl a0), some (.inl a1), some (.inl a2), some (.inl a3), some (.inl a4), some (.inl a5), some (.inl a6), some (.inr (.inl w39)), none] [] M0 := by
     intro w39 h40 hs99
     refine jx_load c1 hm rfl rfl rfl rfl ?_
     refine jz_le c1 hm 120 rfl rfl (fun h43 => ?_) (fun h43 => ?_)
     ·
      refine jx_load c1 hm rfl rfl rfl rfl ?_
      have bw39 : LB w39.toInt := by unfold LB; omega
      exact jx_retl c2 hm rfl rfl ⟨_, rfl, rfl, bw39, (by first | exact spx_y hs99 (by omega) (by omega) | exact spx_n hs99 (by omega) (by omega))⟩
     refine jx_ldc2 c1 hm (v := 27) rfl (by decide) ?_
     refine jx_load c1 hm rfl rfl rfl rfl ?_
     refine jx_lop c1 hm rfl rfl (fun w44 ew44 => ?_)
     have tw44 : w44.toInt = 27 * w39.toInt := jl_mul ew44 (by decide) rfl (by omega)
     clear ew44
     refine jx_load c1 hm rfl rfl rfl rfl ?_
     refine jx_i2l c1 hm rfl (fun w45 ew45 => ?_)
     have tw45 : w45.toInt = a6 := jl_i2l ew45 (by omega)
     clear ew45
     refine jx_lop c1 hm rfl rfl (fun w46 ew46 => ?_)
     have tw46 : w46.toInt = w44.toInt + w45.toInt := jl_add ew46 rfl rfl (by omega)
     clear ew46
     refine jx_ldc2 c1 hm (v := 96) rfl (by decide) ?_
     refine jx_lop c1 hm rfl rfl (fun w47 ew47 => ?_)
     have tw47 : w47.toInt = w46.toInt - 96 := jl_sub ew47 rfl (by decide) (by omega)
     clear ew47
     refine jx_stor c1 hm (L' := [some (.inl a0), some (.inl a1), some (.inl a2), some (.inl a3), some (.inl a4), some (.inl a5), some (.inl a6), some (.inr (.inl w47)), none]) rfl rfl rfl rfl rfl ?_
     refine jx_load c1 hm rfl rfl rfl rfl ?_
     have bw47 : LB w47.toInt := by unfold LB; omega
     exact jx_retl c2 hm rfl rfl ⟨_, rfl, rfl, bw47, (by first | exact spx_y hs99 (by omega) (by omega) | exact spx_n hs99 (by omega) (by omega))⟩
    refine jz_le c1 hm 99 rfl rfl (fun h34 => ?_) (fun h34 => ?_)
    ·
     exact J42 w30 (by omega) (by first | exact spx_y hs78 (by omega) (by omega) | exact spx_n hs78 (by omega) (by omega))
    refine jx_ldc2 c1 hm (v := 27) rfl (by decide) ?_
    refine jx_load c1 hm rfl rfl rfl rfl ?_
    refine jx_lop c1 hm rfl rfl (fun w35 ew35 => ?_)
    have tw35 : w35.toInt = 27 * w30.toInt := jl_mul ew35 (by decide) rfl (by omega)
    clear ew35
    refine jx_load c1 hm rfl rfl rfl rfl ?_
    refine jx_i2l c1 hm rfl (fun w36 ew36 => ?_)
    have tw36 : w36.toInt = a5 := jl_i2l ew36 (by omega)
    clear ew36
    refine jx_lop c1 hm rfl rfl (fun w37 ew37 => ?_)
    have tw37 : w37.toInt = w35.toInt + w36.toInt := jl_add ew37 rfl rfl (by omega)
    clear ew37
    refine jx_ldc2 c1 hm (v := 96) rfl (by decide) ?_
    refine jx_lop c1 hm rfl rfl (fun w38 ew38 => ?_)
    have tw38 : w38.toInt = w37.toInt - 96 := jl_sub ew38 rfl (by decide) (by omega)
    clear ew38
    refine jx_stor c1 hm (L' := [some (.inl a0), some (.inl a1), some (.inl a2), some (.inl a3), some (.inl a4), some (.inl a5), some (.inl a6), some (.inr (.inl w38)), none]) rfl rfl rfl rfl rfl ?_
    exact J42 w38 (by omega) (by first | exact spx_y hs78 (by omega) (by omega) | exact spx_n hs78 (by omega) (by omega))
   refine jz_le c1 hm 78 rfl rfl (fun h25 => ?_) (fun h25 => ?_)
   ·
    exact J33 w21 (by omega) (by first | exact spx_y hs57 (by omega) (by omega) | exact spx_n hs57 (by omega) (by omega))
   refine jx_ldc2 c1 hm (v := 27) rfl (by decide) ?_
   refine jx_load c1 hm rfl rfl rfl rfl ?_
   refine jx_lop c1 hm rfl rfl (fun w26 ew26 => ?_)
   have tw26 : w26.toInt = 27 * w21.toInt := jl_mul ew26 (by decide) rfl (by omega)
   clear ew26
   refine jx_load c1 hm rfl rfl rfl rfl ?_
   refine jx_i2l c1 hm rfl (fun w27 ew27 => ?_)
   have tw27 : w27.toInt = a4 := jl_i2l ew27 (by omega)
   clear ew27
   refine jx_lop c1 hm rfl rfl (fun w28 ew28 => ?_)
   have tw28 : w28.toInt = w26.toInt + w27.toInt := jl_add ew28 rfl rfl (by omega)
   clear ew28
   refine jx_ldc2 c1 hm (v := 96) rfl (by decide) ?_
   refine jx_lop c1 hm rfl rfl (fun w29 ew29 => ?_)
   have tw29 : w29.toInt = w28.toInt - 96 := jl_sub ew29 rfl (by decide) (by omega)
   clear ew29
   refine jx_stor c1 hm (L' := [some (.inl a0), some (.inl a1), some (.inl a2), some (.inl a3), some (.inl a4), some (.inl a5), some (.inl a6), some (.inr (.inl w29)), none]) rfl rfl rfl rfl rfl ?_
   exact J33 w29 (by omega) (by first | exact spx_y hs57 (by omega) (by omega) | exact spx_n hs57 (by omega) (by omega))
  refine jz_le c1 hm 57 rfl rfl (fun h16 => ?_) (fun h16 => ?_)
  ·
   exact J24 w12 (by omega) (by first | exact spx_y hs38 (by omega) (by omega) | exact spx_n hs38 (by omega) (by omega))
  refine jx_ldc2 c1 hm (v := 27) rfl (by decide) ?_
  refine jx_load c1 hm rfl rfl rfl rfl ?_
  refine jx_lop c1 hm rfl rfl (fun w17 ew17 => ?_)
  have tw17 : w17.toInt = 27 * w12.toInt := jl_mul ew17 (by decide) rfl (by omega)
  clear ew17
  refine jx_load c1 hm rfl rfl rfl rfl ?_
  refine jx_i2l c1 hm rfl (fun w18 ew18 => ?_)
  have tw18 : w18.toInt = a3 := jl_i2l ew18 (by omega)
  clear ew18
  refine jx_lop c1 hm rfl rfl (fun w19 ew19 => ?_)
  have tw19 : w19.toInt = w17.toInt + w18.toInt := jl_add ew19 rfl rfl (by omega)
  clear ew19
  refine jx_ldc2 c1 hm (v := 96) rfl (by decide) ?_
  refine jx_lop c1 hm rfl rfl (fun w20 ew20 => ?_)
  have tw20 : w20.toInt = w19.toInt - 96 := jl_sub ew20 rfl (by decide) (by omega)
  clear ew20
  refine jx_stor c1 hm (L' := [some (.inl a0), some (.inl a1), some (.inl a2), some (.inl a3), some (.inl a4), some (.inl a5), some (.inl a6), some (.inr (.inl w20)), none]) rfl rfl rfl rfl rfl ?_
  exact J24 w20 (by omega) (by first | exact spx_y hs38 (by omega) (by omega) | exact spx_n hs38 (by omega) (by omega))
 refine jz_le c1 hm 38 rfl rfl (fun h7 => ?_) (fun h7 => ?_)
 ·
  exact J15 w6 (by omega) (by first | exact spx_y (v := 27 * (a0 - 96) + a1 - 96) (W := 27 * (a0 - 96) + a1 - 96) rfl (by omega) (by omega) | exact spx_n (v := 27 * (a0 - 96) + a1 - 96) (W := 27 * (a0 - 96) + a1 - 96) rfl (by omega) (by omega))
 refine jx_ldc2 c1 hm (v := 27) rfl (by decide) ?_
 refine jx_load c1 hm rfl rfl rfl rfl ?_
 refine jx_lop c1 hm rfl rfl (fun w8 ew8 => ?_)
 have tw8 : w8.toInt = 27 * w6.toInt := jl_mul ew8 (by decide) rfl (by omega)
 clear ew8
 refine jx_load c1 hm rfl rfl rfl rfl ?_
 refine jx_i2l c1 hm rfl (fun w9 ew9 => ?_)
 have tw9 : w9.toInt = a2 := jl_i2l ew9 (by omega)
 clear ew9
 refine jx_lop c1 hm rfl rfl (fun w10 ew10 => ?_)
 have tw10 : w10.toInt = w8.toInt + w9.toInt := jl_add ew10 rfl rfl (by omega)
 clear ew10
 refine jx_ldc2 c1 hm (v := 96) rfl (by decide) ?_
 refine jx_lop c1 hm rfl rfl (fun w11 ew11 => ?_)
 have tw11 : w11.toInt = w10.toInt - 96 := jl_sub ew11 rfl (by decide) (by omega)
 clear ew11
 refine jx_stor c1 hm (L' := [some (.inl a0), some (.inl a1), some (.inl a2), some (.inl a3), some (.inl a4), some (.inl a5), some (.inl a6), some (.inr (.inl w11)), none]) rfl rfl rfl rfl rfl ?_
 exact J15 w11 (by omega) (by first | exact spx_y (v := 27 * (a0 - 96) + a1 - 96) (W := 27 * (a0 - 96) + a1 - 96) rfl (by omega) (by omega) | exact spx_n (v := 27 * (a0 - 96) + a1 - 96) (W := 27 * (a0 - 96) + a1 - 96) rfl (by omega) (by omega))
theorem ct_X12_wordOfp (X : Int) (hX : 0 ≤ X ∧ X ≤ 100000000) (M0 : JM) (hH0 : HI X M0) (a0 : Int) (ha0 : (-2147483648) ≤ a0 ∧ a0 ≤ 2147483647) : JOk shp PJ 2 201 [.inl a0] M0 (jRl (fun v M' => M0 = M' ∧ LB v.toInt ∧ (0 ≤ a0 ∧ a0 ≤ 23 → v.toInt = kwR.getD (a0).toNat 0))) := by
 refine ⟨jr_X12_wordOf, pj_X12_wordOf, fun F c1 c2 c3 => ?_⟩
 have hm := pj_X12_wordOf
 change F 0 [some (.inl a0)] [] M0
 refine jx_load c1 hm rfl rfl rfl rfl ?_
 by_cases h1 : a0 = 0
 ·
  refine jx_tswI c1 hm 108 rfl ⟨by omega, by omega⟩ (by rw [h1] <;> rfl) rfl ?_
  refine jy_bp c1 hm rfl (by decide) ?_
  refine jy_bp c1 hm rfl (by decide) ?_
  refine jy_bp c1 hm rfl (by decide) ?_
  refine jy_ic c1 hm rfl (by decide) ?_
  refine jy_ic c1 hm rfl (by decide) ?_
  refine jy_ic c1 hm rfl (by decide) ?_
  refine jy_ic c1 hm rfl (by decide) ?_
  refine jt_l c3 hm rfl rfl pj_X12_spelt rfl rfl rfl ((ct_X12_speltp X (by omega) M0 hH0 109 ⟨by omega, by omega⟩ 97 ⟨by omega, by omega⟩ 110 ⟨by omega, by omega⟩ 0 ⟨by omega, by omega⟩ 0 ⟨by omega, by omega⟩ 0 ⟨by omega, by omega⟩ 0 ⟨by omega, by omega⟩).le (by decide)) (fun w2 _ ⟨rfl, bw2, p3⟩ => ?_)
  exact jx_retl c2 hm rfl rfl ⟨_, rfl, rfl, bw2, (fun hk9 => by rw [show a0 = 0 by omega, p3]; rfl)⟩
 by_cases h4 : a0 = 1
 ·
  refine jx_tswI c1 hm 122 rfl ⟨by omega, by omega⟩ (by rw [h4] <;> rfl) rfl ?_
  refine jy_bp c1 hm rfl (by decide) ?_
  refine jy_bp c1 hm rfl (by decide) ?_
  refine jy_bp c1 hm rfl (by decide) ?_
  refine jy_bp c1 hm rfl (by decide) ?_
  refine jy_bp c1 hm rfl (by decide) ?_
  refine jy_bp c1 hm rfl (by decide) ?_
  refine jy_bp c1 hm rfl (by decide) ?_
  refine jt_l c3 hm rfl rfl pj_X12_spelt rfl rfl rfl ((ct_X12_speltp X (by omega) M0 hH0 102 ⟨by omega, by omega⟩ 111 ⟨by omega, by omega⟩ 114 ⟨by omega, by omega⟩ 102 ⟨by omega, by omega⟩ 101 ⟨by omega, by omega⟩ 105 ⟨by omega, by omega⟩ 116 ⟨by omega, by omega⟩).le (by decide)) (fun w5 _ ⟨rfl, bw5, p6⟩ => ?_)
  exact jx_retl c2 hm rfl rfl ⟨_, rfl, rfl, bw5, (fun hk9 => by rw [show a0 = 1 by omega, p6]; rfl)⟩
 by_cases h7 : a0 = 2
 ·
  refine jx_tswI c1 hm 140 rfl ⟨by omega, by omega⟩ (by rw [h7] <;> rfl) rfl ?_
  refine jy_bp c1 hm rfl (by decide) ?_
  refine jy_bp c1 hm rfl (by decide) ?_
  refine jy_bp c1 hm rfl (by decide) ?_
  refine jy_bp c1 hm rfl (by decide) ?_
  refine jy_bp c1 hm rfl (by decide) ?_
  refine jy_ic c1 hm rfl (by decide) ?_
  refine jy_ic c1 hm rfl (by decide) ?_
  refine jt_l c3 hm rfl rfl pj_X12_spelt rfl rfl rfl ((ct_X12_speltp X (by omega) M0 hH0 109 ⟨by omega, by omega⟩ 105 ⟨by omega, by omega⟩ 110 ⟨by omega, by omega⟩ 100 ⟨by omega, by omega⟩ 115 ⟨by omega, by omega⟩ 0 ⟨by omega, by omega⟩ 0 ⟨by omega, by omega⟩).le (by decide)) (fun w8 _ ⟨rfl, bw8, p9⟩ => ?_)
  exact jx_retl c2 hm rfl rfl ⟨_, rfl, rfl, bw8, (fun hk9 => by rw [show a0 = 2 by omega, p9]; rfl)⟩
 by_cases h10 : a0 = 3
 ·
  refine jx_tswI c1 hm 156 rfl ⟨by omega, by omega⟩ (by rw [h10] <;> rfl) rfl ?_
  refine jy_bp c1 hm rfl (by decide) ?_
  refine jy_bp c1 hm rfl (by decide) ?_
  refine jy_bp c1 hm rfl (by decide) ?_
  refine jy_bp c1 hm rfl (by decide) ?_
  refine jy_ic c1 hm rfl (by decide) ?_
  refine jy_ic c1 hm rfl (by decide) ?_
  refine jy_ic c1 hm rfl (by decide) ?_
  refine jt_l c3 hm rfl rfl pj_X12_spelt rfl rfl rfl ((ct_X12_speltp X (by omega) M0 hH0 103 ⟨by omega, by omega⟩ 111 ⟨by omega, by omega⟩ 111 ⟨by omega, by omega⟩ 100 ⟨by omega, by omega⟩ 0 ⟨by omega, by omega⟩ 0 ⟨by omega, by omega⟩ 0 ⟨by omega, by omega⟩).le (by decide)) (fun w11 _ ⟨rfl, bw11, p12⟩ => ?_)
  exact jx_retl c2 hm rfl rfl ⟨_, rfl, rfl, bw11, (fun hk9 => by rw [show a0 = 3 by omega, p12]; rfl)⟩
 by_cases h13 : a0 = 4
 ·
  refine jx_tswI c1 hm 171 rfl ⟨by omega, by omega⟩ (by rw [h13] <;> rfl) rfl ?_
  refine jy_bp c1 hm rfl (by decide) ?_
  refine jy_bp c1 hm rfl (by decide) ?_
  refine jy_bp c1 hm rfl (by decide) ?_
  refine jy_bp c1 hm rfl (by decide) ?_
  refine jy_ic c1 hm rfl (by decide) ?_
  refine jy_ic c1 hm rfl (by decide) ?_
  refine jy_ic c1 hm rfl (by decide) ?_
  refine jt_l c3 hm rfl rfl pj_X12_spelt rfl rfl rfl ((ct_X12_speltp X (by omega) M0 hH0 111 ⟨by omega, by omega⟩ 119 ⟨by omega, by omega⟩ 101 ⟨by omega, by omega⟩ 115 ⟨by omega, by omega⟩ 0 ⟨by omega, by omega⟩ 0 ⟨by omega, by omega⟩ 0 ⟨by omega, by omega⟩).le (by decide)) (fun w14 _ ⟨rfl, bw14, p15⟩ => ?_)
  exact jx_retl c2 hm rfl rfl ⟨_, rfl, rfl, bw14, (fun hk9 => by rw [show a0 = 4 by omega, p15]; rfl)⟩
 by_cases h16 : a0 = 5
 ·
  refine jx_tswI c1 hm 186 rfl ⟨by omega, by omega⟩ (by rw [h16] <;> rfl) rfl ?_
  refine jy_bp c1 hm rfl (by decide) ?_
  refine jy_bp c1 hm rfl (by decide) ?_
  refine jy_bp c1 hm rfl (by decide) ?_
  refine jy_bp c1 hm rfl (by decide) ?_
  refine jy_bp c1 hm rfl (by decide) ?_
  refine jy_ic c1 hm rfl (by decide) ?_
  refine jy_ic c1 hm rfl (by decide) ?_
  refine jt_l c3 hm rfl rfl pj_X12_spelt rfl rfl rfl ((ct_X12_speltp X (by omega) M0 hH0 119 ⟨by omega, by omega⟩ 101 ⟨by omega, by omega⟩ 97 ⟨by omega, by omega⟩ 114 ⟨by omega, by omega⟩ 115 ⟨by omega, by omega⟩ 0 ⟨by omega, by omega⟩ 0 ⟨by omega, by omega⟩).le (by decide)) (fun w17 _ ⟨rfl, bw17, p18⟩ => ?_)
  exact jx_retl c2 hm rfl rfl ⟨_, rfl, rfl, bw17, (fun hk9 => by rw [show a0 = 5 by omega, p18]; rfl)⟩
 by_cases h19 : a0 = 6
 ·
  refine jx_tswI c1 hm 202 rfl ⟨by omega, by omega⟩ (by rw [h19] <;> rfl) rfl ?_
  refine jy_bp c1 hm rfl (by decide) ?_
  refine jy_bp c1 hm rfl (by decide) ?_
  refine jy_bp c1 hm rfl (by decide) ?_
  refine jy_bp c1 hm rfl (by decide) ?_
  refine jy_bp c1 hm rfl (by decide) ?_
  refine jy_ic c1 hm rfl (by decide) ?_
  refine jy_ic c1 hm rfl (by decide) ?_
  refine jt_l c3 hm rfl rfl pj_X12_spelt rfl rfl rfl ((ct_X12_speltp X (by omega) M0 hH0 109 ⟨by omega, by omega⟩ 101 ⟨by omega, by omega⟩ 110 ⟨by omega, by omega⟩ 100 ⟨by omega, by omega⟩ 115 ⟨by omega, by omega⟩ 0 ⟨by omega, by omega⟩ 0 ⟨by omega, by omega⟩).le (by decide)) (fun w20 _ ⟨rfl, bw20, p21⟩ => ?_)
  exact jx_retl c2 hm rfl rfl ⟨_, rfl, rfl, bw20, (fun hk9 => by rw [show a0 = 6 by omega, p21]; rfl)⟩
 by_cases h22 : a0 = 7
 ·
  refine jx_tswI c1 hm 218 rfl ⟨by omega, by omega⟩ (by rw [h22] <;> rfl) rfl ?_
  refine jy_bp c1 hm rfl (by decide) ?_
  refine jy_bp c1 hm rfl (by decide) ?_
  refine jy_bp c1 hm rfl (by decide) ?_
  refine jy_bp c1 hm rfl (by decide) ?_
  refine jy_ic c1 hm rfl (by decide) ?_
  refine jy_ic c1 hm rfl (by decide) ?_
  refine jy_ic c1 hm rfl (by decide) ?_
  refine jt_l c3 hm rfl rfl pj_X12_spelt rfl rfl rfl ((ct_X12_speltp X (by omega) M0 hH0 100 ⟨by omega, by omega⟩ 111 ⟨by omega, by omega⟩ 101 ⟨by omega, by omega⟩ 115 ⟨by omega, by omega⟩ 0 ⟨by omega, by omega⟩ 0 ⟨by omega, by omega⟩ 0 ⟨by omega, by omega⟩).le (by decide)) (fun w23 _ ⟨rfl, bw23, p24⟩ => ?_)
  exact jx_retl c2 hm rfl rfl ⟨_, rfl, rfl, bw23, (fun hk9 => by rw [show a0 = 7 by omega, p24]; rfl)⟩
 by_cases h25 : a0 = 8
 ·
  refine jx_tswI c1 hm 233 rfl ⟨by omega, by omega⟩ (by rw [h25] <;> rfl) rfl ?_
  refine jy_bp c1 hm rfl (by decide) ?_
  refine jy_bp c1 hm rfl (by decide) ?_
  refine jy_bp c1 hm rfl (by decide) ?_
  refine jy_bp c1 hm rfl (by decide) ?_
  refine jy_ic c1 hm rfl (by decide) ?_
  refine jy_ic c1 hm rfl (by decide) ?_
  refine jy_ic c1 hm rfl (by decide) ?_
  refine jt_l c3 hm rfl rfl pj_X12_spelt rfl rfl rfl ((ct_X12_speltp X (by omega) M0 hH0 98 ⟨by omega, by omega⟩ 117 ⟨by omega, by omega⟩ 121 ⟨by omega, by omega⟩ 115 ⟨by omega, by omega⟩ 0 ⟨by omega, by omega⟩ 0 ⟨by omega, by omega⟩ 0 ⟨by omega, by omega⟩).le (by decide)) (fun w26 _ ⟨rfl, bw26, p27⟩ => ?_)
  exact jx_retl c2 hm rfl rfl ⟨_, rfl, rfl, bw26, (fun hk9 => by rw [show a0 = 8 by omega, p27]; rfl)⟩
 by_cases h28 : a0 = 9
 ·
  refine jx_tswI c1 hm 248 rfl ⟨by omega, by omega⟩ (by rw [h28] <;> rfl) rfl ?_
  refine jy_bp c1 hm rfl (by decide) ?_
  refine jy_bp c1 hm rfl (by decide) ?_
  refine jy_bp c1 hm rfl (by decide) ?_
  refine jy_bp c1 hm rfl (by decide) ?_
  refine jy_bp c1 hm rfl (by decide) ?_
  refine jy_ic c1 hm rfl (by decide) ?_
  refine jy_ic c1 hm rfl (by decide) ?_
  refine jt_l c3 hm rfl rfl pj_X12_spelt rfl rfl rfl ((ct_X12_speltp X (by omega) M0 hH0 108 ⟨by omega, by omega⟩ 101 ⟨by omega, by omega⟩ 110 ⟨by omega, by omega⟩ 100 ⟨by omega, by omega⟩ 115 ⟨by omega, by omega⟩ 0 ⟨by omega, by omega⟩ 0 ⟨by omega, by omega⟩).le (by decide)) (fun w29 _ ⟨rfl, bw29, p30⟩ => ?_)
  exact jx_retl c2 hm rfl rfl ⟨_, rfl, rfl, bw29, (fun hk9 => by rw [show a0 = 9 by omega, p30]; rfl)⟩
 by_cases h31 : a0 = 10
 ·
  refine jx_tswI c1 hm 264 rfl ⟨by omega, by omega⟩ (by rw [h31] <;> rfl) rfl ?_
  refine jy_bp c1 hm rfl (by decide) ?_
  refine jy_bp c1 hm rfl (by decide) ?_
  refine jy_bp c1 hm rfl (by decide) ?_
  refine jy_bp c1 hm rfl (by decide) ?_
  refine jy_bp c1 hm rfl (by decide) ?_
  refine jy_bp c1 hm rfl (by decide) ?_
  refine jy_ic c1 hm rfl (by decide) ?_
  refine jt_l c3 hm rfl rfl pj_X12_spelt rfl rfl rfl ((ct_X12_speltp X (by omega) M0 hH0 114 ⟨by omega, by omega⟩ 101 ⟨by omega, by omega⟩ 112 ⟨by omega, by omega⟩ 97 ⟨by omega, by omega⟩ 121 ⟨by omega, by omega⟩ 115 ⟨by omega, by omega⟩ 0 ⟨by omega, by omega⟩).le (by decide)) (fun w32 _ ⟨rfl, bw32, p33⟩ => ?_)
  exact jx_retl c2 hm rfl rfl ⟨_, rfl, rfl, bw32, (fun hk9 => by rw [show a0 = 10 by omega, p33]; rfl)⟩
 by_cases h34 : a0 = 11
 ·
  refine jx_tswI c1 hm 281 rfl ⟨by omega, by omega⟩ (by rw [h34] <;> rfl) rfl ?_
  refine jy_bp c1 hm rfl (by decide) ?_
  refine jy_bp c1 hm rfl (by decide) ?_
  refine jy_bp c1 hm rfl (by decide) ?_
  refine jy_bp c1 hm rfl (by decide) ?_
  refine jy_bp c1 hm rfl (by decide) ?_
  refine jy_bp c1 hm rfl (by decide) ?_
  refine jy_ic c1 hm rfl (by decide) ?_
  refine jt_l c3 hm rfl rfl pj_X12_spelt rfl rfl rfl ((ct_X12_speltp X (by omega) M0 hH0 115 ⟨by omega, by omega⟩ 116 ⟨by omega, by omega⟩ 114 ⟨by omega, by omega⟩ 105 ⟨by omega, by omega⟩ 107 ⟨by omega, by omega⟩ 101 ⟨by omega, by omega⟩ 0 ⟨by omega, by omega⟩).le (by decide)) (fun w35 _ ⟨rfl, bw35, p36⟩ => ?_)
  exact jx_retl c2 hm rfl rfl ⟨_, rfl, rfl, bw35, (fun hk9 => by rw [show a0 = 11 by omega, p36]; rfl)⟩
 by_cases h37 : a0 = 12
 ·
  refine jx_tswI c1 hm 298 rfl ⟨by omega, by omega⟩ (by rw [h37] <;> rfl) rfl ?_
  refine jy_bp c1 hm rfl (by decide) ?_
  refine jy_bp c1 hm rfl (by decide) ?_
  refine jy_bp c1 hm rfl (by decide) ?_
  refine jy_bp c1 hm rfl (by decide) ?_
  refine jy_ic c1 hm rfl (by decide) ?_
  refine jy_ic c1 hm rfl (by decide) ?_
  refine jy_ic c1 hm rfl (by decide) ?_
  refine jt_l c3 hm rfl rfl pj_X12_spelt rfl rfl rfl ((ct_X12_speltp X (by omega) M0 hH0 119 ⟨by omega, by omega⟩ 101 ⟨by omega, by omega⟩ 101 ⟨by omega, by omega⟩ 107 ⟨by omega, by omega⟩ 0 ⟨by omega, by omega⟩ 0 ⟨by omega, by omega⟩ 0 ⟨by omega, by omega⟩).le (by decide)) (fun w38 _ ⟨rfl, bw38, p39⟩ => ?_)
  exact jx_retl c2 hm rfl rfl ⟨_, rfl, rfl, bw38, (fun hk9 => by rw [show a0 = 12 by omega, p39]; rfl)⟩
 by_cases h40 : a0 = 13
 ·
  refine jx_tswI c1 hm 313 rfl ⟨by omega, by omega⟩ (by rw [h40] <;> rfl) rfl ?_
  refine jy_bp c1 hm rfl (by decide) ?_
  refine jy_bp c1 hm rfl (by decide) ?_
  refine jy_ic c1 hm rfl (by decide) ?_
  refine jy_ic c1 hm rfl (by decide) ?_
  refine jy_ic c1 hm rfl (by decide) ?_
  refine jy_ic c1 hm rfl (by decide) ?_
  refine jy_ic c1 hm rfl (by decide) ?_
  refine jt_l c3 hm rfl rfl pj_X12_spelt rfl rfl rfl ((ct_X12_speltp X (by omega) M0 hH0 111 ⟨by omega, by omega⟩ 114 ⟨by omega, by omega⟩ 0 ⟨by omega, by omega⟩ 0 ⟨by omega, by omega⟩ 0 ⟨by omega, by omega⟩ 0 ⟨by omega, by omega⟩ 0 ⟨by omega, by omega⟩).le (by decide)) (fun w41 _ ⟨rfl, bw41, p42⟩ => ?_)
  exact jx_retl c2 hm rfl rfl ⟨_, rfl, rfl, bw41, (fun hk9 => by rw [show a0 = 13 by omega, p42]; rfl)⟩
 by_cases h43 : a0 = 14
 ·
  refine jx_tswI c1 hm 326 rfl ⟨by omega, by omega⟩ (by rw [h43] <;> rfl) rfl ?_
  refine jy_bp c1 hm rfl (by decide) ?_
  refine jy_bp c1 hm rfl (by decide) ?_
  refine jy_bp c1 hm rfl (by decide) ?_
  refine jy_ic c1 hm rfl (by decide) ?_
  refine jy_ic c1 hm rfl (by decide) ?_
  refine jy_ic c1 hm rfl (by decide) ?_
  refine jy_ic c1 hm rfl (by decide) ?_
  refine jt_l c3 hm rfl rfl pj_X12_spelt rfl rfl rfl ((ct_X12_speltp X (by omega) M0 hH0 97 ⟨by omega, by omega⟩ 110 ⟨by omega, by omega⟩ 100 ⟨by omega, by omega⟩ 0 ⟨by omega, by omega⟩ 0 ⟨by omega, by omega⟩ 0 ⟨by omega, by omega⟩ 0 ⟨by omega, by omega⟩).le (by decide)) (fun w44 _ ⟨rfl, bw44, p45⟩ => ?_)
  exact jx_retl c2 hm rfl rfl ⟨_, rfl, rfl, bw44, (fun hk9 => by rw [show a0 = 14 by omega, p45]; rfl)⟩
 by_cases h46 : a0 = 15
 ·
  refine jx_tswI c1 hm 340 rfl ⟨by omega, by omega⟩ (by rw [h46] <;> rfl) rfl ?_
  refine jy_bp c1 hm rfl (by decide) ?_
  refine jy_bp c1 hm rfl (by decide) ?_
  refine jy_bp c1 hm rfl (by decide) ?_
  refine jy_ic c1 hm rfl (by decide) ?_
  refine jy_ic c1 hm rfl (by decide) ?_
  refine jy_ic c1 hm rfl (by decide) ?_
  refine jy_ic c1 hm rfl (by decide) ?_
  refine jt_l c3 hm rfl rfl pj_X12_spelt rfl rfl rfl ((ct_X12_speltp X (by omega) M0 hH0 110 ⟨by omega, by omega⟩ 111 ⟨by omega, by omega⟩ 116 ⟨by omega, by omega⟩ 0 ⟨by omega, by omega⟩ 0 ⟨by omega, by omega⟩ 0 ⟨by omega, by omega⟩ 0 ⟨by omega, by omega⟩).le (by decide)) (fun w47 _ ⟨rfl, bw47, p48⟩ => ?_)
  exact jx_retl c2 hm rfl rfl ⟨_, rfl, rfl, bw47, (fun hk9 => by rw [show a0 = 15 by omega, p48]; rfl)⟩
 by_cases h49 : a0 = 16
 ·
  refine jx_tswI c1 hm 354 rfl ⟨by omega, by omega⟩ (by rw [h49] <;> rfl) rfl ?_
  refine jy_bp c1 hm rfl (by decide) ?_
  refine jy_bp c1 hm rfl (by decide) ?_
  refine jy_bp c1 hm rfl (by decide) ?_
  refine jy_bp c1 hm rfl (by decide) ?_
  refine jy_bp c1 hm rfl (by decide) ?_
  refine jy_ic c1 hm rfl (by decide) ?_
  refine jy_ic c1 hm rfl (by decide) ?_
  refine jt_l c3 hm rfl rfl pj_X12_spelt rfl rfl rfl ((ct_X12_speltp X (by omega) M0 hH0 112 ⟨by omega, by omega⟩ 114 ⟨by omega, by omega⟩ 111 ⟨by omega, by omega⟩ 117 ⟨by omega, by omega⟩ 100 ⟨by omega, by omega⟩ 0 ⟨by omega, by omega⟩ 0 ⟨by omega, by omega⟩).le (by decide)) (fun w50 _ ⟨rfl, bw50, p51⟩ => ?_)
  exact jx_retl c2 hm rfl rfl ⟨_, rfl, rfl, bw50, (fun hk9 => by rw [show a0 = 16 by omega, p51]; rfl)⟩
 by_cases h52 : a0 = 17
 ·
  refine jx_tswI c1 hm 370 rfl ⟨by omega, by omega⟩ (by rw [h52] <;> rfl) rfl ?_
  refine jy_bp c1 hm rfl (by decide) ?_
  refine jy_bp c1 hm rfl (by decide) ?_
  refine jy_bp c1 hm rfl (by decide) ?_
  refine jy_bp c1 hm rfl (by decide) ?_
  refine jy_bp c1 hm rfl (by decide) ?_
  refine jy_ic c1 hm rfl (by decide) ?_
  refine jy_ic c1 hm rfl (by decide) ?_
  refine jt_l c3 hm rfl rfl pj_X12_spelt rfl rfl rfl ((ct_X12_speltp X (by omega) M0 hH0 111 ⟨by omega, by omega⟩ 119 ⟨by omega, by omega⟩ 105 ⟨by omega, by omega⟩ 110 ⟨by omega, by omega⟩ 103 ⟨by omega, by omega⟩ 0 ⟨by omega, by omega⟩ 0 ⟨by omega, by omega⟩).le (by decide)) (fun w53 _ ⟨rfl, bw53, p54⟩ => ?_)
  exact jx_retl c2 hm rfl rfl ⟨_, rfl, rfl, bw53, (fun hk9 => by rw [show a0 = 17 by omega, p54]; rfl)⟩
 by_cases h55 : a0 = 18
 ·
  refine jx_tswI c1 hm 386 rfl ⟨by omega, by omega⟩ (by rw [h55] <;> rfl) rfl ?_
  refine jy_bp c1 hm rfl (by decide) ?_
  refine jy_bp c1 hm rfl (by decide) ?_
  refine jy_bp c1 hm rfl (by decide) ?_
  refine jy_ic c1 hm rfl (by decide) ?_
  refine jy_ic c1 hm rfl (by decide) ?_
  refine jy_ic c1 hm rfl (by decide) ?_
  refine jy_ic c1 hm rfl (by decide) ?_
  refine jt_l c3 hm rfl rfl pj_X12_spelt rfl rfl rfl ((ct_X12_speltp X (by omega) M0 hH0 104 ⟨by omega, by omega⟩ 97 ⟨by omega, by omega⟩ 115 ⟨by omega, by omega⟩ 0 ⟨by omega, by omega⟩ 0 ⟨by omega, by omega⟩ 0 ⟨by omega, by omega⟩ 0 ⟨by omega, by omega⟩).le (by decide)) (fun w56 _ ⟨rfl, bw56, p57⟩ => ?_)
  exact jx_retl c2 hm rfl rfl ⟨_, rfl, rfl, bw56, (fun hk9 => by rw [show a0 = 18 by omega, p57]; rfl)⟩
 by_cases h58 : a0 = 19
 ·
  refine jx_tswI c1 hm 400 rfl ⟨by omega, by omega⟩ (by rw [h58] <;> rfl) rfl ?_
  refine jy_bp c1 hm rfl (by decide) ?_
  refine jy_bp c1 hm rfl (by decide) ?_
  refine jy_bp c1 hm rfl (by decide) ?_
  refine jy_ic c1 hm rfl (by decide) ?_
  refine jy_ic c1 hm rfl (by decide) ?_
  refine jy_ic c1 hm rfl (by decide) ?_
  refine jy_ic c1 hm rfl (by decide) ?_
  refine jt_l c3 hm rfl rfl pj_X12_spelt rfl rfl rfl ((ct_X12_speltp X (by omega) M0 hH0 100 ⟨by omega, by omega⟩ 105 ⟨by omega, by omega⟩ 100 ⟨by omega, by omega⟩ 0 ⟨by omega, by omega⟩ 0 ⟨by omega, by omega⟩ 0 ⟨by omega, by omega⟩ 0 ⟨by omega, by omega⟩).le (by decide)) (fun w59 _ ⟨rfl, bw59, p60⟩ => ?_)
  exact jx_retl c2 hm rfl rfl ⟨_, rfl, rfl, bw59, (fun hk9 => by rw [show a0 = 19 by omega, p60]; rfl)⟩
 by_cases h61 : a0 = 20
 ·
  refine jx_tswI c1 hm 414 rfl ⟨by omega, by omega⟩ (by rw [h61] <;> rfl) rfl ?_
  refine jy_bp c1 hm rfl (by decide) ?_
  refine jy_bp c1 hm rfl (by decide) ?_
  refine jy_bp c1 hm rfl (by decide) ?_
  refine jy_bp c1 hm rfl (by decide) ?_
  refine jy_bp c1 hm rfl (by decide) ?_
  refine jy_ic c1 hm rfl (by decide) ?_
  refine jy_ic c1 hm rfl (by decide) ?_
  refine jt_l c3 hm rfl rfl pj_X12_spelt rfl rfl rfl ((ct_X12_speltp X (by omega) M0 hH0 112 ⟨by omega, by omega⟩ 114 ⟨by omega, by omega⟩ 105 ⟨by omega, by omega⟩ 100 ⟨by omega, by omega⟩ 101 ⟨by omega, by omega⟩ 0 ⟨by omega, by omega⟩ 0 ⟨by omega, by omega⟩).le (by decide)) (fun w62 _ ⟨rfl, bw62, p63⟩ => ?_)
  exact jx_retl c2 hm rfl rfl ⟨_, rfl, rfl, bw62, (fun hk9 => by rw [show a0 = 20 by omega, p63]; rfl)⟩
 by_cases h64 : a0 = 21
 ·
  refine jx_tswI c1 hm 430 rfl ⟨by omega, by omega⟩ (by rw [h64] <;> rfl) rfl ?_
  refine jy_bp c1 hm rfl (by decide) ?_
  refine jy_bp c1 hm rfl (by decide) ?_
  refine jy_bp c1 hm rfl (by decide) ?_
  refine jy_bp c1 hm rfl (by decide) ?_
  refine jy_bp c1 hm rfl (by decide) ?_
  refine jy_bp c1 hm rfl (by decide) ?_
  refine jy_ic c1 hm rfl (by decide) ?_
  refine jt_l c3 hm rfl rfl pj_X12_spelt rfl rfl rfl ((ct_X12_speltp X (by omega) M0 hH0 99 ⟨by omega, by omega⟩ 114 ⟨by omega, by omega⟩ 101 ⟨by omega, by omega⟩ 100 ⟨by omega, by omega⟩ 105 ⟨by omega, by omega⟩ 116 ⟨by omega, by omega⟩ 0 ⟨by omega, by omega⟩).le (by decide)) (fun w65 _ ⟨rfl, bw65, p66⟩ => ?_)
  exact jx_retl c2 hm rfl rfl ⟨_, rfl, rfl, bw65, (fun hk9 => by rw [show a0 = 21 by omega, p66]; rfl)⟩
 by_cases h67 : a0 = 22
 ·
  refine jx_tswI c1 hm 447 rfl ⟨by omega, by omega⟩ (by rw [h67] <;> rfl) rfl ?_
  refine jy_bp c1 hm rfl (by decide) ?_
  refine jy_bp c1 hm rfl (by decide) ?_
  refine jy_bp c1 hm rfl (by decide) ?_
  refine jy_bp c1 hm rfl (by decide) ?_
  refine jy_bp c1 hm rfl (by decide) ?_
  refine jy_ic c1 hm rfl (by decide) ?_
  refine jy_ic c1 hm rfl (by decide) ?_
  refine jt_l c3 hm rfl rfl pj_X12_spelt rfl rfl rfl ((ct_X12_speltp X (by omega) M0 hH0 100 ⟨by omega, by omega⟩ 101 ⟨by omega, by omega⟩ 98 ⟨by omega, by omega⟩ 116 ⟨by omega, by omega⟩ 115 ⟨by omega, by omega⟩ 0 ⟨by omega, by omega⟩ 0 ⟨by omega, by omega⟩).le (by decide)) (fun w68 _ ⟨rfl, bw68, p69⟩ => ?_)
  exact jx_retl c2 hm rfl rfl ⟨_, rfl, rfl, bw68, (fun hk9 => by rw [show a0 = 22 by omega, p69]; rfl)⟩
 refine jx_tswO c1 hm 463 rfl (by omega) rfl ?_
 refine jy_bp c1 hm rfl (by decide) ?_
 refine jy_bp c1 hm rfl (by decide) ?_
 refine jy_bp c1 hm rfl (by decide) ?_
 refine jy_bp c1 hm rfl (by decide) ?_
 refine jy_bp c1 hm rfl (by decide) ?_
 refine jy_bp c1 hm rfl (by decide) ?_
 refine jy_ic c1 hm rfl (by decide) ?_
 refine jt_l c3 hm rfl rfl pj_X12_spelt rfl rfl rfl ((ct_X12_speltp X (by omega) M0 hH0 110 ⟨by omega, by omega⟩ 117 ⟨by omega, by omega⟩ 109 ⟨by omega, by omega⟩ 98 ⟨by omega, by omega⟩ 101 ⟨by omega, by omega⟩ 114 ⟨by omega, by omega⟩ 0 ⟨by omega, by omega⟩).le (by decide)) (fun w70 _ ⟨rfl, bw70, p71⟩ => ?_)
 exact jx_retl c2 hm rfl rfl ⟨_, rfl, rfl, bw70, (fun hk9 => by rw [show a0 = 23 by omega, p71]; rfl)⟩
theorem ct_X12_isWord_173p (X : Int) (hX : 0 ≤ X ∧ X ≤ 100000000) (M0 : JM) (hH0 : HI X M0) (a0 : Int) (ha0 : 0 ≤ a0 ∧ a0 ≤ 23) : JOk shp PJ 3 124 [.inr (.inr (.inl 173)), .inl a0] M0 (jRi (fun v M' => M0 = M' ∧ 0 ≤ v ∧ v ≤ 1 ∧ (v = 1 → WD M0 a0) ∧ (v = 1 ∨ ¬ WD M0 a0))) := by
 refine ⟨jr_X12_isWord, pj_X12_isWord, fun F c1 c2 c3 => ?_⟩
 have hm := pj_X12_isWord
 change F 0 [some (.inr (.inr (.inl 173))), some (.inl a0)] [] M0
 refine jx_load c1 hm rfl rfl rfl rfl ?_
 obtain ⟨z1, k2, lz1, uz1⟩ := hH0.ld (c := 173) (i := 7) (A := 0) (B := 4) (bs_28_4 _ _ (by omega) (by omega))
 refine jx_geti c1 hm rfl sh_173 rfl k2 ?_
 refine jy_ic c1 hm rfl (by decide) ?_
 refine jc_ne c1 hm 24 rfl rfl (fun h3 => ?_) (fun h3 => ?_)
 ·
  refine jy_ic c1 hm rfl (by decide) ?_
  exact jx_retz c2 hm rfl rfl ⟨by omega, by omega⟩ ⟨_, rfl, rfl, by omega, by omega, (fun y => absurd y (by omega)), (Or.inr (fun y => absurd y.1 (by omega)))⟩
 refine jx_load c1 hm rfl rfl rfl rfl ?_
 obtain ⟨w4, kw4⟩ : ∃ w, M0.2 173 12 = w := ⟨_, rfl⟩
 have bw4 : LB w4.toInt := kw4 ▸ hH0.2.1 173 12 rfl
 refine jx_getl c1 hm rfl sh_173 rfl kw4 ?_
 refine jx_load c1 hm rfl rfl rfl rfl ?_
 refine jt_l c3 hm rfl rfl pj_X12_wordOf rfl rfl rfl ((ct_X12_wordOfp X (by omega) M0 hH0 a0 ⟨by omega, by omega⟩).le (by decide)) (fun w5 _ ⟨rfl, bw5, p6⟩ => ?_)
 refine jx_lcmp c1 hm rfl (fun z7 lz7 uz7 ez7 fz7 => ?_)
 skip
 refine jz_ne c1 hm 24 rfl rfl (fun h8 => ?_) (fun h8 => ?_)
 ·
  refine jy_ic c1 hm rfl (by decide) ?_
  exact jx_retz c2 hm rfl rfl ⟨by omega, by omega⟩ ⟨_, rfl, rfl, by omega, by omega, (fun y => absurd y (by omega)), (Or.inr (fun y => absurd (ez7.mpr (Int64.toInt_inj.mp (by rw [p6 (by omega), ← y.2, kw4]))) (by omega)))⟩
 refine jy_ic c1 hm rfl (by decide) ?_
 refine jx_goto c1 hm 25 rfl rfl ?_
 exact jx_retz c2 hm rfl rfl ⟨by omega, by omega⟩ ⟨_, rfl, rfl, by omega, by omega, (fun _ => ⟨by omega, by rw [kw4, ez7.mp (by omega)]; exact p6 (by omega)⟩), (Or.inl rfl)⟩
theorem ct_X12_isName_173p (X : Int) (hX : 0 ≤ X ∧ X ≤ 100000000) (M0 : JM) (hH0 : HI X M0)  : JOk shp PJ 3 121 [.inr (.inr (.inl 173))] M0 (jRi (fun v M' => M0 = M' ∧ 0 ≤ v ∧ v ≤ 1 ∧ (v = 1 → M0.1 173 7 = 2 ∧ keyS (M0.2 173 12).toInt = -1) ∧ (v = 1 ∨ M0.1 173 7 ≠ 2 ∨ 0 ≤ keyS (M0.2 173 12).toInt))) := by
 refine ⟨jr_X12_isName, pj_X12_isName, fun F c1 c2 c3 => ?_⟩
 have hm := pj_X12_isName
 change F 0 [some (.inr (.inr (.inl 173))), none] [] M0
 obtain ⟨z1, k2, lz1, uz1⟩ := hH0.ld (c := 173) (i := 7) (A := 0) (B := 4) (bs_28_4 _ _ (by omega) (by omega))
 refine jx_load c1 hm rfl rfl rfl rfl ?_
 refine jx_geti c1 hm rfl sh_173 rfl k2 ?_
 refine jy_ic c1 hm rfl (by decide) ?_
 refine jc_eq c1 hm 10 rfl rfl (fun h3 => ?_) (fun h3 => ?_)
 ·
  refine jy_ic c1 hm rfl (by decide) ?_
  refine jx_stor c1 hm (L' := [some (.inr (.inr (.inl 173))), some (.inl 0)]) rfl rfl rfl rfl rfl ?_
  have W6 : ∀ (n7 : Nat) (b4 : Int) (hb4 : 0 ≤ b4 ∧ b4 ≤ 24) (hky : keyN (M0.2 173 12).toInt (b4).toNat = -1), (-b4 + 24) < (n7 : Int) → F 12 [some (.inr (.inr (.inl 173))), some (.inl b4)] [] M0 := by
   intro n7
   induction n7 with
   | zero => intros; omega
   | succ n7 ihW6 =>
    intro b4 hb4 hky hrW6
    refine jx_load c1 hm rfl rfl rfl rfl ?_
    refine jy_bp c1 hm rfl (by decide) ?_
    refine jc_gt c1 hm 38 rfl rfl (fun h8 => ?_) (fun h8 => ?_)
    ·
     refine jy_ic c1 hm rfl (by decide) ?_
     exact jx_retz c2 hm rfl rfl ⟨by omega, by omega⟩ ⟨_, rfl, rfl, by omega, by omega, (fun _ => ⟨by omega, by have y9 := hky; rw [show b4 = 24 by omega] at y9; exact y9⟩), (Or.inl rfl)⟩
    refine jx_load c1 hm rfl rfl rfl rfl ?_
    obtain ⟨w9, kw9⟩ : ∃ w, M0.2 173 12 = w := ⟨_, rfl⟩
    have bw9 : LB w9.toInt := kw9 ▸ hH0.2.1 173 12 rfl
    refine jx_getl c1 hm rfl sh_173 rfl kw9 ?_
    refine jx_load c1 hm rfl rfl rfl rfl ?_
    refine jt_l c3 hm rfl rfl pj_X12_wordOf rfl rfl rfl ((ct_X12_wordOfp X (by omega) M0 hH0 b4 ⟨by omega, by omega⟩).le (by decide)) (fun w10 _ ⟨rfl, bw10, p11⟩ => ?_)
    refine jx_lcmp c1 hm rfl (fun z12 lz12 uz12 ez12 fz12 => ?_)
    skip
    refine jz_ne c1 hm 32 rfl rfl (fun h13 => ?_) (fun h13 => ?_)
    ·
     refine jx_iinc c1 hm (v := (b4 + 1)) (L' := [some (.inr (.inr (.inl 173))), some (.inl (b4 + 1))]) rfl rfl (by omega) (by omega) rfl ?_
     refine jx_goto c1 hm 12 rfl rfl ?_
     exact ihW6 (b4 + 1) (by omega) (keyN_ne hky (by omega) (fun y => absurd (ez12.mpr (Int64.toInt_inj.mp (by rw [p11 (by omega), y, kw9]))) (by omega))) (by omega)
    refine jy_ic c1 hm rfl (by decide) ?_
    exact jx_retz c2 hm rfl rfl ⟨by omega, by omega⟩ ⟨_, rfl, rfl, by omega, by omega, (fun y => absurd y (by omega)), (Or.inr (Or.inr (by rw [keyS_ge (i := b4) ⟨by omega, by omega⟩ (by rw [← p11 (by omega), kw9, ez12.mp (by omega)])]; omega)))⟩
  exact W6 (24 + 1 : Int).toNat 0 (by omega) rfl (by omega)
 refine jy_ic c1 hm rfl (by decide) ?_
 exact jx_retz c2 hm rfl rfl ⟨by omega, by omega⟩ ⟨_, rfl, rfl, by omega, by omega, (fun y => absurd y (by omega)), (Or.inr (Or.inl (by omega)))⟩
theorem ct_X12_isSign_173p (X : Int) (hX : 0 ≤ X ∧ X ≤ 100000000) (M0 : JM) (hH0 : HI X M0) (a0 : Int) (ha0 : (-2147483648) ≤ a0 ∧ a0 ≤ 2147483647) : JOk shp PJ 1 123 [.inr (.inr (.inl 173)), .inl a0] M0 (jRi (fun v M' => M0 = M' ∧ 0 ≤ v ∧ v ≤ 1 ∧ (v = 1 → M0.1 173 7 = 4 ∧ M0.1 173 9 = a0) ∧ (v = 1 ∨ M0.1 173 7 ≠ 4 ∨ M0.1 173 9 ≠ a0))) := by
 refine ⟨jr_X12_isSign, pj_X12_isSign, fun F c1 c2 c3 => ?_⟩
 have hm := pj_X12_isSign
 change F 0 [some (.inr (.inr (.inl 173))), some (.inl a0)] [] M0
 obtain ⟨z1, k2, lz1, uz1⟩ := hH0.ld (c := 173) (i := 7) (A := 0) (B := 4) (bs_28_4 _ _ (by omega) (by omega))
 obtain ⟨z3, k4, lz3, uz3⟩ := hH0.ld (c := 173) (i := 9) (A := (-2147483648)) (B := 2147483647) (bs_28_5 _ _ (by omega) (by omega))
 refine jx_load c1 hm rfl rfl rfl rfl ?_
 refine jx_geti c1 hm rfl sh_173 rfl k2 ?_
 refine jy_ic c1 hm rfl (by decide) ?_
 refine jc_ne c1 hm 20 rfl rfl (fun h5 => ?_) (fun h5 => ?_)
 ·
  refine jy_ic c1 hm rfl (by decide) ?_
  exact jx_retz c2 hm rfl rfl ⟨by omega, by omega⟩ ⟨_, rfl, rfl, by omega, by omega, (by omega), (by omega)⟩
 refine jx_load c1 hm rfl rfl rfl rfl ?_
 refine jx_geti c1 hm rfl sh_173 rfl k4 ?_
 refine jx_load c1 hm rfl rfl rfl rfl ?_
 refine jc_ne c1 hm 20 rfl rfl (fun h6 => ?_) (fun h6 => ?_)
 ·
  refine jy_ic c1 hm rfl (by decide) ?_
  exact jx_retz c2 hm rfl rfl ⟨by omega, by omega⟩ ⟨_, rfl, rfl, by omega, by omega, (by omega), (by omega)⟩
 refine jy_ic c1 hm rfl (by decide) ?_
 refine jx_goto c1 hm 21 rfl rfl ?_
 exact jx_retz c2 hm rfl rfl ⟨by omega, by omega⟩ ⟨_, rfl, rfl, by omega, by omega, (by omega), (by omega)⟩
def ml_X12_bad_173p : List (Nat × (Nat × Nat)) := []
def md_X12_bad_173p : List (Nat × (Nat × Nat)) := [(173, (10, 10)), (173, (11, 11))]
theorem ct_X12_bad_173p (X : Int) (hX : 0 ≤ X ∧ X ≤ 100000000) (M0 : JM) (hH0 : HI X M0) (a0 : Int) (ha0 : (-2147483648) ≤ a0 ∧ a0 ≤ 2147483647) : JOk shp PJ 1 81 [.inr (.inr (.inl 173)), .inl a0] M0 (jRi (fun v M' => HI X M' ∧ Fr md_X12_bad_173p M0 M' ∧ 0 ≤ v ∧ v ≤ 1 ∧ (v = 0) ∧ (M'.1 173 11 = M0.1 173 6) ∧ (LFr ml_X12_bad_173p M0 M'))) := by
 refine ⟨jr_X12_bad, pj_X12_bad, fun F c1 c2 c3 => ?_⟩
 have hm := pj_X12_bad
 change F 0 [some (.inr (.inr (.inl 173))), some (.inl a0)] [] M0
 have hF0 : Fr md_X12_bad_173p M0 M0 := Fr.rf _ _
 obtain ⟨z1, k2, lz1, uz1⟩ := hH0.ld (c := 173) (i := 6) (A := 0) (B := 940) (bs_28_3 _ _ (by omega) (by omega))
 refine jx_load c1 hm rfl rfl rfl rfl ?_
 refine jx_load c1 hm rfl rfl rfl rfl ?_
 obtain ⟨z3, k4, lz3, uz3⟩ := hH0.ld (c := 173) (i := 7) (A := 0) (B := 4) (bs_28_4 _ _ (by omega) (by omega))
 refine jx_geti c1 hm rfl sh_173 rfl k4 ?_
 refine jy_ic c1 hm rfl (by decide) ?_
 have J7 : ∀ (b6 : Int) (hb6 : (-2147483648) ≤ b6 ∧ b6 ≤ 2147483647), F 14 [some (.inr (.inr (.inl 173))), some (.inl a0)] [.inl b6, .inr (.inr (.inl 173))] M0 := by
  intro b6 hb6
  obtain ⟨M8, e8, hH8, hF8, k8, n8, q8⟩ := mup hH0 hF0 (c := 173) (i := 10) (v := b6) (A := (-2147483648)) (B := 2147483647) (bs_28_5 _ _ (by omega) (by omega)) ⟨by omega, by omega⟩ (jin_of 0 rfl ⟨by omega, by omega⟩)
  refine jm_puti c1 hm rfl sh_173 rfl e8 ?_
  refine jx_load c1 hm rfl rfl rfl rfl ?_
  refine jx_load c1 hm rfl rfl rfl rfl ?_
  have k9 : M8.1 173 6 = z1 := (n8 173 6 (by decide)).trans k2
  refine jx_geti c1 hm rfl sh_173 rfl k9 ?_
  obtain ⟨M10, e10, hH10, hF10, k10, n10, q10⟩ := mup hH8 hF8 (c := 173) (i := 11) (v := z1) (A := 0) (B := 940) (bs_28_6 _ _ (by omega) (by omega)) ⟨by omega, by omega⟩ (jin_of 1 rfl ⟨by omega, by omega⟩)
  refine jm_puti c1 hm rfl sh_173 rfl e10 ?_
  refine jy_ic c1 hm rfl (by decide) ?_
  have k11 : M10.1 173 6 = z1 := (n10 173 6 (by decide)).trans k9
  exact jx_retz c2 hm rfl rfl ⟨by omega, by omega⟩ ⟨_, rfl, hH10, hF10, by omega, by omega, (by omega), (by omega), (((LFr.rf _ _).eq q8).eq q10)⟩
 refine jc_ne c1 hm 13 rfl rfl (fun h5 => ?_) (fun h5 => ?_)
 ·
  refine jx_load c1 hm rfl rfl rfl rfl ?_
  exact J7 a0 (by omega)
 refine jy_ic c1 hm rfl (by decide) ?_
 refine jx_goto c1 hm 14 rfl rfl ?_
 exact J7 1 (by omega)
theorem ct_X12_isInp (X : Int) (hX : 0 ≤ X ∧ X ≤ 100000000) (M0 : JM) (hH0 : HI X M0) (a0 : Int) (ha0 : (-2147483648) ≤ a0 ∧ a0 ≤ 2147483647) (a1 : Int) (ha1 : (-2147483648) ≤ a1 ∧ a1 ≤ 2147483647) (a2 : Int) (ha2 : (-2147483648) ≤ a2 ∧ a2 ≤ 2147483647) : JOk shp PJ 1 118 [.inl a0, .inl a1, .inl a2] M0 (jRi (fun v M' => M0 = M' ∧ 0 ≤ v ∧ v ≤ 1 ∧ (v = 1 → a1 ≤ a0 ∧ a0 ≤ a2) ∧ (v = 1 ∨ a0 < a1 ∨ a2 < a0))) := by
 refine ⟨jr_X12_isIn, pj_X12_isIn, fun F c1 c2 c3 => ?_⟩
 have hm := pj_X12_isIn
 change F 0 [some (.inl a0), some (.inl a1), some (.inl a2)] [] M0
 refine jx_load c1 hm rfl rfl rfl rfl ?_
 refine jx_load c1 hm rfl rfl rfl rfl ?_
 refine jc_lt c1 hm 14 rfl rfl (fun h1 => ?_) (fun h1 => ?_)
 ·
  refine jy_ic c1 hm rfl (by decide) ?_
  exact jx_retz c2 hm rfl rfl ⟨by omega, by omega⟩ ⟨_, rfl, rfl, by omega, by omega, (by omega), (by omega)⟩
 refine jx_load c1 hm rfl rfl rfl rfl ?_
 refine jx_load c1 hm rfl rfl rfl rfl ?_
 refine jc_gt c1 hm 14 rfl rfl (fun h2 => ?_) (fun h2 => ?_)
 ·
  refine jy_ic c1 hm rfl (by decide) ?_
  exact jx_retz c2 hm rfl rfl ⟨by omega, by omega⟩ ⟨_, rfl, rfl, by omega, by omega, (by omega), (by omega)⟩
 refine jy_ic c1 hm rfl (by decide) ?_
 refine jx_goto c1 hm 15 rfl rfl ?_
 exact jx_retz c2 hm rfl rfl ⟨by omega, by omega⟩ ⟨_, rfl, rfl, by omega, by omega, (by omega), (by omega)⟩
def ml_X12_readNumber_173p : List (Nat × (Nat × Nat)) := [(173, (12, 12))]
def md_X12_readNumber_173p : List (Nat × (Nat × Nat)) := [(173, (5, 5)), (173, (6, 6)), (173, (7, 7)), (173, (8, 8)), (173, (9, 9)), (173, (10, 10)), (173, (11, 11)), (173, (13, 13))]
theorem ct_X12_readNumber_173p (X : Int) (hX : 0 ≤ X ∧ X ≤ 100000000) (M0 : JM) (hH0 : HI X M0) (a0 : Int) (ha0 : 0 ≤ a0 ∧ a0 ≤ 1) (a1 : Int) (ha1 : 0 ≤ a1 ∧ a1 ≤ 999) : JOk shp PJ 3 167 [.inr (.inr (.inl 173)), .inl a0, .inl a1] M0 (jRi (fun v M' => HI X M' ∧ Fr md_X12_readNumber_173p M0 M' ∧ 0 ≤ v ∧ v ≤ 1 ∧ (v = 1 → a0 ≤ M'.1 173 13 ∧ M'.1 173 13 ≤ a1) ∧ (∀ (t : TXT) (σ : PSt), RS M0 t σ → LRr t (numS t a0 a1 σ) v M') ∧ (LFr ml_X12_readNumber_173p M0 M'))) := by
 refine ⟨jr_X12_readNumber, pj_X12_readNumber, fun F c1 c2 c3 => ?_⟩
 have hm := pj_X12_readNumber
 change F 0 [some (.inr (.inr (.inl 173))), some (.inl a0), some (.inl a1)] [] M0
 have hF0 : Fr md_X12_readNumber_173p M0 M0 := Fr.rf _ _
 obtain ⟨z1, k2, lz1, uz1⟩ := hH0.ld (c := 173) (i := 7) (A := 0) (B := 4) (bs_28_4 _ _ (by omega) (by omega))
 obtain ⟨z3, k4, lz3, uz3⟩ := hH0.ld (c := 173) (i := 8) (A := (-2147483648)) (B := 2147483647) (bs_28_5 _ _ (by omega) (by omega))
 refine jx_load c1 hm rfl rfl rfl rfl ?_
 refine jx_geti c1 hm rfl sh_173 rfl k2 ?_
 refine jy_ic c1 hm rfl (by decide) ?_
 refine jc_eq c1 hm 14 rfl rfl (fun h5 => ?_) (fun h5 => ?_)
 ·
  refine jx_load c1 hm rfl rfl rfl rfl ?_
  refine jx_geti c1 hm rfl sh_173 rfl k4 ?_
  refine jx_load c1 hm rfl rfl rfl rfl ?_
  refine jx_load c1 hm rfl rfl rfl rfl ?_
  refine jt_i c3 hm rfl rfl pj_X12_isIn rfl rfl rfl ((ct_X12_isInp X (by omega) M0 hH0 z3 ⟨by omega, by omega⟩ a0 ⟨by omega, by omega⟩ a1 ⟨by omega, by omega⟩).le (by decide)) (fun z6 _ ⟨rfl, lz6, uz6, p7, p8⟩ => ?_)
  refine jz_ne c1 hm 32 rfl rfl (fun h9 => ?_) (fun h9 => ?_)
  ·
   refine jx_load c1 hm rfl rfl rfl rfl ?_
   refine jx_load c1 hm rfl rfl rfl rfl ?_
   refine jx_geti c1 hm rfl sh_173 rfl k4 ?_
   obtain ⟨M10, e10, hH10, hF10, k10, n10, q10⟩ := mup hH0 hF0 (c := 173) (i := 13) (v := z3) (A := (-2147483648)) (B := 2147483647) (bs_28_7 _ _ (by omega) (by omega)) ⟨by omega, by omega⟩ (jin_of 7 rfl ⟨by omega, by omega⟩)
   refine jm_puti c1 hm rfl sh_173 rfl e10 ?_
   refine jx_load c1 hm rfl rfl rfl rfl ?_
   obtain ⟨z11, k12, lz11, uz11⟩ := hH10.ld (c := 173) (i := 5) (A := 0) (B := 940) (bs_28_3 _ _ (by omega) (by omega))
   refine jv_v c3 hm rfl pj_X12_go rfl rfl ⟨_, _, _, rfl, sh_173⟩ rfl ((ct_X12_go_173p X (by omega) M10 hH10 ).le (by decide)) (fun M15 ⟨hH15, hR15, p13, p14⟩ => ?_)
   have hF15 := hF10.tr hR15 (by decide +kernel)
   refine jy_ic c1 hm rfl (by decide) ?_
   have k16 : M15.1 173 13 = z3 := (hR15 173 13 (by decide +kernel)).trans k10
   exact jx_retz c2 hm rfl rfl ⟨by omega, by omega⟩ ⟨_, rfl, hH15, hF15, by omega, by omega, (by omega), (fun t σ hσ => rnum_go hσ (by omega) ⟨by omega, by omega⟩ (RS.st hσ n10 q10 rfl) rfl p13 hR15 p14 (by decide +kernel)), (((LFr.rf _ _).eq q10).tr p14 (by decide +kernel))⟩
  refine jx_load c1 hm rfl rfl rfl rfl ?_
  refine jy_ic c1 hm rfl (by decide) ?_
  obtain ⟨z17, k18, lz17, uz17⟩ := hH0.ld (c := 173) (i := 6) (A := 0) (B := 940) (bs_28_3 _ _ (by omega) (by omega))
  refine jv_i c3 hm rfl pj_X12_bad rfl rfl ⟨_, _, _, rfl, sh_173⟩ rfl ((ct_X12_bad_173p X (by omega) M0 hH0 2 ⟨by omega, by omega⟩).le (by decide)) (fun z19 M23 ⟨hH23, hR23, lz19, uz19, p20, p21, p22⟩ => ?_)
  have hF23 := hF0.tr hR23 (by decide +kernel)
  obtain ⟨z24, k25, lz24, uz24⟩ := hH23.ld (c := 173) (i := 11) (A := 0) (B := 940) (bs_28_6 _ _ (by omega) (by omega))
  obtain ⟨z26, k27, lz26, uz26⟩ := hH23.ld (c := 173) (i := 13) (A := (-2147483648)) (B := 2147483647) (bs_28_7 _ _ (by omega) (by omega))
  exact jx_retz c2 hm rfl rfl ⟨by omega, by omega⟩ ⟨_, rfl, hH23, hF23, by omega, by omega, (by omega), (fun t σ hσ => rnum_no hσ (by omega) (by omega) (by omega)), ((LFr.rf _ _).tr p22 (by decide +kernel))⟩
 refine jx_load c1 hm rfl rfl rfl rfl ?_
 refine jy_ic c1 hm rfl (by decide) ?_
 obtain ⟨z28, k29, lz28, uz28⟩ := hH0.ld (c := 173) (i := 6) (A := 0) (B := 940) (bs_28_3 _ _ (by omega) (by omega))
 refine jv_i c3 hm rfl pj_X12_bad rfl rfl ⟨_, _, _, rfl, sh_173⟩ rfl ((ct_X12_bad_173p X (by omega) M0 hH0 1 ⟨by omega, by omega⟩).le (by decide)) (fun z30 M34 ⟨hH34, hR34, lz30, uz30, p31, p32, p33⟩ => ?_)
 have hF34 := hF0.tr hR34 (by decide +kernel)
 obtain ⟨z35, k36, lz35, uz35⟩ := hH34.ld (c := 173) (i := 11) (A := 0) (B := 940) (bs_28_6 _ _ (by omega) (by omega))
 obtain ⟨z37, k38, lz37, uz37⟩ := hH34.ld (c := 173) (i := 13) (A := (-2147483648)) (B := 2147483647) (bs_28_7 _ _ (by omega) (by omega))
 exact jx_retz c2 hm rfl rfl ⟨by omega, by omega⟩ ⟨_, rfl, hH34, hF34, by omega, by omega, (by omega), (fun t σ hσ => rnum_no hσ (by omega) (by omega) (by omega)), ((LFr.rf _ _).tr p33 (by decide +kernel))⟩
def ml_X12_readEnd_173p : List (Nat × (Nat × Nat)) := [(173, (12, 12))]
def md_X12_readEnd_173p : List (Nat × (Nat × Nat)) := [(173, (5, 5)), (173, (6, 6)), (173, (7, 7)), (173, (8, 8)), (173, (9, 9)), (173, (10, 10)), (173, (11, 11))]
theorem ct_X12_readEnd_173p (X : Int) (hX : 0 ≤ X ∧ X ≤ 100000000) (M0 : JM) (hH0 : HI X M0)  : JOk shp PJ 3 157 [.inr (.inr (.inl 173))] M0 (jRi (fun v M' => HI X M' ∧ Fr md_X12_readEnd_173p M0 M' ∧ 0 ≤ v ∧ v ≤ 1 ∧ (∀ (t : TXT) (σ : PSt), RS M0 t σ → LRr t (endS t σ) v M') ∧ (LFr ml_X12_readEnd_173p M0 M'))) := by
 refine ⟨jr_X12_readEnd, pj_X12_readEnd, fun F c1 c2 c3 => ?_⟩
 have hm := pj_X12_readEnd
 change F 0 [some (.inr (.inr (.inl 173)))] [] M0
 have hF0 : Fr md_X12_readEnd_173p M0 M0 := Fr.rf _ _
 refine jx_load c1 hm rfl rfl rfl rfl ?_
 refine jy_bp c1 hm rfl (by decide) ?_
 obtain ⟨z1, k2, lz1, uz1⟩ := hH0.ld (c := 173) (i := 9) (A := (-2147483648)) (B := 2147483647) (bs_28_5 _ _ (by omega) (by omega))
 obtain ⟨z3, k4, lz3, uz3⟩ := hH0.ld (c := 173) (i := 7) (A := 0) (B := 4) (bs_28_4 _ _ (by omega) (by omega))
 refine jv_i c3 hm rfl pj_X12_isSign rfl rfl ⟨_, _, _, rfl, sh_173⟩ rfl ((ct_X12_isSign_173p X (by omega) M0 hH0 59 ⟨by omega, by omega⟩).le (by decide)) (fun z5 _ ⟨rfl, lz5, uz5, p6, p7⟩ => ?_)
 refine jz_ne c1 hm 15 rfl rfl (fun h8 => ?_) (fun h8 => ?_)
 ·
  refine jx_load c1 hm rfl rfl rfl rfl ?_
  obtain ⟨z9, k10, lz9, uz9⟩ := hH0.ld (c := 173) (i := 5) (A := 0) (B := 940) (bs_28_3 _ _ (by omega) (by omega))
  refine jv_v c3 hm rfl pj_X12_go rfl rfl ⟨_, _, _, rfl, sh_173⟩ rfl ((ct_X12_go_173p X (by omega) M0 hH0 ).le (by decide)) (fun M13 ⟨hH13, hR13, p11, p12⟩ => ?_)
  have hF13 := hF0.tr hR13 (by decide +kernel)
  refine jy_ic c1 hm rfl (by decide) ?_
  exact jx_retz c2 hm rfl rfl ⟨by omega, by omega⟩ ⟨_, rfl, hH13, hF13, by omega, by omega, (fun t σ hσ => rend_go hσ (by omega) (by omega) rfl p11 hR13 p12 (by decide +kernel)), ((LFr.rf _ _).tr p12 (by decide +kernel))⟩
 refine jx_load c1 hm rfl rfl rfl rfl ?_
 refine jy_ic c1 hm rfl (by decide) ?_
 obtain ⟨z14, k15, lz14, uz14⟩ := hH0.ld (c := 173) (i := 6) (A := 0) (B := 940) (bs_28_3 _ _ (by omega) (by omega))
 refine jv_i c3 hm rfl pj_X12_bad rfl rfl ⟨_, _, _, rfl, sh_173⟩ rfl ((ct_X12_bad_173p X (by omega) M0 hH0 1 ⟨by omega, by omega⟩).le (by decide)) (fun z16 M20 ⟨hH20, hR20, lz16, uz16, p17, p18, p19⟩ => ?_)
 have hF20 := hF0.tr hR20 (by decide +kernel)
 obtain ⟨z21, k22, lz21, uz21⟩ := hH20.ld (c := 173) (i := 11) (A := 0) (B := 940) (bs_28_6 _ _ (by omega) (by omega))
 exact jx_retz c2 hm rfl rfl ⟨by omega, by omega⟩ ⟨_, rfl, hH20, hF20, by omega, by omega, (fun t σ hσ => rend_no hσ (by omega) (by omega) (by omega)), ((LFr.rf _ _).tr p19 (by decide +kernel))⟩
def ml_X12_readFirst_173p : List (Nat × (Nat × Nat)) := [(173, (12, 12))]
def md_X12_readFirst_173p : List (Nat × (Nat × Nat)) := [(173, (5, 5)), (173, (6, 6)), (173, (7, 7)), (173, (8, 8)), (173, (9, 9)), (173, (10, 10)), (173, (11, 11))]
theorem ct_X12_readFirst_173p (X : Int) (hX : 0 ≤ X ∧ X ≤ 100000000) (M0 : JM) (hH0 : HI X M0) (a0 : Int) (ha0 : 0 ≤ a0 ∧ a0 ≤ 2) (a1 : Int) (ha1 : 6 ≤ a1 ∧ a1 ≤ 6) : JOk shp PJ 3 158 [.inr (.inr (.inl 173)), .inl a0, .inl a1] M0 (jRi (fun v M' => HI X M' ∧ Fr md_X12_readFirst_173p M0 M' ∧ 0 ≤ v ∧ v ≤ 1 ∧ (a0 ≠ 0 ∨ v = 0 ∨ M0.1 176 0 ≤ 5) ∧ (a0 ≠ 1 ∨ v = 0 ∨ M0.1 176 1 ≤ 5) ∧ (a0 ≠ 2 ∨ v = 0 ∨ M0.1 176 2 ≤ 5) ∧ (∀ (t : TXT) (σ : PSt), RS M0 t σ → 2 ≤ kK t σ → LRr t (firstS t (a0).toNat σ) v M') ∧ (LFr ml_X12_readFirst_173p M0 M'))) := by
 refine ⟨jr_X12_readFirst, pj_X12_readFirst, fun F c1 c2 c3 => ?_⟩
 have hm := pj_X12_readFirst
 change F 0 [some (.inr (.inr (.inl 173))), some (.inl a0), some (.inl a1)] [] M0
 have hF0 : Fr md_X12_readFirst_173p M0 M0 := Fr.rf _ _
 obtain ⟨z1, k2, lz1, uz1⟩ := hH0.ld (c := 176) (i := 0) (A := 0) (B := 6) (bs_12_0 _ _ (by omega) (by omega))
 obtain ⟨z3, k4, lz3, uz3⟩ := hH0.ld (c := 176) (i := 1) (A := 0) (B := 6) (bs_12_0 _ _ (by omega) (by omega))
 obtain ⟨z5, k6, lz5, uz5⟩ := hH0.ld (c := 176) (i := 2) (A := 0) (B := 6) (bs_12_0 _ _ (by omega) (by omega))
 refine jx_load c1 hm rfl rfl rfl rfl ?_
 refine jx_getr c1 hm rfl sh_173 rfl ?_
 refine jx_load c1 hm rfl rfl rfl rfl ?_
 obtain ⟨z7, k8, lz7, uz7⟩ := hH0.ld (c := 176) (i := (a0).toNat) (A := 0) (B := 6) (bs_12_0 _ _ (by omega) (by omega))
 refine jx_iald c1 hm rfl sh_176 ⟨by omega, by omega⟩ k8 ?_
 refine jx_load c1 hm rfl rfl rfl rfl ?_
 skip
 refine jc_ne c1 hm 16 rfl rfl (fun h9 => ?_) (fun h9 => ?_)
 ·
  refine jx_load c1 hm rfl rfl rfl rfl ?_
  obtain ⟨z10, k11, lz10, uz10⟩ := hH0.ld (c := 173) (i := 5) (A := 0) (B := 940) (bs_28_3 _ _ (by omega) (by omega))
  refine jv_v c3 hm rfl pj_X12_go rfl rfl ⟨_, _, _, rfl, sh_173⟩ rfl ((ct_X12_go_173p X (by omega) M0 hH0 ).le (by decide)) (fun M14 ⟨hH14, hR14, p12, p13⟩ => ?_)
  have hF14 := hF0.tr hR14 (by decide +kernel)
  refine jy_ic c1 hm rfl (by decide) ?_
  have k15 : M14.1 176 0 = z1 := (hR14 176 0 (by decide +kernel)).trans k2
  have k16 : M14.1 176 1 = z3 := (hR14 176 1 (by decide +kernel)).trans k4
  have k17 : M14.1 176 2 = z5 := (hR14 176 2 (by decide +kernel)).trans k6
  exact jx_retz c2 hm rfl rfl ⟨by omega, by omega⟩ ⟨_, rfl, hH14, hF14, by omega, by omega, (rf_k (j := 0) rfl k8 (by omega)), (rf_k (j := 1) rfl k8 (by omega)), (rf_k (j := 2) rfl k8 (by omega)), (fun t σ hσ hk => rfst_go hσ hk (by omega) (by omega) rfl p12 hR14 p13 (by decide +kernel)), ((LFr.rf _ _).tr p13 (by decide +kernel))⟩
 refine jx_load c1 hm rfl rfl rfl rfl ?_
 refine jy_ic c1 hm rfl (by decide) ?_
 obtain ⟨z18, k19, lz18, uz18⟩ := hH0.ld (c := 173) (i := 6) (A := 0) (B := 940) (bs_28_3 _ _ (by omega) (by omega))
 refine jv_i c3 hm rfl pj_X12_bad rfl rfl ⟨_, _, _, rfl, sh_173⟩ rfl ((ct_X12_bad_173p X (by omega) M0 hH0 4 ⟨by omega, by omega⟩).le (by decide)) (fun z20 M24 ⟨hH24, hR24, lz20, uz20, p21, p22, p23⟩ => ?_)
 have hF24 := hF0.tr hR24 (by decide +kernel)
 obtain ⟨z25, k26, lz25, uz25⟩ := hH24.ld (c := 173) (i := 11) (A := 0) (B := 940) (bs_28_6 _ _ (by omega) (by omega))
 have k27 : M24.1 176 0 = z1 := (hR24 176 0 (by decide +kernel)).trans k2
 have k28 : M24.1 176 1 = z3 := (hR24 176 1 (by decide +kernel)).trans k4
 have k29 : M24.1 176 2 = z5 := (hR24 176 2 (by decide +kernel)).trans k6
 exact jx_retz c2 hm rfl rfl ⟨by omega, by omega⟩ ⟨_, rfl, hH24, hF24, by omega, by omega, (rf_k (j := 0) rfl k8 (by omega)), (rf_k (j := 1) rfl k8 (by omega)), (rf_k (j := 2) rfl k8 (by omega)), (fun t σ hσ hk => rfst_no hσ (by omega) (by omega) (by omega) (by omega)), ((LFr.rf _ _).tr p23 (by decide +kernel))⟩
def ml_X12_take_173p : List (Nat × (Nat × Nat)) := []
def md_X12_take_173p : List (Nat × (Nat × Nat)) := [(173, (2, 2))]
theorem ct_X12_take_173p (X : Int) (hX : 0 ≤ X ∧ X ≤ 100000000) (M0 : JM) (hH0 : HI X M0)  : JOk shp PJ 1 188 [.inr (.inr (.inl 173))] M0 (jRi (fun v M' => HI X M' ∧ Fr md_X12_take_173p M0 M' ∧ 0 ≤ v ∧ v ≤ 940 ∧ (v = M0.1 173 2) ∧ (M'.1 173 2 = 0) ∧ (LFr ml_X12_take_173p M0 M'))) := by
 refine ⟨jr_X12_take, pj_X12_take, fun F c1 c2 c3 => ?_⟩
 have hm := pj_X12_take
 change F 0 [some (.inr (.inr (.inl 173))), none] [] M0
 have hF0 : Fr md_X12_take_173p M0 M0 := Fr.rf _ _
 obtain ⟨z1, k2, lz1, uz1⟩ := hH0.ld (c := 173) (i := 2) (A := 0) (B := 940) (bs_28_1 _ _ (by omega) (by omega))
 refine jx_load c1 hm rfl rfl rfl rfl ?_
 refine jx_geti c1 hm rfl sh_173 rfl k2 ?_
 refine jx_stor c1 hm (L' := [some (.inr (.inr (.inl 173))), some (.inl z1)]) rfl rfl rfl rfl rfl ?_
 refine jx_load c1 hm rfl rfl rfl rfl ?_
 refine jy_ic c1 hm rfl (by decide) ?_
 obtain ⟨M3, e3, hH3, hF3, k3, n3, q3⟩ := mup hH0 hF0 (c := 173) (i := 2) (v := 0) (A := 0) (B := 940) (bs_28_1 _ _ (by omega) (by omega)) ⟨by omega, by omega⟩ (jin_of 0 rfl ⟨by omega, by omega⟩)
 refine jm_puti c1 hm rfl sh_173 rfl e3 ?_
 refine jx_load c1 hm rfl rfl rfl rfl ?_
 exact jx_reti c2 hm rfl rfl ⟨_, rfl, hH3, hF3, by omega, by omega, (by omega), (by omega), ((LFr.rf _ _).eq q3)⟩
def ml_X12_begin_173p : List (Nat × (Nat × Nat)) := [(173, (12, 12))]
def md_X12_begin_173p : List (Nat × (Nat × Nat)) := [(173, (0, 0)), (173, (2, 2)), (173, (3, 3)), (173, (4, 4)), (173, (5, 5)), (173, (6, 6)), (173, (7, 7)), (173, (8, 8)), (173, (9, 9)), (173, (10, 10))]
theorem ct_X12_begin_173p (X : Int) (hX : 0 ≤ X ∧ X ≤ 100000000) (M0 : JM) (hH0 : HI X M0) (a0 : Int) (ha0 : 0 ≤ a0 ∧ a0 ≤ 900) : JOk shp PJ 3 82 [.inr (.inr (.inl 173)), .inl a0] M0 (jRv (fun M' => HI X M' ∧ Fr md_X12_begin_173p M0 M' ∧ (RTk M' (uR M0, (M0.1 173 2, a0)) 0) ∧ (M'.1 173 2 = 0) ∧ (LFr ml_X12_begin_173p M0 M'))) := by
 refine ⟨jr_X12_begin, pj_X12_begin, fun F c1 c2 c3 => ?_⟩
 have hm := pj_X12_begin
 change F 0 [some (.inr (.inr (.inl 173))), some (.inl a0)] [] M0
 have hF0 : Fr md_X12_begin_173p M0 M0 := Fr.rf _ _
 obtain ⟨z1, k2, lz1, uz1⟩ := hH0.ld (c := 173) (i := 2) (A := 0) (B := 940) (bs_28_1 _ _ (by omega) (by omega))
 refine jx_load c1 hm rfl rfl rfl rfl ?_
 refine jy_ic c1 hm rfl (by decide) ?_
 obtain ⟨M3, e3, hH3, hF3, k3, n3, q3⟩ := mup hH0 hF0 (c := 173) (i := 0) (v := 0) (A := (-2147483648)) (B := 2147483647) (bs_28_0 _ _ (by omega) (by omega)) ⟨by omega, by omega⟩ (jin_of 0 rfl ⟨by omega, by omega⟩)
 refine jm_puti c1 hm rfl sh_173 rfl e3 ?_
 refine jx_load c1 hm rfl rfl rfl rfl ?_
 refine jx_load c1 hm rfl rfl rfl rfl ?_
 have k4 : M3.1 173 2 = z1 := (n3 173 2 (by decide)).trans k2
 refine jv_i c3 hm rfl pj_X12_take rfl rfl ⟨_, _, _, rfl, sh_173⟩ rfl ((ct_X12_take_173p X (by omega) M3 hH3 ).le (by decide)) (fun z5 M9 ⟨hH9, hR9, lz5, uz5, p6, p7, p8⟩ => ?_)
 have hF9 := hF3.tr hR9 (by decide +kernel)
 obtain ⟨z10, k11, lz10, uz10⟩ := hH9.ld (c := 173) (i := 2) (A := 0) (B := 940) (bs_28_1 _ _ (by omega) (by omega))
 obtain ⟨M12, e12, hH12, hF12, k12, n12, q12⟩ := mup hH9 hF9 (c := 173) (i := 3) (v := z5) (A := 0) (B := 940) (bs_28_1 _ _ (by omega) (by omega)) ⟨by omega, by omega⟩ (jin_of 2 rfl ⟨by omega, by omega⟩)
 refine jm_puti c1 hm rfl sh_173 rfl e12 ?_
 refine jx_load c1 hm rfl rfl rfl rfl ?_
 refine jx_load c1 hm rfl rfl rfl rfl ?_
 obtain ⟨M13, e13, hH13, hF13, k13, n13, q13⟩ := mup hH12 hF12 (c := 173) (i := 4) (v := a0) (A := 0) (B := 900) (bs_28_2 _ _ (by omega) (by omega)) ⟨by omega, by omega⟩ (jin_of 3 rfl ⟨by omega, by omega⟩)
 refine jm_puti c1 hm rfl sh_173 rfl e13 ?_
 refine jx_load c1 hm rfl rfl rfl rfl ?_
 refine jy_ic c1 hm rfl (by decide) ?_
 obtain ⟨M14, e14, hH14, hF14, k14, n14, q14⟩ := mup hH13 hF13 (c := 173) (i := 10) (v := 0) (A := (-2147483648)) (B := 2147483647) (bs_28_5 _ _ (by omega) (by omega)) ⟨by omega, by omega⟩ (jin_of 9 rfl ⟨by omega, by omega⟩)
 refine jm_puti c1 hm rfl sh_173 rfl e14 ?_
 refine jx_load c1 hm rfl rfl rfl rfl ?_
 refine jy_ic c1 hm rfl (by decide) ?_
 obtain ⟨M15, e15, hH15, hF15, k15, n15, q15⟩ := mup hH14 hF14 (c := 173) (i := 5) (v := 0) (A := 0) (B := 940) (bs_28_3 _ _ (by omega) (by omega)) ⟨by omega, by omega⟩ (jin_of 4 rfl ⟨by omega, by omega⟩)
 refine jm_puti c1 hm rfl sh_173 rfl e15 ?_
 refine jx_load c1 hm rfl rfl rfl rfl ?_
 refine jv_v c3 hm rfl pj_X12_go rfl rfl ⟨_, _, _, rfl, sh_173⟩ rfl ((ct_X12_go_173p X (by omega) M15 hH15 ).le (by decide)) (fun M18 ⟨hH18, hR18, p16, p17⟩ => ?_)
 have hF18 := hF15.tr hR18 (by decide +kernel)
 have k19 : M18.1 173 2 = z10 := (hR18 173 2 (by decide +kernel)).trans ((n15 173 2 (by decide)).trans ((n14 173 2 (by decide)).trans ((n13 173 2 (by decide)).trans ((n12 173 2 (by decide)).trans k11))))
 exact jx_retv c2 hm rfl rfl ⟨rfl, hH18, hF18, (be_tx p16 (fun j => hF15 174 j rfl) ((((n15 173 3 (by decide)).trans (n14 173 3 (by decide))).trans (n13 173 3 (by decide))).trans (k12.trans (by omega))) (((n15 173 4 (by decide)).trans (n14 173 4 (by decide))).trans k13) (rfl.trans k15)), (by omega), ((((((((LFr.rf _ _).eq q3).tr p8 (by decide +kernel)).eq q12).eq q13).eq q14).eq q15).tr p17 (by decide +kernel))⟩
def ml_X12_readNew_173p : List (Nat × (Nat × Nat)) := [(173, (12, 12)), (181, (0, 17))]
def md_X12_readNew_173p : List (Nat × (Nat × Nat)) := [(173, (5, 5)), (173, (6, 6)), (173, (7, 7)), (173, (8, 8)), (173, (9, 9)), (173, (10, 10)), (173, (11, 11))]
theorem ct_X12_readNew_173p (X : Int) (hX : 0 ≤ X ∧ X ≤ 100000000) (M0 : JM) (hH0 : HI X M0) (a0 : Int) (ha0 : 0 ≤ a0 ∧ a0 ≤ 17) : JOk shp PJ 4 165 [.inr (.inr (.inl 173)), .inl a0] M0 (jRi (fun v M' => HI X M' ∧ Fr md_X12_readNew_173p M0 M' ∧ 0 ≤ v ∧ v ≤ 1 ∧ (∀ (t : TXT) (σ : PSt) (s : Nat), s < 3 → RS M0 t σ → σ.2.1 s < 6 → a0 = 6 * (s : Int) + σ.2.1 s → LRr t (newS t s σ) v M') ∧ (∀ (t : TXT) (σ : PSt), RS M0 t σ → v = 1 → kK t σ = 2 ∧ fndS σ (kV t σ) < 0 ∧ (M'.2 181 (a0).toNat).toInt = kV t σ) ∧ (LFr ml_X12_readNew_173p M0 M'))) := by
 refine ⟨jr_X12_readNew, pj_X12_readNew, fun F c1 c2 c3 => ?_⟩
 have hm := pj_X12_readNew
 change F 0 [some (.inr (.inr (.inl 173))), some (.inl a0)] [] M0
 have hF0 : Fr md_X12_readNew_173p M0 M0 := Fr.rf _ _
 refine jx_load c1 hm rfl rfl rfl rfl ?_
 obtain ⟨z1, k2, lz1, uz1⟩ := hH0.ld (c := 173) (i := 7) (A := 0) (B := 4) (bs_28_4 _ _ (by omega) (by omega))
 refine jv_i c3 hm rfl pj_X12_isName rfl rfl ⟨_, _, _, rfl, sh_173⟩ rfl ((ct_X12_isName_173p X (by omega) M0 hH0 ).le (by decide)) (fun z3 _ ⟨rfl, lz3, uz3, p4, p5⟩ => ?_)
 refine jz_ne c1 hm 13 rfl rfl (fun h6 => ?_) (fun h6 => ?_)
 ·
  refine jx_load c1 hm rfl rfl rfl rfl ?_
  refine jx_getr c1 hm rfl sh_173 rfl ?_
  refine jy_ic c1 hm rfl (by decide) ?_
  refine jx_load c1 hm rfl rfl rfl rfl ?_
  refine jx_getr c1 hm rfl sh_173 rfl ?_
  refine jy_ic c1 hm rfl (by decide) ?_
  obtain ⟨z7, k8, lz7, uz7⟩ := hH0.ld (c := 176) (i := 0) (A := 0) (B := 6) (bs_12_0 _ _ (by omega) (by omega))
  refine jx_iald c1 hm rfl sh_176 ⟨by omega, by omega⟩ k8 ?_
  refine jx_load c1 hm rfl rfl rfl rfl ?_
  obtain ⟨w9, kw9⟩ : ∃ w, M0.2 173 12 = w := ⟨_, rfl⟩
  have bw9 : LB w9.toInt := kw9 ▸ hH0.2.1 173 12 rfl
  refine jx_getl c1 hm rfl sh_173 rfl kw9 ?_
  skip
  refine jt_i c3 hm rfl rfl pj_X12_findIn rfl rfl rfl ((ct_X12_findIn_181 X (by omega) M0 hH0 0 ⟨by omega, by omega⟩ z7 ⟨by omega, by omega⟩ w9).le (by decide)) (fun z10 _ ⟨rfl, lz10, uz10, p11, p12, p13⟩ => ?_)
  skip
  refine jy_ic c1 hm rfl (by decide) ?_
  have f28 : FIN M0 0 z7 z10 w9 := ⟨by omega, p11, p13, p12⟩
  clear p11 p12 p13
  refine jc_ne c1 hm 81 rfl rfl (fun h14 => ?_) (fun h14 => ?_)
  ·
   refine jx_load c1 hm rfl rfl rfl rfl ?_
   refine jy_ic c1 hm rfl (by decide) ?_
   obtain ⟨z15, k16, lz15, uz15⟩ := hH0.ld (c := 173) (i := 6) (A := 0) (B := 940) (bs_28_3 _ _ (by omega) (by omega))
   refine jv_i c3 hm rfl pj_X12_bad rfl rfl ⟨_, _, _, rfl, sh_173⟩ rfl ((ct_X12_bad_173p X (by omega) M0 hH0 3 ⟨by omega, by omega⟩).le (by decide)) (fun z17 M21 ⟨hH21, hR21, lz17, uz17, p18, p19, p20⟩ => ?_)
   have hF21 := hF0.tr hR21 (by decide +kernel)
   obtain ⟨z22, k23, lz22, uz22⟩ := hH21.ld (c := 173) (i := 11) (A := 0) (B := 940) (bs_28_6 _ _ (by omega) (by omega))
   exact jx_retz c2 hm rfl rfl ⟨by omega, by omega⟩ ⟨_, rfl, hH21, hF21, by omega, by omega, (fun t σ s hs hσ hc hj => rnew_no hσ (Or.inr (by have y9 := FIN.hit hσ (a := 0) (by decide) f28 (by decide) k8.symm ((congrArg Int64.toInt kw9).symm.trans (hσ.word (hσ.kind.symm.trans (p4 (by omega)).1))) (by omega); omega)) (by omega) p19), (fun t σ hσ y => absurd y (by omega)), ((LFr.rf _ _).tr p20 (by decide +kernel))⟩
  refine jx_load c1 hm rfl rfl rfl rfl ?_
  refine jx_getr c1 hm rfl sh_173 rfl ?_
  refine jy_bp c1 hm rfl (by decide) ?_
  refine jx_load c1 hm rfl rfl rfl rfl ?_
  refine jx_getr c1 hm rfl sh_173 rfl ?_
  refine jy_ic c1 hm rfl (by decide) ?_
  obtain ⟨z24, k25, lz24, uz24⟩ := hH0.ld (c := 176) (i := 1) (A := 0) (B := 6) (bs_12_0 _ _ (by omega) (by omega))
  refine jx_iald c1 hm rfl sh_176 ⟨by omega, by omega⟩ k25 ?_
  refine jx_load c1 hm rfl rfl rfl rfl ?_
  refine jx_getl c1 hm rfl sh_173 rfl kw9 ?_
  skip
  refine jt_i c3 hm rfl rfl pj_X12_findIn rfl rfl rfl ((ct_X12_findIn_181 X (by omega) M0 hH0 6 ⟨by omega, by omega⟩ z24 ⟨by omega, by omega⟩ w9).le (by decide)) (fun z26 _ ⟨rfl, lz26, uz26, p27, p28, p29⟩ => ?_)
  skip
  refine jy_ic c1 hm rfl (by decide) ?_
  have f51 : FIN M0 6 z24 z26 w9 := ⟨by omega, p27, p29, p28⟩
  clear p27 p28 p29
  refine jc_ne c1 hm 81 rfl rfl (fun h30 => ?_) (fun h30 => ?_)
  ·
   refine jx_load c1 hm rfl rfl rfl rfl ?_
   refine jy_ic c1 hm rfl (by decide) ?_
   obtain ⟨z31, k32, lz31, uz31⟩ := hH0.ld (c := 173) (i := 6) (A := 0) (B := 940) (bs_28_3 _ _ (by omega) (by omega))
   refine jv_i c3 hm rfl pj_X12_bad rfl rfl ⟨_, _, _, rfl, sh_173⟩ rfl ((ct_X12_bad_173p X (by omega) M0 hH0 3 ⟨by omega, by omega⟩).le (by decide)) (fun z33 M37 ⟨hH37, hR37, lz33, uz33, p34, p35, p36⟩ => ?_)
   have hF37 := hF0.tr hR37 (by decide +kernel)
   obtain ⟨z38, k39, lz38, uz38⟩ := hH37.ld (c := 173) (i := 11) (A := 0) (B := 940) (bs_28_6 _ _ (by omega) (by omega))
   exact jx_retz c2 hm rfl rfl ⟨by omega, by omega⟩ ⟨_, rfl, hH37, hF37, by omega, by omega, (fun t σ s hs hσ hc hj => rnew_no hσ (Or.inr (by have y9 := FIN.hit hσ (a := 1) (by decide) f51 (by decide) k25.symm ((congrArg Int64.toInt kw9).symm.trans (hσ.word (hσ.kind.symm.trans (p4 (by omega)).1))) (by omega); omega)) (by omega) p35), (fun t σ hσ y => absurd y (by omega)), ((LFr.rf _ _).tr p36 (by decide +kernel))⟩
  refine jx_load c1 hm rfl rfl rfl rfl ?_
  refine jx_getr c1 hm rfl sh_173 rfl ?_
  refine jy_bp c1 hm rfl (by decide) ?_
  refine jx_load c1 hm rfl rfl rfl rfl ?_
  refine jx_getr c1 hm rfl sh_173 rfl ?_
  refine jy_ic c1 hm rfl (by decide) ?_
  obtain ⟨z40, k41, lz40, uz40⟩ := hH0.ld (c := 176) (i := 2) (A := 0) (B := 6) (bs_12_0 _ _ (by omega) (by omega))
  refine jx_iald c1 hm rfl sh_176 ⟨by omega, by omega⟩ k41 ?_
  refine jx_load c1 hm rfl rfl rfl rfl ?_
  refine jx_getl c1 hm rfl sh_173 rfl kw9 ?_
  skip
  refine jt_i c3 hm rfl rfl pj_X12_findIn rfl rfl rfl ((ct_X12_findIn_181 X (by omega) M0 hH0 12 ⟨by omega, by omega⟩ z40 ⟨by omega, by omega⟩ w9).le (by decide)) (fun z42 _ ⟨rfl, lz42, uz42, p43, p44, p45⟩ => ?_)
  skip
  refine jy_ic c1 hm rfl (by decide) ?_
  have f74 : FIN M0 12 z40 z42 w9 := ⟨by omega, p43, p45, p44⟩
  clear p43 p44 p45
  refine jc_eq c1 hm 87 rfl rfl (fun h46 => ?_) (fun h46 => ?_)
  ·
   refine jx_load c1 hm rfl rfl rfl rfl ?_
   refine jx_getr c1 hm rfl sh_173 rfl ?_
   refine jx_load c1 hm rfl rfl rfl rfl ?_
   refine jx_load c1 hm rfl rfl rfl rfl ?_
   refine jx_getl c1 hm rfl sh_173 rfl kw9 ?_
   skip
   obtain ⟨M47, e47, hH47, hF47, n47, k47, g47⟩ := mul hH0 hF0 (c := 181) (i := (a0).toNat) (v := w9) (fun _ => bw9)
   refine jm_last c1 hm rfl sh_181 ⟨by omega, by omega⟩ e47 ?_
   refine jx_load c1 hm rfl rfl rfl rfl ?_
   obtain ⟨z48, k49, lz48, uz48⟩ := hH47.ld (c := 173) (i := 5) (A := 0) (B := 940) (bs_28_3 _ _ (by omega) (by omega))
   refine jv_v c3 hm rfl pj_X12_go rfl rfl ⟨_, _, _, rfl, sh_173⟩ rfl ((ct_X12_go_173p X (by omega) M47 hH47 ).le (by decide)) (fun M52 ⟨hH52, hR52, p50, p51⟩ => ?_)
   have hF52 := hF47.tr hR52 (by decide +kernel)
   refine jy_ic c1 hm rfl (by decide) ?_
   exact jx_retz c2 hm rfl rfl ⟨by omega, by omega⟩ ⟨_, rfl, hH52, hF52, by omega, by omega, (fun t σ s hs hσ hc hj => rnew_go hσ hs hc (p4 (by omega)) (fnd_all (FIN.miss hσ (a := 0) (by decide) f28 (by decide) k8.symm ((congrArg Int64.toInt kw9).symm.trans (hσ.word (hσ.kind.symm.trans (p4 (by omega)).1))) (by omega)) (FIN.miss hσ (a := 1) (by decide) f51 (by decide) k25.symm ((congrArg Int64.toInt kw9).symm.trans (hσ.word (hσ.kind.symm.trans (p4 (by omega)).1))) (by omega)) (FIN.miss hσ (a := 2) (by decide) f74 (by decide) k41.symm ((congrArg Int64.toInt kw9).symm.trans (hσ.word (hσ.kind.symm.trans (p4 (by omega)).1))) (by omega))) hj n47 g47 rfl p50 hR52 p51 (by decide +kernel)), (fun t σ hσ _ => ⟨hσ.kind.symm.trans (p4 (by omega)).1, fnd_all (FIN.miss hσ (a := 0) (by decide) f28 (by decide) k8.symm ((congrArg Int64.toInt kw9).symm.trans (hσ.word (hσ.kind.symm.trans (p4 (by omega)).1))) (by omega)) (FIN.miss hσ (a := 1) (by decide) f51 (by decide) k25.symm ((congrArg Int64.toInt kw9).symm.trans (hσ.word (hσ.kind.symm.trans (p4 (by omega)).1))) (by omega)) (FIN.miss hσ (a := 2) (by decide) f74 (by decide) k41.symm ((congrArg Int64.toInt kw9).symm.trans (hσ.word (hσ.kind.symm.trans (p4 (by omega)).1))) (by omega)), by rw [p51 181 (a0).toNat rfl, k47]; exact ((congrArg Int64.toInt kw9).symm.trans (hσ.word (hσ.kind.symm.trans (p4 (by omega)).1)))⟩), (((LFr.rf _ _).st g47 (jin_of 1 rfl ⟨by omega, by omega⟩)).tr p51 (by decide +kernel))⟩
  refine jx_load c1 hm rfl rfl rfl rfl ?_
  refine jy_ic c1 hm rfl (by decide) ?_
  obtain ⟨z53, k54, lz53, uz53⟩ := hH0.ld (c := 173) (i := 6) (A := 0) (B := 940) (bs_28_3 _ _ (by omega) (by omega))
  refine jv_i c3 hm rfl pj_X12_bad rfl rfl ⟨_, _, _, rfl, sh_173⟩ rfl ((ct_X12_bad_173p X (by omega) M0 hH0 3 ⟨by omega, by omega⟩).le (by decide)) (fun z55 M59 ⟨hH59, hR59, lz55, uz55, p56, p57, p58⟩ => ?_)
  have hF59 := hF0.tr hR59 (by decide +kernel)
  obtain ⟨z60, k61, lz60, uz60⟩ := hH59.ld (c := 173) (i := 11) (A := 0) (B := 940) (bs_28_6 _ _ (by omega) (by omega))
  exact jx_retz c2 hm rfl rfl ⟨by omega, by omega⟩ ⟨_, rfl, hH59, hF59, by omega, by omega, (fun t σ s hs hσ hc hj => rnew_no hσ (Or.inr (by have y9 := FIN.hit hσ (a := 2) (by decide) f74 (by decide) k41.symm ((congrArg Int64.toInt kw9).symm.trans (hσ.word (hσ.kind.symm.trans (p4 (by omega)).1))) (by omega); omega)) (by omega) p57), (fun t σ hσ y => absurd y (by omega)), ((LFr.rf _ _).tr p58 (by decide +kernel))⟩
 refine jx_load c1 hm rfl rfl rfl rfl ?_
 refine jy_ic c1 hm rfl (by decide) ?_
 obtain ⟨z62, k63, lz62, uz62⟩ := hH0.ld (c := 173) (i := 6) (A := 0) (B := 940) (bs_28_3 _ _ (by omega) (by omega))
 refine jv_i c3 hm rfl pj_X12_bad rfl rfl ⟨_, _, _, rfl, sh_173⟩ rfl ((ct_X12_bad_173p X (by omega) M0 hH0 1 ⟨by omega, by omega⟩).le (by decide)) (fun z64 M68 ⟨hH68, hR68, lz64, uz64, p65, p66, p67⟩ => ?_)
 have hF68 := hF0.tr hR68 (by decide +kernel)
 obtain ⟨z69, k70, lz69, uz69⟩ := hH68.ld (c := 173) (i := 11) (A := 0) (B := 940) (bs_28_6 _ _ (by omega) (by omega))
 exact jx_retz c2 hm rfl rfl ⟨by omega, by omega⟩ ⟨_, rfl, hH68, hF68, by omega, by omega, (fun t σ s hs hσ hc hj => rnew_no hσ (Or.inl (fun y => (p5.resolve_left (by omega)).elim (fun y2 => y2 y.1) (fun y2 => absurd y2 (by have y3 := y.2; omega)))) (by omega) p66), (fun t σ hσ y => absurd y (by omega)), ((LFr.rf _ _).tr p67 (by decide +kernel))⟩
def ml_X12_isOne_173p : List (Nat × (Nat × Nat)) := []
def md_X12_isOne_173p : List (Nat × (Nat × Nat)) := [(173, (10, 10)), (173, (11, 11)), (173, (13, 13))]
theorem ct_X12_isOne_173p (X : Int) (hX : 0 ≤ X ∧ X ≤ 100000000) (M0 : JM) (hH0 : HI X M0) (a0 : Int) (ha0 : 0 ≤ a0 ∧ a0 ≤ 12) (a1 : Int) (ha1 : 0 ≤ a1 ∧ a1 ≤ 6) : JOk shp PJ 4 122 [.inr (.inr (.inl 173)), .inl a0, .inl a1] M0 (jRi (fun v M' => HI X M' ∧ Fr md_X12_isOne_173p M0 M' ∧ 0 ≤ v ∧ v ≤ 1 ∧ (v = 1 → 0 ≤ M'.1 173 13 ∧ M'.1 173 13 ≤ 5) ∧ (∀ (t : TXT) (σ : PSt) (g : Int → PSt → RES) (a : Int), 0 ≤ a ∧ a < 3 → RS M0 t σ → a0 = 6 * a → a1 = M0.1 176 a.toNat → NMR t a g σ v M') ∧ (LFr ml_X12_isOne_173p M0 M'))) := by
 refine ⟨jr_X12_isOne, pj_X12_isOne, fun F c1 c2 c3 => ?_⟩
 have hm := pj_X12_isOne
 change F 0 [some (.inr (.inr (.inl 173))), some (.inl a0), some (.inl a1)] [] M0
 have hF0 : Fr md_X12_isOne_173p M0 M0 := Fr.rf _ _
 refine jx_load c1 hm rfl rfl rfl rfl ?_
 obtain ⟨z1, k2, lz1, uz1⟩ := hH0.ld (c := 173) (i := 7) (A := 0) (B := 4) (bs_28_4 _ _ (by omega) (by omega))
 refine jv_i c3 hm rfl pj_X12_isName rfl rfl ⟨_, _, _, rfl, sh_173⟩ rfl ((ct_X12_isName_173p X (by omega) M0 hH0 ).le (by decide)) (fun z3 _ ⟨rfl, lz3, uz3, p4, p5⟩ => ?_)
 refine jz_ne c1 hm 13 rfl rfl (fun h6 => ?_) (fun h6 => ?_)
 ·
  refine jx_load c1 hm rfl rfl rfl rfl ?_
  refine jx_load c1 hm rfl rfl rfl rfl ?_
  refine jx_getr c1 hm rfl sh_173 rfl ?_
  refine jx_load c1 hm rfl rfl rfl rfl ?_
  refine jx_load c1 hm rfl rfl rfl rfl ?_
  refine jx_load c1 hm rfl rfl rfl rfl ?_
  obtain ⟨w7, kw7⟩ : ∃ w, M0.2 173 12 = w := ⟨_, rfl⟩
  have bw7 : LB w7.toInt := kw7 ▸ hH0.2.1 173 12 rfl
  refine jx_getl c1 hm rfl sh_173 rfl kw7 ?_
  skip
  refine jt_i c3 hm rfl rfl pj_X12_findIn rfl rfl rfl ((ct_X12_findIn_181 X (by omega) M0 hH0 a0 ⟨by omega, by omega⟩ a1 ⟨by omega, by omega⟩ w7).le (by decide)) (fun z8 _ ⟨rfl, lz8, uz8, p9, p10, p11⟩ => ?_)
  obtain ⟨M12, e12, hH12, hF12, k12, n12, q12⟩ := mup hH0 hF0 (c := 173) (i := 13) (v := z8) (A := (-2147483648)) (B := 2147483647) (bs_28_7 _ _ (by omega) (by omega)) ⟨by omega, by omega⟩ (jin_of 2 rfl ⟨by omega, by omega⟩)
  refine jm_puti c1 hm rfl sh_173 rfl e12 ?_
  refine jx_load c1 hm rfl rfl rfl rfl ?_
  refine jx_geti c1 hm rfl sh_173 rfl k12 ?_
  refine jy_ic c1 hm rfl (by decide) ?_
  refine jc_ne c1 hm 46 rfl rfl (fun h13 => ?_) (fun h13 => ?_)
  ·
   refine jy_ic c1 hm rfl (by decide) ?_
   refine jx_goto c1 hm 51 rfl rfl ?_
   exact jx_retz c2 hm rfl rfl ⟨by omega, by omega⟩ ⟨_, rfl, hH12, hF12, by omega, by omega, (by omega), (fun t σ g a ha hσ hb hn => rone_go hσ (p4 (by omega)) (FIN.hit hσ ha ⟨by omega, p9, p11, p10⟩ hb hn ((congrArg Int64.toInt kw7).symm.trans (hσ.word (hσ.kind.symm.trans (p4 (by omega)).1))) (by omega)) ha rfl k12 n12 q12), ((LFr.rf _ _).eq q12)⟩
  refine jx_load c1 hm rfl rfl rfl rfl ?_
  refine jy_ic c1 hm rfl (by decide) ?_
  obtain ⟨z14, k15, lz14, uz14⟩ := hH12.ld (c := 173) (i := 6) (A := 0) (B := 940) (bs_28_3 _ _ (by omega) (by omega))
  refine jv_i c3 hm rfl pj_X12_bad rfl rfl ⟨_, _, _, rfl, sh_173⟩ rfl ((ct_X12_bad_173p X (by omega) M12 hH12 3 ⟨by omega, by omega⟩).le (by decide)) (fun z16 M20 ⟨hH20, hR20, lz16, uz16, p17, p18, p19⟩ => ?_)
  have hF20 := hF12.tr hR20 (by decide +kernel)
  obtain ⟨z21, k22, lz21, uz21⟩ := hH20.ld (c := 173) (i := 11) (A := 0) (B := 940) (bs_28_6 _ _ (by omega) (by omega))
  refine jz_eq c1 hm 50 rfl rfl (fun h23 => ?_) (fun h23 => ?_)
  ·
   refine jy_ic c1 hm rfl (by decide) ?_
   have k24 : M20.1 173 13 = z8 := (hR20 173 13 (by decide +kernel)).trans k12
   exact jx_retz c2 hm rfl rfl ⟨by omega, by omega⟩ ⟨_, rfl, hH20, hF20, by omega, by omega, (by omega), (fun t σ g a ha hσ hb hn => rone_no hσ (Or.inr (FIN.miss hσ ha ⟨by omega, p9, p11, p10⟩ hb hn ((congrArg Int64.toInt kw7).symm.trans (hσ.word (hσ.kind.symm.trans (p4 (by omega)).1))) (by omega))) (by omega) (p18.trans (n12 173 6 (by decide)))), (((LFr.rf _ _).eq q12).tr p19 (by decide +kernel))⟩
  exfalso; omega
 refine jx_load c1 hm rfl rfl rfl rfl ?_
 refine jy_ic c1 hm rfl (by decide) ?_
 obtain ⟨z25, k26, lz25, uz25⟩ := hH0.ld (c := 173) (i := 6) (A := 0) (B := 940) (bs_28_3 _ _ (by omega) (by omega))
 refine jv_i c3 hm rfl pj_X12_bad rfl rfl ⟨_, _, _, rfl, sh_173⟩ rfl ((ct_X12_bad_173p X (by omega) M0 hH0 1 ⟨by omega, by omega⟩).le (by decide)) (fun z27 M31 ⟨hH31, hR31, lz27, uz27, p28, p29, p30⟩ => ?_)
 have hF31 := hF0.tr hR31 (by decide +kernel)
 obtain ⟨z32, k33, lz32, uz32⟩ := hH31.ld (c := 173) (i := 11) (A := 0) (B := 940) (bs_28_6 _ _ (by omega) (by omega))
 obtain ⟨z34, k35, lz34, uz34⟩ := hH31.ld (c := 173) (i := 13) (A := (-2147483648)) (B := 2147483647) (bs_28_7 _ _ (by omega) (by omega))
 exact jx_retz c2 hm rfl rfl ⟨by omega, by omega⟩ ⟨_, rfl, hH31, hF31, by omega, by omega, (by omega), (fun t σ g a ha hσ hb hn => rone_no hσ (Or.inl (fun y => (p5.resolve_left (by omega)).elim (fun y2 => y2 y.1) (fun y2 => absurd y2 (by have y3 := y.2; omega)))) (by omega) p29), ((LFr.rf _ _).tr p30 (by decide +kernel))⟩
def ml_X12_put_173p : List (Nat × (Nat × Nat)) := []
def md_X12_put_173p : List (Nat × (Nat × Nat)) := [(176, (3, 100))]
theorem ct_X12_put_173p (X : Int) (hX : 0 ≤ X ∧ X ≤ 100000000) (M0 : JM) (hH0 : HI X M0) (a0 : Int) (ha0 : 3 ≤ a0 ∧ a0 ≤ 100) (a1 : Int) (ha1 : 0 ≤ a1 ∧ a1 ≤ 1) (hp0 : a1 = 0 ∨ ((bnd X 176 (a0).toNat).1 ≤ M0.1 173 13 ∧ M0.1 173 13 ≤ (bnd X 176 (a0).toNat).2)) : JOk shp PJ 1 151 [.inr (.inr (.inl 173)), .inl a0, .inl a1] M0 (jRi (fun v M' => HI X M' ∧ Fr md_X12_put_173p M0 M' ∧ 0 ≤ v ∧ v ≤ 1 ∧ (v = a1) ∧ (∀ c i : Nat, ¬ (c = 176 ∧ i = (a0).toNat) → M'.1 c i = M0.1 c i) ∧ (a1 = 0 ∨ M'.1 176 (a0).toNat = M0.1 173 13) ∧ (LFr ml_X12_put_173p M0 M'))) := by
 refine ⟨jr_X12_put, pj_X12_put, fun F c1 c2 c3 => ?_⟩
 have hm := pj_X12_put
 change F 0 [some (.inr (.inr (.inl 173))), some (.inl a0), some (.inl a1)] [] M0
 have hF0 : Fr md_X12_put_173p M0 M0 := Fr.rf _ _
 obtain ⟨z1, k2, lz1, uz1⟩ := hH0.ld (c := 173) (i := 13) (A := (-2147483648)) (B := 2147483647) (bs_28_7 _ _ (by omega) (by omega))
 refine jx_load c1 hm rfl rfl rfl rfl ?_
 refine jz_eq c1 hm 14 rfl rfl (fun h3 => ?_) (fun h3 => ?_)
 ·
  refine jx_load c1 hm rfl rfl rfl rfl ?_
  exact jx_retz c2 hm rfl rfl ⟨by omega, by omega⟩ ⟨_, rfl, hH0, hF0, by omega, by omega, (by omega), (fun c i _ => rfl), (Or.inl (by omega)), (LFr.rf _ _)⟩
 refine jx_load c1 hm rfl rfl rfl rfl ?_
 refine jx_getr c1 hm rfl sh_173 rfl ?_
 refine jx_load c1 hm rfl rfl rfl rfl ?_
 refine jx_load c1 hm rfl rfl rfl rfl ?_
 refine jx_geti c1 hm rfl sh_173 rfl k2 ?_
 obtain ⟨M4, e4, hH4, hF4, k4, n4, q4⟩ := mup hH0 hF0 (c := 176) (i := (a0).toNat) (v := z1) (A := (bnd (X) 176 (a0).toNat).1) (B := (bnd (X) 176 (a0).toNat).2) rfl (by omega) (jin_of 0 rfl ⟨by omega, by omega⟩)
 refine jm_iast c1 hm rfl sh_176 ⟨by omega, by omega⟩ e4 ?_
 refine jx_load c1 hm rfl rfl rfl rfl ?_
 have k5 : M4.1 173 13 = z1 := (n4 173 13 (fun h => absurd h.1 (by decide))).trans k2
 exact jx_retz c2 hm rfl rfl ⟨by omega, by omega⟩ ⟨_, rfl, hH4, hF4, by omega, by omega, (by omega), n4, (Or.inr (by omega)), ((LFr.rf _ _).eq q4)⟩
