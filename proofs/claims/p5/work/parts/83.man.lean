/-! The class's man over plain numbers, up to its throws. -/
def jr_X11_man : MR := (yX11_man, (cX11_man, (4, ((some .int), (3, (11, jb_X11_man))))))
noncomputable def PN : Nat → Option MR := fun y => if y = 1001 then some jr_X11_man else PJ y
theorem pn_man : PN 1001 = some jr_X11_man := if_pos rfl
theorem pnp {y : Nat} {mr : MR} (h : PJ y = some mr) (hy : Nat.beq y 1001 = false) : PN y = some mr := by
  have h2 : y ≠ 1001 := fun e => by rw [e] at hy; cases hy
  unfold PN
  rw [if_neg h2]
  exact h
theorem man_walk (X : Int) (hX : 0 ≤ X ∧ X ≤ 100000000) (M0 : JM) (hH0 : HI X M0) (a0 : Int) (ha0 : (-2147483648) ≤ a0 ∧ a0 ≤ 2147483647) (a1 : Int) (ha1 : (-2147483648) ≤ a1 ∧ a1 ≤ 2147483647) (F : JP) (c1 : jstC shp PN none 1001 F) (c2 : jreC PN 1001 (jRi (fun v M => M0 = M ∧ -2147483648 ≤ v ∧ v ≤ 2147483647)) F) (c3 : jcaC shp PN (JOk shp PJ 10) 1001 F) (t12 : F 12 [some (.inr (.inr (.inl 0))), some (.inl a0), some (.inl a1), none] [] M0) (t147 : F 147 [some (.inr (.inr (.inl 0))), some (.inl a0), some (.inl a1), some (.inr (.inr (.inl 12)))] [] M0) : F 0 [some (.inr (.inr (.inl 0))), some (.inl a0), some (.inl a1), none] [] M0 := by
 have hm := pn_man
 refine jx_load c1 hm rfl rfl rfl rfl ?_
 refine jx_getr c1 hm rfl sh_0 rfl ?_
 refine jy_ic c1 hm rfl (by decide) ?_
 refine jx_load c1 hm rfl rfl rfl rfl ?_
 refine jv_i c3 hm rfl (pnp pj_X2_has rfl) rfl rfl ⟨_, _, _, rfl, sh_5⟩ rfl ((ct_X2_has_5 X (by omega) M0 hH0 0 ⟨by omega, by omega⟩ a0 ⟨by omega, by omega⟩).le (by decide)) (fun z1 _ ⟨rfl, lz1, uz1, p2⟩ => ?_)
 refine jz_ne c1 hm 20 rfl rfl (fun h3 => ?_) (fun h3 => ?_)
 ·
  refine jx_load c1 hm rfl rfl rfl rfl ?_
  refine jx_getr c1 hm rfl sh_0 rfl ?_
  refine jx_getr c1 hm rfl sh_5 rfl ?_
  refine jx_stor c1 hm (L' := [some (.inr (.inr (.inl 0))), some (.inl a0), some (.inl a1), some (.inr (.inr (.inl 12)))]) rfl rfl rfl rfl rfl ?_
  refine jx_load c1 hm rfl rfl rfl rfl ?_
  by_cases h4 : a1 = 0
  ·
   refine jx_tswI c1 hm 76 rfl ⟨by omega, by omega⟩ (by rw [h4] <;> rfl) rfl ?_
   refine jx_load c1 hm rfl rfl rfl rfl ?_
   refine jx_getr c1 hm rfl sh_12 rfl ?_
   refine jx_load c1 hm rfl rfl rfl rfl ?_
   obtain ⟨z5, k6, lz5, uz5⟩ := hH0.ld (c := 13) (i := (a0).toNat) (A := (-2147483648)) (B := 2147483647) rfl
   refine jx_iald c1 hm rfl sh_13 ⟨by omega, by omega⟩ k6 ?_
   exact jx_reti c2 hm rfl rfl ⟨_, rfl, rfl, by omega, by omega⟩
  by_cases h7 : a1 = 1
  ·
   refine jx_tswI c1 hm 83 rfl ⟨by omega, by omega⟩ (by rw [h7] <;> rfl) rfl ?_
   refine jx_load c1 hm rfl rfl rfl rfl ?_
   refine jx_getr c1 hm rfl sh_0 rfl ?_
   refine jx_getr c1 hm rfl sh_5 rfl ?_
   refine jx_load c1 hm rfl rfl rfl rfl ?_
   obtain ⟨z8, k9, lz8, uz8⟩ := hH0.ld (c := 8) (i := (a0).toNat) (A := 0) (B := 99) rfl
   refine jx_iald c1 hm rfl sh_8 ⟨by omega, by omega⟩ k9 ?_
   exact jx_reti c2 hm rfl rfl ⟨_, rfl, rfl, by omega, by omega⟩
  by_cases h10 : a1 = 2
  ·
   refine jx_tswI c1 hm 93 rfl ⟨by omega, by omega⟩ (by rw [h10] <;> rfl) rfl ?_
   refine jx_load c1 hm rfl rfl rfl rfl ?_
   refine jx_getr c1 hm rfl sh_12 rfl ?_
   refine jx_load c1 hm rfl rfl rfl rfl ?_
   obtain ⟨z11, k12, lz11, uz11⟩ := hH0.ld (c := 14) (i := (a0).toNat) (A := (-2147483648)) (B := 2147483647) rfl
   refine jx_iald c1 hm rfl sh_14 ⟨by omega, by omega⟩ k12 ?_
   exact jx_reti c2 hm rfl rfl ⟨_, rfl, rfl, by omega, by omega⟩
  by_cases h13 : a1 = 3
  ·
   refine jx_tswI c1 hm 100 rfl ⟨by omega, by omega⟩ (by rw [h13] <;> rfl) rfl ?_
   refine jx_load c1 hm rfl rfl rfl rfl ?_
   refine jx_load c1 hm rfl rfl rfl rfl ?_
   refine jv_i c3 hm rfl (pnp pj_X8_allOwedBy rfl) rfl rfl ⟨_, _, _, rfl, sh_12⟩ rfl ((ct_X8_allOwedBy_12 X (by omega) M0 hH0 a0 ⟨by omega, by omega⟩).le (by decide)) (fun z14 _ ⟨rfl, lz14, uz14⟩ => ?_)
   exact jx_reti c2 hm rfl rfl ⟨_, rfl, rfl, by omega, by omega⟩
  by_cases h15 : a1 = 4
  ·
   refine jx_tswI c1 hm 106 rfl ⟨by omega, by omega⟩ (by rw [h15] <;> rfl) rfl ?_
   refine jx_load c1 hm rfl rfl rfl rfl ?_
   refine jx_getr c1 hm rfl sh_12 rfl ?_
   refine jx_load c1 hm rfl rfl rfl rfl ?_
   refine jy_bp c1 hm rfl (by decide) ?_
   refine jy_bp c1 hm rfl (by decide) ?_
   refine jt_i c3 hm rfl rfl (pnp pj_X11_sum rfl) rfl rfl rfl ((ct_X11_sum_17 X (by omega) M0 hH0 a0 ⟨by omega, by omega⟩ 6 ⟨by omega, by omega⟩ 6 ⟨by omega, by omega⟩).le (by decide)) (fun z16 _ ⟨rfl, lz16, uz16⟩ => ?_)
   exact jx_reti c2 hm rfl rfl ⟨_, rfl, rfl, by omega, by omega⟩
  by_cases h17 : a1 = 5
  ·
   refine jx_tswI c1 hm 119 rfl ⟨by omega, by omega⟩ (by rw [h17] <;> rfl) rfl ?_
   refine jx_load c1 hm rfl rfl rfl rfl ?_
   refine jx_load c1 hm rfl rfl rfl rfl ?_
   refine jv_i c3 hm rfl (pnp pj_X11_goodsOf rfl) rfl rfl ⟨_, _, _, rfl, sh_0⟩ rfl ((ct_X11_goodsOf_0 X (by omega) M0 hH0 a0 ⟨by omega, by omega⟩).le (by decide)) (fun z18 _ ⟨rfl, lz18, uz18⟩ => ?_)
   exact jx_reti c2 hm rfl rfl ⟨_, rfl, rfl, by omega, by omega⟩
  by_cases h19 : a1 = 6
  ·
   refine jx_tswI c1 hm 125 rfl ⟨by omega, by omega⟩ (by rw [h19] <;> rfl) rfl ?_
   refine jx_load c1 hm rfl rfl rfl rfl ?_
   refine jx_getr c1 hm rfl sh_12 rfl ?_
   refine jx_load c1 hm rfl rfl rfl rfl ?_
   refine jy_bp c1 hm rfl (by decide) ?_
   refine jy_mul c1 hm (6 * a0) rfl (by omega) ?_
   refine jy_ic c1 hm rfl (by decide) ?_
   refine jy_bp c1 hm rfl (by decide) ?_
   refine jt_i c3 hm rfl rfl (pnp pj_X11_sum rfl) rfl rfl rfl ((ct_X11_sum_18 X (by omega) M0 hH0 (6 * a0) ⟨by omega, by omega⟩ 1 ⟨by omega, by omega⟩ 6 ⟨by omega, by omega⟩).le (by decide)) (fun z20 _ ⟨rfl, lz20, uz20⟩ => ?_)
   exact jx_reti c2 hm rfl rfl ⟨_, rfl, rfl, by omega, by omega⟩
  by_cases h21 : a1 = 7
  ·
   refine jx_tswI c1 hm 140 rfl ⟨by omega, by omega⟩ (by rw [h21] <;> rfl) rfl ?_
   refine jx_load c1 hm rfl rfl rfl rfl ?_
   refine jx_getr c1 hm rfl sh_12 rfl ?_
   refine jx_load c1 hm rfl rfl rfl rfl ?_
   obtain ⟨z22, k23, lz22, uz22⟩ := hH0.ld (c := 15) (i := (a0).toNat) (A := (-2147483648)) (B := 2147483647) rfl
   refine jx_iald c1 hm rfl sh_15 ⟨by omega, by omega⟩ k23 ?_
   exact jx_reti c2 hm rfl rfl ⟨_, rfl, rfl, by omega, by omega⟩
  refine jx_tswO c1 hm 147 rfl (by omega) rfl ?_
  exact t147
 exact t12
