/-! Contracts of the reference (by wip/q/wlk.py). -/
def md_X12_writeWord_173 : List (Nat × (Nat × Nat)) := [(173, (42, 42)), (194, (0, 63))]
def ST_X12_writeWord_173 (n : Nat) : Prop := ∀ (X : Int) (hX : 0 ≤ X ∧ X ≤ 100000000) (M0 : JM) (hH0 : HI X M0) (a0 : Int64) (ba0 : LB a0.toInt) (hp0 : M0.1 173 42 + lgm a0.toInt ≤ 63) (hr : lgm a0.toInt < (n : Int)), JOk shp PJ (1 * n + 2) 206 [.inr (.inr (.inl 173)), .inr (.inl a0)] M0 (jRv (fun M' => HI X M' ∧ Fr md_X12_writeWord_173 M0 M' ∧ (M'.1 173 42 = M0.1 173 42 + lgm a0.toInt + 1)))
def md_X12_write_173 : List (Nat × (Nat × Nat)) := [(173, (42, 42)), (194, (0, 63))]
theorem ct_X12_write_173 (X : Int) (hX : 0 ≤ X ∧ X ≤ 100000000) (M0 : JM) (hH0 : HI X M0) (a0 : Int) (ha0 : (-2147483648) ≤ a0 ∧ a0 ≤ 2147483647) (hp0 : M0.1 173 42 ≤ 63) : JOk shp PJ 1 203 [.inr (.inr (.inl 173)), .inl a0] M0 (jRv (fun M' => HI X M' ∧ Fr md_X12_write_173 M0 M' ∧ (M'.1 173 42 = M0.1 173 42 + 1))) := by
 refine ⟨jr_X12_write, pj_X12_write, fun F c1 c2 c3 => ?_⟩
 have hm := pj_X12_write
 change F 0 [some (.inr (.inr (.inl 173))), some (.inl a0)] [] M0
 have hF0 : Fr md_X12_write_173 M0 M0 := Fr.rf _ _
 obtain ⟨z1, k2, lz1, uz1⟩ := hH0.ld (c := 173) (i := 42) (A := 0) (B := 64) (bs_28_18 _ _ (by omega) (by omega))
 refine jx_load c1 hm rfl rfl rfl rfl ?_
 refine jx_getr c1 hm rfl sh_173 rfl ?_
 refine jx_load c1 hm rfl rfl rfl rfl ?_
 refine jx_geti c1 hm rfl sh_173 rfl k2 ?_
 refine jx_load c1 hm rfl rfl rfl rfl ?_
 obtain ⟨M3, e3, hH3, hF3, k3, n3, q3⟩ := mup hH0 hF0 (c := 194) (i := (z1).toNat) (v := a0) (A := (-2147483648)) (B := 2147483647) rfl ⟨by omega, by omega⟩ (jin_of 1 rfl ⟨by omega, by omega⟩)
 refine jm_iast c1 hm rfl sh_194 ⟨by omega, by omega⟩ e3 ?_
 refine jx_load c1 hm rfl rfl rfl rfl ?_
 refine jx_dup c1 hm rfl rfl ?_
 have k4 : M3.1 173 42 = z1 := (n3 173 42 (fun h => absurd h.1 (by decide))).trans k2
 refine jx_geti c1 hm rfl sh_173 rfl k4 ?_
 refine jy_ic c1 hm rfl (by decide) ?_
 refine jy_add c1 hm (z1 + 1) rfl (by omega) ?_
 obtain ⟨M5, e5, hH5, hF5, k5, n5, q5⟩ := mup hH3 hF3 (c := 173) (i := 42) (v := (z1 + 1)) (A := 0) (B := 64) (bs_28_18 _ _ (by omega) (by omega)) ⟨by omega, by omega⟩ (jin_of 0 rfl ⟨by omega, by omega⟩)
 refine jm_puti c1 hm rfl sh_173 rfl e5 ?_
 exact jx_retv c2 hm rfl rfl ⟨rfl, hH5, hF5, (by omega)⟩
theorem ct_X12_writeWord_173 : ∀ n : Nat, ST_X12_writeWord_173 n := by
 intro n
 induction n with
 | zero =>
  unfold ST_X12_writeWord_173
  intro X hX M0 hH0 a0 ba0 hp0 hr; have := lgm_le a0.toInt; omega
 | succ n ih =>
  unfold ST_X12_writeWord_173
  intro X hX M0 hH0 a0 ba0 hp0 hr
  refine ⟨jr_X12_writeWord, pj_X12_writeWord, fun F c1 c2 c3 => ?_⟩
  have hm := pj_X12_writeWord
  change F 0 [some (.inr (.inr (.inl 173))), some (.inr (.inl a0)), none] [] M0
  have hF0 : Fr md_X12_writeWord_173 M0 M0 := Fr.rf _ _
  obtain ⟨z1, k2, lz1, uz1⟩ := hH0.ld (c := 173) (i := 42) (A := 0) (B := 64) (bs_28_18 _ _ (by omega) (by omega))
  refine jx_load c1 hm rfl rfl rfl rfl ?_
  have hl0 : a0.toInt < 27 → lgm a0.toInt = 0 := fun h => if_pos h
  have hlb := lgm_lb ba0
  refine jx_ldc2 c1 hm (v := 27) rfl (by decide) ?_
  refine jx_lcmp c1 hm rfl (fun z3 lz3 uz3 ez3 fz3 => ?_)
  have gz3 : z3 < 0 ↔ a0.toInt < 27 := by rw [fz3, Int64.lt_iff_toInt_lt, show (27 : Int64).toInt = 27 by decide]
  refine jz_lt c1 hm 17 rfl rfl (fun h4 => ?_) (fun h4 => ?_)
  ·
   refine jx_load c1 hm rfl rfl rfl rfl ?_
   refine jy_bp c1 hm rfl (by decide) ?_
   refine jx_load c1 hm rfl rfl rfl rfl ?_
   refine jx_ldc2 c1 hm (v := 27) rfl (by decide) ?_
   refine jx_ldv c1 hm rfl rfl (by decide) (fun w5 ew5 => ?_)
   clear ew5
   refine jx_l2i c1 hm rfl (fun z6 lz6 uz6 ez6 => ?_)
   refine jx_iopw c1 hm rfl rfl (fun z7 lz7 uz7 => ?_)
   refine jv_v c3 hm rfl pj_X12_write rfl rfl ⟨_, _, _, rfl, sh_173⟩ rfl ((ct_X12_write_173 X (by omega) M0 hH0 z7 ⟨by omega, by omega⟩ (by omega)).le (by omega)) (fun M9 ⟨hH9, hR9, p8⟩ => ?_)
   have hF9 := hF0.tr hR9 (by decide +kernel)
   obtain ⟨z10, k11, lz10, uz10⟩ := hH9.ld (c := 173) (i := 42) (A := 0) (B := 64) (bs_28_18 _ _ (by omega) (by omega))
   exact jx_retv c2 hm rfl rfl ⟨rfl, hH9, hF9, (by omega)⟩
  refine jx_load c1 hm rfl rfl rfl rfl ?_
  refine jx_load c1 hm rfl rfl rfl rfl ?_
  refine jx_ldc2 c1 hm (v := 27) rfl (by decide) ?_
  refine jx_ldv c1 hm rfl rfl (by decide) (fun w12 ew12 => ?_)
  have tw12 : w12.toInt = a0.toInt / 27 := jl_div ew12 (by omega)
  clear ew12
  have bw12 : LB w12.toInt := by rw [tw12]; exact (lgm_lt (by omega) ba0).2
  have hl1 : lgm w12.toInt + 1 = lgm a0.toInt := by rw [tw12]; exact (lgm_lt (by omega) ba0).1
  have hlw12 := lgm_lb bw12
  refine jv_v c3 hm rfl pj_X12_writeWord rfl rfl ⟨_, _, _, rfl, sh_173⟩ rfl ((ih X (by omega) M0 hH0 w12 bw12 (by omega) (by omega)).le (by omega)) (fun M14 ⟨hH14, hR14, p13⟩ => ?_)
  have hF14 := hF0.tr hR14 (by decide +kernel)
  obtain ⟨z15, k16, lz15, uz15⟩ := hH14.ld (c := 173) (i := 42) (A := 0) (B := 64) (bs_28_18 _ _ (by omega) (by omega))
  refine jx_load c1 hm rfl rfl rfl rfl ?_
  refine jy_bp c1 hm rfl (by decide) ?_
  refine jx_load c1 hm rfl rfl rfl rfl ?_
  refine jx_ldc2 c1 hm (v := 27) rfl (by decide) ?_
  refine jx_ldv c1 hm rfl rfl (by decide) (fun w17 ew17 => ?_)
  clear ew17
  refine jx_l2i c1 hm rfl (fun z18 lz18 uz18 ez18 => ?_)
  refine jx_iopw c1 hm rfl rfl (fun z19 lz19 uz19 => ?_)
  refine jv_v c3 hm rfl pj_X12_write rfl rfl ⟨_, _, _, rfl, sh_173⟩ rfl ((ct_X12_write_173 X (by omega) M14 hH14 z19 ⟨by omega, by omega⟩ (by omega)).le (by omega)) (fun M21 ⟨hH21, hR21, p20⟩ => ?_)
  have hF21 := hF14.tr hR21 (by decide +kernel)
  obtain ⟨z22, k23, lz22, uz22⟩ := hH21.ld (c := 173) (i := 42) (A := 0) (B := 64) (bs_28_18 _ _ (by omega) (by omega))
  exact jx_retv c2 hm rfl rfl ⟨rfl, hH21, hF21, (by omega)⟩
def md_X12_writeNext_173 : List (Nat × (Nat × Nat)) := [(173, (42, 42)), (194, (0, 63))]
theorem ct_X12_writeNext_173 (X : Int) (hX : 0 ≤ X ∧ X ≤ 100000000) (M0 : JM) (hH0 : HI X M0) (a0 : Int64) (ba0 : LB a0.toInt) (hp0 : M0.1 173 42 + lgm a0.toInt ≤ 62) (hp1 : 0 ≤ lgm a0.toInt) : JOk shp PJ 12 204 [.inr (.inr (.inl 173)), .inr (.inl a0)] M0 (jRv (fun M' => HI X M' ∧ Fr md_X12_writeNext_173 M0 M' ∧ (M'.1 173 42 = M0.1 173 42 + lgm a0.toInt + 2))) := by
 refine ⟨jr_X12_writeNext, pj_X12_writeNext, fun F c1 c2 c3 => ?_⟩
 have hm := pj_X12_writeNext
 change F 0 [some (.inr (.inr (.inl 173))), some (.inr (.inl a0)), none] [] M0
 have hF0 : Fr md_X12_writeNext_173 M0 M0 := Fr.rf _ _
 obtain ⟨z1, k2, lz1, uz1⟩ := hH0.ld (c := 173) (i := 42) (A := 0) (B := 64) (bs_28_18 _ _ (by omega) (by omega))
 refine jx_load c1 hm rfl rfl rfl rfl ?_
 refine jy_bp c1 hm rfl (by decide) ?_
 refine jv_v c3 hm rfl pj_X12_write rfl rfl ⟨_, _, _, rfl, sh_173⟩ rfl ((ct_X12_write_173 X (by omega) M0 hH0 32 ⟨by omega, by omega⟩ (by omega)).le (by decide)) (fun M4 ⟨hH4, hR4, p3⟩ => ?_)
 have hF4 := hF0.tr hR4 (by decide +kernel)
 obtain ⟨z5, k6, lz5, uz5⟩ := hH4.ld (c := 173) (i := 42) (A := 0) (B := 64) (bs_28_18 _ _ (by omega) (by omega))
 refine jx_load c1 hm rfl rfl rfl rfl ?_
 refine jx_load c1 hm rfl rfl rfl rfl ?_
 have hla0 := lgm_lb ba0
 refine jv_v c3 hm rfl pj_X12_writeWord rfl rfl ⟨_, _, _, rfl, sh_173⟩ rfl ((ct_X12_writeWord_173 9 X (by omega) M4 hH4 a0 ba0 (by omega) (by omega)).le (by decide)) (fun M8 ⟨hH8, hR8, p7⟩ => ?_)
 have hF8 := hF4.tr hR8 (by decide +kernel)
 obtain ⟨z9, k10, lz9, uz9⟩ := hH8.ld (c := 173) (i := 42) (A := 0) (B := 64) (bs_28_18 _ _ (by omega) (by omega))
 exact jx_retv c2 hm rfl rfl ⟨rfl, hH8, hF8, (by omega)⟩
def md_X12_writeNumber_173 : List (Nat × (Nat × Nat)) := [(173, (42, 42)), (194, (0, 63))]
def ST_X12_writeNumber_173 (n : Nat) : Prop := ∀ (X : Int) (hX : 0 ≤ X ∧ X ≤ 100000000) (M0 : JM) (hH0 : HI X M0) (a0 : Int) (ha0 : 0 ≤ a0 ∧ a0 ≤ 20) (hp0 : M0.1 173 42 ≤ 62) (hr : a0 < (n : Int)), JOk shp PJ (1 * n + 2) 205 [.inr (.inr (.inl 173)), .inl a0] M0 (jRv (fun M' => HI X M' ∧ Fr md_X12_writeNumber_173 M0 M' ∧ (a0 ≤ 9 → M'.1 173 42 = M0.1 173 42 + 1) ∧ (M'.1 173 42 ≤ M0.1 173 42 + 2)))
theorem ct_X12_writeNumber_173 : ∀ n : Nat, ST_X12_writeNumber_173 n := by
 intro n
 induction n with
 | zero =>
  unfold ST_X12_writeNumber_173
  intros; omega
 | succ n ih =>
  unfold ST_X12_writeNumber_173
  intro X hX M0 hH0 a0 ha0 hp0 hr
  refine ⟨jr_X12_writeNumber, pj_X12_writeNumber, fun F c1 c2 c3 => ?_⟩
  have hm := pj_X12_writeNumber
  change F 0 [some (.inr (.inr (.inl 173))), some (.inl a0)] [] M0
  have hF0 : Fr md_X12_writeNumber_173 M0 M0 := Fr.rf _ _
  obtain ⟨z1, k2, lz1, uz1⟩ := hH0.ld (c := 173) (i := 42) (A := 0) (B := 64) (bs_28_18 _ _ (by omega) (by omega))
  refine jx_load c1 hm rfl rfl rfl rfl ?_
  refine jy_bp c1 hm rfl (by decide) ?_
  refine jc_le c1 hm 14 rfl rfl (fun h3 => ?_) (fun h3 => ?_)
  ·
   refine jx_load c1 hm rfl rfl rfl rfl ?_
   refine jy_bp c1 hm rfl (by decide) ?_
   refine jx_load c1 hm rfl rfl rfl rfl ?_
   refine jy_bp c1 hm rfl (by decide) ?_
   refine jy_rem c1 hm rfl ⟨by omega, by omega, by omega, by omega⟩ (fun z4 ez4 lz4 uz4 => ?_)
   refine jy_add c1 hm (z4 + 48) rfl (by omega) ?_
   refine jv_v c3 hm rfl pj_X12_write rfl rfl ⟨_, _, _, rfl, sh_173⟩ rfl ((ct_X12_write_173 X (by omega) M0 hH0 (z4 + 48) ⟨by omega, by omega⟩ (by omega)).le (by omega)) (fun M6 ⟨hH6, hR6, p5⟩ => ?_)
   have hF6 := hF0.tr hR6 (by decide +kernel)
   obtain ⟨z7, k8, lz7, uz7⟩ := hH6.ld (c := 173) (i := 42) (A := 0) (B := 64) (bs_28_18 _ _ (by omega) (by omega))
   exact jx_retv c2 hm rfl rfl ⟨rfl, hH6, hF6, (by omega), (by omega)⟩
  refine jx_load c1 hm rfl rfl rfl rfl ?_
  refine jx_load c1 hm rfl rfl rfl rfl ?_
  refine jy_bp c1 hm rfl (by decide) ?_
  refine jy_div c1 hm rfl ⟨by omega, by omega, by omega, by omega⟩ (fun z9 ez9 lz9 uz9 => ?_)
  refine jv_v c3 hm rfl pj_X12_writeNumber rfl rfl ⟨_, _, _, rfl, sh_173⟩ rfl ((ih X (by omega) M0 hH0 z9 ⟨by omega, by omega⟩ (by omega) (by omega)).le (by omega)) (fun M12 ⟨hH12, hR12, p10, p11⟩ => ?_)
  have hF12 := hF0.tr hR12 (by decide +kernel)
  obtain ⟨z13, k14, lz13, uz13⟩ := hH12.ld (c := 173) (i := 42) (A := 0) (B := 64) (bs_28_18 _ _ (by omega) (by omega))
  refine jx_load c1 hm rfl rfl rfl rfl ?_
  refine jy_bp c1 hm rfl (by decide) ?_
  refine jx_load c1 hm rfl rfl rfl rfl ?_
  refine jy_bp c1 hm rfl (by decide) ?_
  refine jy_rem c1 hm rfl ⟨by omega, by omega, by omega, by omega⟩ (fun z15 ez15 lz15 uz15 => ?_)
  refine jy_add c1 hm (z15 + 48) rfl (by omega) ?_
  refine jv_v c3 hm rfl pj_X12_write rfl rfl ⟨_, _, _, rfl, sh_173⟩ rfl ((ct_X12_write_173 X (by omega) M12 hH12 (z15 + 48) ⟨by omega, by omega⟩ (by omega)).le (by omega)) (fun M17 ⟨hH17, hR17, p16⟩ => ?_)
  have hF17 := hF12.tr hR17 (by decide +kernel)
  obtain ⟨z18, k19, lz18, uz18⟩ := hH17.ld (c := 173) (i := 42) (A := 0) (B := 64) (bs_28_18 _ _ (by omega) (by omega))
  exact jx_retv c2 hm rfl rfl ⟨rfl, hH17, hF17, (by omega), (by omega)⟩
def md_X12_list_173 : List (Nat × (Nat × Nat)) := [(173, (0, 0)), (173, (42, 42)), (184, (0, 5)), (194, (0, 63))]
theorem ct_X12_list_173 (X : Int) (hX : 0 ≤ X ∧ X ≤ 100000000) (M0 : JM) (hH0 : HI X M0) (a0 : Int) (ha0 : (-2147483648) ≤ a0 ∧ a0 ≤ 2147483647) : JOk shp PJ 24 133 [.inr (.inr (.inl 173)), .inl a0] M0 (jRi (fun v M' => HI X M' ∧ Fr md_X12_list_173 M0 M' ∧ (-1) ≤ v ∧ v ≤ 64 )) := by
 refine ⟨jr_X12_list, pj_X12_list, fun F c1 c2 c3 => ?_⟩
 have hm := pj_X12_list
 change F 0 [some (.inr (.inr (.inl 173))), some (.inl a0), none, none] [] M0
 have hF0 : Fr md_X12_list_173 M0 M0 := Fr.rf _ _
 refine jx_load c1 hm rfl rfl rfl rfl ?_
 refine jy_ic c1 hm rfl (by decide) ?_
 obtain ⟨M1, e1, hH1, hF1, k1, n1, q1⟩ := mup hH0 hF0 (c := 173) (i := 0) (v := 0) (A := (-2147483648)) (B := 2147483647) (bs_28_0 _ _ (by omega) (by omega)) ⟨by omega, by omega⟩ (jin_of 0 rfl ⟨by omega, by omega⟩)
 refine jm_puti c1 hm rfl sh_173 rfl e1 ?_
 refine jx_load c1 hm rfl rfl rfl rfl ?_
 refine jx_load c1 hm rfl rfl rfl rfl ?_
 refine jv_i c3 hm rfl pj_X12_isMan rfl rfl ⟨_, _, _, rfl, sh_173⟩ rfl ((ct_X12_isMan_173 X (by omega) M1 hH1 a0 ⟨by omega, by omega⟩).le (by decide)) (fun z2 _ ⟨rfl, lz2, uz2, p3⟩ => ?_)
 refine jz_ne c1 hm 15 rfl rfl (fun h4 => ?_) (fun h4 => ?_)
 ·
  refine jx_load c1 hm rfl rfl rfl rfl ?_
  refine jy_ic c1 hm rfl (by decide) ?_
  obtain ⟨M5, e5, hH5, hF5, k5, n5, q5⟩ := mup hH1 hF1 (c := 173) (i := 42) (v := 0) (A := 0) (B := 64) (bs_28_18 _ _ (by omega) (by omega)) ⟨by omega, by omega⟩ (jin_of 1 rfl ⟨by omega, by omega⟩)
  refine jm_puti c1 hm rfl sh_173 rfl e5 ?_
  refine jx_load c1 hm rfl rfl rfl rfl ?_
  refine jx_load c1 hm rfl rfl rfl rfl ?_
  refine jx_getr c1 hm rfl sh_173 rfl ?_
  refine jx_load c1 hm rfl rfl rfl rfl ?_
  obtain ⟨w6, kw6⟩ : ∃ w, M5.2 180 (a0).toNat = w := ⟨_, rfl⟩
  have bw6 : LB w6.toInt := kw6 ▸ hH5.2.1 180 _ rfl
  refine jx_lald c1 hm rfl sh_180 ⟨by omega, by omega⟩ kw6 ?_
  have hlw6 := lgm_lb bw6
  refine jv_v c3 hm rfl pj_X12_writeWord rfl rfl ⟨_, _, _, rfl, sh_173⟩ rfl ((ct_X12_writeWord_173 9 X (by omega) M5 hH5 w6 bw6 (by omega) (by omega)).le (by decide)) (fun M8 ⟨hH8, hR8, p7⟩ => ?_)
  have hF8 := hF5.tr hR8 (by decide +kernel)
  obtain ⟨z9, k10, lz9, uz9⟩ := hH8.ld (c := 173) (i := 42) (A := 0) (B := 64) (bs_28_18 _ _ (by omega) (by omega))
  refine jx_load c1 hm rfl rfl rfl rfl ?_
  refine jy_bp c1 hm rfl (by decide) ?_
  refine jy_bp c1 hm rfl (by decide) ?_
  refine jy_bp c1 hm rfl (by decide) ?_
  refine jy_bp c1 hm rfl (by decide) ?_
  refine jy_bp c1 hm rfl (by decide) ?_
  refine jy_ic c1 hm rfl (by decide) ?_
  refine jy_ic c1 hm rfl (by decide) ?_
  refine jt_l c3 hm rfl rfl pj_X12_spelt rfl rfl rfl ((ct_X12_spelt X (by omega) M8 hH8 119 ⟨by omega, by omega⟩ 111 ⟨by omega, by omega⟩ 117 ⟨by omega, by omega⟩ 108 ⟨by omega, by omega⟩ 100 ⟨by omega, by omega⟩ 0 ⟨by omega, by omega⟩ 0 ⟨by omega, by omega⟩).le (by decide)) (fun w11 _ ⟨rfl, bw11⟩ => ?_)
  have hlw11 := lgm_lb bw11
  refine jv_v c3 hm rfl pj_X12_writeNext rfl rfl ⟨_, _, _, rfl, sh_173⟩ rfl ((ct_X12_writeNext_173 X (by omega) M8 hH8 w11 bw11 (by omega) (by omega)).le (by decide)) (fun M13 ⟨hH13, hR13, p12⟩ => ?_)
  have hF13 := hF8.tr hR13 (by decide +kernel)
  obtain ⟨z14, k15, lz14, uz14⟩ := hH13.ld (c := 173) (i := 42) (A := 0) (B := 64) (bs_28_18 _ _ (by omega) (by omega))
  refine jy_ic c1 hm rfl (by decide) ?_
  refine jx_stor c1 hm (L' := [some (.inr (.inr (.inl 173))), some (.inl a0), some (.inl (-1)), none]) rfl rfl rfl rfl rfl ?_
  refine jy_ic c1 hm rfl (by decide) ?_
  refine jx_stor c1 hm (L' := [some (.inr (.inr (.inl 173))), some (.inl a0), some (.inl (-1)), some (.inl 0)]) rfl rfl rfl rfl rfl ?_
  have W22 : ∀ (n23 : Nat) (b16 : Int) (hb16 : (-1) ≤ b16 ∧ b16 ≤ 5) (b17 : Int) (hb17 : 0 ≤ b17 ∧ b17 ≤ 6) (M18 : JM) (hH18 : HI (X) M18) (hF18 : Fr md_X12_list_173 M0 M18) (k20 : M18.1 173 0 = 0) (k21 : M18.1 173 42 = z14), (-b17 + 6) < (n23 : Int) → F 53 [some (.inr (.inr (.inl 173))), some (.inl a0), some (.inl b16), some (.inl b17)] [] M18 := by
   intro n23
   induction n23 with
   | zero => intros; omega
   | succ n23 ihW22 =>
    intro b16 hb16 b17 hb17 M18 hH18 hF18 k20 k21 hrW22
    refine jx_load c1 hm rfl rfl rfl rfl ?_
    refine jx_load c1 hm rfl rfl rfl rfl ?_
    refine jx_getr c1 hm rfl sh_173 rfl ?_
    refine jy_ic c1 hm rfl (by decide) ?_
    obtain ⟨z24, k25, lz24, uz24⟩ := hH18.ld (c := 175) (i := 1) (A := 0) (B := 6) (bs_11_0 _ _ (by omega) (by omega))
    refine jx_iald c1 hm rfl sh_175 ⟨by omega, by omega⟩ k25 ?_
    refine jc_ge c1 hm 102 rfl rfl (fun h26 => ?_) (fun h26 => ?_)
    ·
     refine jx_load c1 hm rfl rfl rfl rfl ?_
     refine jy_ic c1 hm rfl (by decide) ?_
     refine jc_ne c1 hm 121 rfl rfl (fun h39 => ?_) (fun h39 => ?_)
     ·
      refine jx_load c1 hm rfl rfl rfl rfl ?_
      refine jx_load c1 hm rfl rfl rfl rfl ?_
      refine jx_getr c1 hm rfl sh_173 rfl ?_
      refine jy_bp c1 hm rfl (by decide) ?_
      refine jx_load c1 hm rfl rfl rfl rfl ?_
      refine jy_add c1 hm (b16 + 6) rfl (by omega) ?_
      obtain ⟨w40, kw40⟩ : ∃ w, M18.2 180 ((b16 + 6)).toNat = w := ⟨_, rfl⟩
      have bw40 : LB w40.toInt := kw40 ▸ hH18.2.1 180 _ rfl
      refine jx_lald c1 hm rfl sh_180 ⟨by omega, by omega⟩ kw40 ?_
      have hlw40 := lgm_lb bw40
      refine jv_v c3 hm rfl pj_X12_writeNext rfl rfl ⟨_, _, _, rfl, sh_173⟩ rfl ((ct_X12_writeNext_173 X (by omega) M18 hH18 w40 bw40 (by omega) (by omega)).le (by decide)) (fun M42 ⟨hH42, hR42, p41⟩ => ?_)
      have hF42 := hF18.tr hR42 (by decide +kernel)
      obtain ⟨z43, k44, lz43, uz43⟩ := hH42.ld (c := 173) (i := 42) (A := 0) (B := 64) (bs_28_18 _ _ (by omega) (by omega))
      refine jx_load c1 hm rfl rfl rfl rfl ?_
      refine jy_bp c1 hm rfl (by decide) ?_
      refine jy_bp c1 hm rfl (by decide) ?_
      refine jy_bp c1 hm rfl (by decide) ?_
      refine jy_ic c1 hm rfl (by decide) ?_
      refine jy_ic c1 hm rfl (by decide) ?_
      refine jy_ic c1 hm rfl (by decide) ?_
      refine jy_ic c1 hm rfl (by decide) ?_
      refine jt_l c3 hm rfl rfl pj_X12_spelt rfl rfl rfl ((ct_X12_spelt X (by omega) M42 hH42 102 ⟨by omega, by omega⟩ 111 ⟨by omega, by omega⟩ 114 ⟨by omega, by omega⟩ 0 ⟨by omega, by omega⟩ 0 ⟨by omega, by omega⟩ 0 ⟨by omega, by omega⟩ 0 ⟨by omega, by omega⟩).le (by decide)) (fun w45 _ ⟨rfl, bw45⟩ => ?_)
      have hlw45 := lgm_lb bw45
      refine jv_v c3 hm rfl pj_X12_writeNext rfl rfl ⟨_, _, _, rfl, sh_173⟩ rfl ((ct_X12_writeNext_173 X (by omega) M42 hH42 w45 bw45 (by omega) (by omega)).le (by decide)) (fun M47 ⟨hH47, hR47, p46⟩ => ?_)
      have hF47 := hF42.tr hR47 (by decide +kernel)
      obtain ⟨z48, k49, lz48, uz48⟩ := hH47.ld (c := 173) (i := 42) (A := 0) (B := 64) (bs_28_18 _ _ (by omega) (by omega))
      refine jx_load c1 hm rfl rfl rfl rfl ?_
      refine jy_bp c1 hm rfl (by decide) ?_
      refine jv_v c3 hm rfl pj_X12_write rfl rfl ⟨_, _, _, rfl, sh_173⟩ rfl ((ct_X12_write_173 X (by omega) M47 hH47 32 ⟨by omega, by omega⟩ (by omega)).le (by decide)) (fun M51 ⟨hH51, hR51, p50⟩ => ?_)
      have hF51 := hF47.tr hR51 (by decide +kernel)
      obtain ⟨z52, k53, lz52, uz52⟩ := hH51.ld (c := 173) (i := 42) (A := 0) (B := 64) (bs_28_18 _ _ (by omega) (by omega))
      refine jx_load c1 hm rfl rfl rfl rfl ?_
      refine jx_load c1 hm rfl rfl rfl rfl ?_
      refine jx_load c1 hm rfl rfl rfl rfl ?_
      refine jx_load c1 hm rfl rfl rfl rfl ?_
      refine jv_i c3 hm rfl pj_X12_costOf rfl rfl ⟨_, _, _, rfl, sh_173⟩ rfl ((ct_X12_costOf_173 X (by omega) M51 hH51 a0 ⟨by omega, by omega⟩ b16 ⟨by omega, by omega⟩).le (by decide)) (fun z54 _ ⟨rfl, lz54, uz54, p55⟩ => ?_)
      refine jv_v c3 hm rfl pj_X12_writeNumber rfl rfl ⟨_, _, _, rfl, sh_173⟩ rfl ((ct_X12_writeNumber_173 21 X (by omega) M51 hH51 z54 ⟨by omega, by omega⟩ (by omega) (by omega)).le (by decide)) (fun M58 ⟨hH58, hR58, p56, p57⟩ => ?_)
      have hF58 := hF51.tr hR58 (by decide +kernel)
      obtain ⟨z59, k60, lz59, uz59⟩ := hH58.ld (c := 173) (i := 42) (A := 0) (B := 64) (bs_28_18 _ _ (by omega) (by omega))
      refine jx_load c1 hm rfl rfl rfl rfl ?_
      refine jx_geti c1 hm rfl sh_173 rfl k60 ?_
      exact jx_reti c2 hm rfl rfl ⟨_, rfl, hH58, hF58, by omega, by omega⟩
     refine jx_load c1 hm rfl rfl rfl rfl ?_
     refine jy_bp c1 hm rfl (by decide) ?_
     refine jt_l c3 hm rfl rfl pj_X12_wordOf rfl rfl rfl ((ct_X12_wordOf X (by omega) M18 hH18 15 ⟨by omega, by omega⟩).le (by decide)) (fun w61 _ ⟨rfl, bw61⟩ => ?_)
     have hlw61 := lgm_lb bw61
     refine jv_v c3 hm rfl pj_X12_writeNext rfl rfl ⟨_, _, _, rfl, sh_173⟩ rfl ((ct_X12_writeNext_173 X (by omega) M18 hH18 w61 bw61 (by omega) (by omega)).le (by decide)) (fun M63 ⟨hH63, hR63, p62⟩ => ?_)
     have hF63 := hF18.tr hR63 (by decide +kernel)
     obtain ⟨z64, k65, lz64, uz64⟩ := hH63.ld (c := 173) (i := 42) (A := 0) (B := 64) (bs_28_18 _ _ (by omega) (by omega))
     refine jx_load c1 hm rfl rfl rfl rfl ?_
     refine jx_geti c1 hm rfl sh_173 rfl k65 ?_
     exact jx_reti c2 hm rfl rfl ⟨_, rfl, hH63, hF63, by omega, by omega⟩
    refine jx_load c1 hm rfl rfl rfl rfl ?_
    refine jy_ic c1 hm rfl (by decide) ?_
    refine jx_load c1 hm rfl rfl rfl rfl ?_
    refine jx_load c1 hm rfl rfl rfl rfl ?_
    refine jy_ic c1 hm rfl (by decide) ?_
    refine jv_i c3 hm rfl pj_X12_why rfl rfl ⟨_, _, _, rfl, sh_173⟩ rfl ((ct_X12_why_173 X (by omega) M18 hH18 0 ⟨by omega, by omega⟩ a0 ⟨by omega, by omega⟩ b17 ⟨by omega, by omega⟩ 0 ⟨by omega, by omega⟩).le (by decide)) (fun z27 M29 ⟨hH29, hR29, lz27, uz27, p28⟩ => ?_)
    have hF29 := hF18.tr hR29 (by decide +kernel)
    have J38 : ∀ (b37 : Int) (hb37 : (-1) ≤ b37 ∧ b37 ≤ 5), F 96 [some (.inr (.inr (.inl 173))), some (.inl a0), some (.inl b37), some (.inl b17)] [] M29 := by
     intro b37 hb37
     refine jx_iinc c1 hm (v := (b17 + 1)) (L' := [some (.inr (.inr (.inl 173))), some (.inl a0), some (.inl b37), some (.inl (b17 + 1))]) rfl rfl (by omega) (by omega) rfl ?_
     refine jx_goto c1 hm 53 rfl rfl ?_
     have k66 : M29.1 173 0 = 0 := (hR29 173 0 (by decide +kernel)).trans k20
     have k67 : M29.1 173 42 = z14 := (hR29 173 42 (by decide +kernel)).trans k21
     exact ihW22 b37 (by omega) (b17 + 1) (by omega) M29 hH29 hF29 k66 k67 (by omega)
    refine jz_ne c1 hm 96 rfl rfl (fun h30 => ?_) (fun h30 => ?_)
    ·
     exact J38 b16 (by omega)
    refine jx_load c1 hm rfl rfl rfl rfl ?_
    refine jy_ic c1 hm rfl (by decide) ?_
    refine jc_eq c1 hm 94 rfl rfl (fun h31 => ?_) (fun h31 => ?_)
    ·
     refine jx_load c1 hm rfl rfl rfl rfl ?_
     refine jx_stor c1 hm (L' := [some (.inr (.inr (.inl 173))), some (.inl a0), some (.inl b17), some (.inl b17)]) rfl rfl rfl rfl rfl ?_
     exact J38 b17 (by omega)
    refine jx_load c1 hm rfl rfl rfl rfl ?_
    refine jx_load c1 hm rfl rfl rfl rfl ?_
    refine jx_load c1 hm rfl rfl rfl rfl ?_
    refine jv_i c3 hm rfl pj_X12_costOf rfl rfl ⟨_, _, _, rfl, sh_173⟩ rfl ((ct_X12_costOf_173 X (by omega) M29 hH29 a0 ⟨by omega, by omega⟩ b17 ⟨by omega, by omega⟩).le (by decide)) (fun z32 _ ⟨rfl, lz32, uz32, p33⟩ => ?_)
    refine jx_load c1 hm rfl rfl rfl rfl ?_
    refine jx_load c1 hm rfl rfl rfl rfl ?_
    refine jx_load c1 hm rfl rfl rfl rfl ?_
    refine jv_i c3 hm rfl pj_X12_costOf rfl rfl ⟨_, _, _, rfl, sh_173⟩ rfl ((ct_X12_costOf_173 X (by omega) M29 hH29 a0 ⟨by omega, by omega⟩ b16 ⟨by omega, by omega⟩).le (by decide)) (fun z34 _ ⟨rfl, lz34, uz34, p35⟩ => ?_)
    refine jc_ge c1 hm 96 rfl rfl (fun h36 => ?_) (fun h36 => ?_)
    ·
     exact J38 b16 (by omega)
    refine jx_load c1 hm rfl rfl rfl rfl ?_
    refine jx_stor c1 hm (L' := [some (.inr (.inr (.inl 173))), some (.inl a0), some (.inl b17), some (.inl b17)]) rfl rfl rfl rfl rfl ?_
    exact J38 b17 (by omega)
  have k19 : M13.1 173 0 = 0 := (hR13 173 0 (by decide +kernel)).trans ((hR8 173 0 (by decide +kernel)).trans ((n5 173 0 (by decide)).trans k1))
  exact W22 (6 + 1 : Int).toNat (-1) (by omega) 0 (by omega) M13 hH13 hF13 k19 k15 (by omega)
 refine jy_ic c1 hm rfl (by decide) ?_
 exact jx_reti c2 hm rfl rfl ⟨_, rfl, hH1, hF1, by omega, by omega⟩
