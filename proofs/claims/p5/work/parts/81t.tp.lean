/-! The tape's length and bytes. -/
def md_X11_feedNumber_0t : List (Nat × (Nat × Nat)) := [(0, (2, 2)), (2, (0, 939))]
theorem ct_X11_feedNumber_0t (X : Int) (hX : 0 ≤ X ∧ X ≤ 100000000) (M0 : JM) (hH0 : HI X M0) (a0 : Int) (ha0 : (-2147483648) ≤ a0 ∧ a0 ≤ 2147483647) (hp0 : M0.1 0 2 ≤ 936) : JOk shp PJ 1 39 [.inr (.inr (.inl 0)), .inl a0] M0 (jRv (fun M' => HI X M' ∧ Fr md_X11_feedNumber_0t M0 M' ∧ (M'.1 0 2 = M0.1 0 2 + 4) ∧ (tapC M' = fdS (cbB a0) (tapC M0)))) := by
 refine ⟨jr_X11_feedNumber, pj_X11_feedNumber, fun F c1 c2 c3 => ?_⟩
 have hm := pj_X11_feedNumber
 change F 0 [some (.inr (.inr (.inl 0))), some (.inl a0), none] [] M0
 have hF0 : Fr md_X11_feedNumber_0t M0 M0 := Fr.rf _ _
 obtain ⟨z1, k2, lz1, uz1⟩ := hH0.ld (c := 0) (i := 2) (A := 0) (B := 940) (bs_18_1 _ _ (by omega) (by omega))
 refine jy_bp c1 hm rfl (by decide) ?_
 refine jx_stor c1 hm (L' := [some (.inr (.inr (.inl 0))), some (.inl a0), some (.inl 24)]) rfl rfl rfl rfl rfl ?_
 have W9 : ∀ (n10 : Nat) (b3 : Int) (hb3 : (-8) ≤ b3 ∧ b3 ≤ 24) (M4 : JM) (hH4 : HI (X) M4) (hF4 : Fr md_X11_feedNumber_0t M0 M4) (b5 : Int) (hb5 : 0 ≤ b5 ∧ b5 ≤ 940) (k6 : M4.1 0 2 = b5) (h7 : 8 * M4.1 0 2 + b3 = 8 * M0.1 0 2 + 24) (hfd : FDX (cbB a0) 2 0 M0 M4), (b3 + 8) < (n10 : Int) → F 3 [some (.inr (.inr (.inl 0))), some (.inl a0), some (.inl b3)] [] M4 := by
  intro n10
  induction n10 with
  | zero => intros; omega
  | succ n10 ihW9 =>
   intro b3 hb3 M4 hH4 hF4 b5 hb5 k6 h7 hfd hrW9
   refine jx_load c1 hm rfl rfl rfl rfl ?_
   refine jz_lt c1 hm 46 rfl rfl (fun h11 => ?_) (fun h11 => ?_)
   ·
    exact jx_retv c2 hm rfl rfl ⟨rfl, hH4, hF4, (by omega), (FDX.fin hfd (by omega))⟩
   refine jx_load c1 hm rfl rfl rfl rfl ?_
   refine jx_geti c1 hm rfl sh_0 rfl k6 ?_
   skip
   refine jy_sp c1 hm rfl (by decide) ?_
   refine jc_ge c1 hm 46 rfl rfl (fun h12 => ?_) (fun h12 => ?_)
   ·
    exact jx_retv c2 hm rfl rfl ⟨rfl, hH4, hF4, (by omega), (FDX.fin hfd (by omega))⟩
   refine jx_load c1 hm rfl rfl rfl rfl ?_
   refine jx_getr c1 hm rfl sh_0 rfl ?_
   refine jx_load c1 hm rfl rfl rfl rfl ?_
   refine jx_geti c1 hm rfl sh_0 rfl k6 ?_
   refine jx_load c1 hm rfl rfl rfl rfl ?_
   refine jx_load c1 hm rfl rfl rfl rfl ?_
   refine jx_iope c1 hm rfl rfl (fun z13 lz13 uz13 ez13 => ?_)
   refine jx_i2be c1 hm rfl (fun z14 lz14 uz14 ez14 => ?_)
   obtain ⟨M15, e15, hH15, hF15, k15, n15, q15⟩ := mup hH4 hF4 (c := 2) (i := (b5).toNat) (v := z14) (A := (-128)) (B := 127) rfl ⟨by omega, by omega⟩ (jin_of 1 rfl ⟨by omega, by omega⟩)
   refine jm_bast c1 hm rfl sh_2 (Or.inl ⟨rfl, by omega, by omega⟩) ⟨by omega, by omega⟩ e15 ?_
   refine jx_load c1 hm rfl rfl rfl rfl ?_
   refine jx_dup c1 hm rfl rfl ?_
   have k16 : M15.1 0 2 = b5 := (n15 0 2 (fun h => absurd h.1 (by decide))).trans k6
   refine jx_geti c1 hm rfl sh_0 rfl k16 ?_
   refine jy_ic c1 hm rfl (by decide) ?_
   refine jy_add c1 hm (b5 + 1) rfl (by omega) ?_
   obtain ⟨M17, e17, hH17, hF17, k17, n17, q17⟩ := mup hH15 hF15 (c := 0) (i := 2) (v := (b5 + 1)) (A := 0) (B := 940) (bs_18_1 _ _ (by omega) (by omega)) ⟨by omega, by omega⟩ (jin_of 0 rfl ⟨by omega, by omega⟩)
   refine jm_puti c1 hm rfl sh_0 rfl e17 ?_
   refine jx_iinc c1 hm (v := (b3 - 8)) (L' := [some (.inr (.inr (.inl 0))), some (.inl a0), some (.inl (b3 - 8))]) rfl rfl (by omega) (by omega) rfl ?_
   refine jx_goto c1 hm 3 rfl rfl ?_
   exact ihW9 (b3 - 8) (by omega) M17 hH17 hF17 (b5 + 1) (by omega) k17 (by omega) (FDX.st (s := b3) hfd (by decide) (by omega) k6 (by omega) (by omega) (by rw [ez14, ez13]; rfl) k15 n15 k17 n17) (by omega)
 exact W9 (32 + 1 : Int).toNat 24 (by omega) M0 hH0 hF0 z1 (by omega) k2 (by omega) FDX.start (by omega)
def md_X11_feed_0t : List (Nat × (Nat × Nat)) := [(0, (2, 2)), (2, (0, 939))]
theorem ct_X11_feed_0t (X : Int) (hX : 0 ≤ X ∧ X ≤ 100000000) (M0 : JM) (hH0 : HI X M0) (a0 : Int) (ha0 : (-2147483648) ≤ a0 ∧ a0 ≤ 2147483647) (a1 : Int) (ha1 : (-2147483648) ≤ a1 ∧ a1 ≤ 2147483647) (a2 : Int) (ha2 : (-2147483648) ≤ a2 ∧ a2 ≤ 2147483647) (a3 : Int) (ha3 : (-2147483648) ≤ a3 ∧ a3 ≤ 2147483647) (a4 : Int) (ha4 : (-2147483648) ≤ a4 ∧ a4 ≤ 2147483647) : JOk shp PJ 2 38 [.inr (.inr (.inl 0)), .inl a0, .inl a1, .inl a2, .inl a3, .inl a4] M0 (jRi (fun v M' => HI X M' ∧ Fr md_X11_feed_0t M0 M' ∧ (-1) ≤ v ∧ v ≤ 940 ∧ (M0.1 0 2 ≤ 920 → v = M0.1 0 2 + 20 ∧ M'.1 0 2 = M0.1 0 2 + 20) ∧ (920 < M0.1 0 2 → v = -1 ∧ M'.1 0 2 = M0.1 0 2) ∧ (M0.1 0 2 ≤ 920 → tapC M' = fd5 cbB a0 a1 a2 a3 a4 (tapC M0)) ∧ (920 < M0.1 0 2 → tapC M' = tapC M0))) := by
 refine ⟨jr_X11_feed, pj_X11_feed, fun F c1 c2 c3 => ?_⟩
 have hm := pj_X11_feed
 change F 0 [some (.inr (.inr (.inl 0))), some (.inl a0), some (.inl a1), some (.inl a2), some (.inl a3), some (.inl a4)] [] M0
 have hF0 : Fr md_X11_feed_0t M0 M0 := Fr.rf _ _
 obtain ⟨z1, k2, lz1, uz1⟩ := hH0.ld (c := 0) (i := 2) (A := 0) (B := 940) (bs_18_1 _ _ (by omega) (by omega))
 refine jx_load c1 hm rfl rfl rfl rfl ?_
 refine jx_geti c1 hm rfl sh_0 rfl k2 ?_
 refine jy_bp c1 hm rfl (by decide) ?_
 refine jy_add c1 hm (z1 + 20) rfl (by omega) ?_
 refine jy_sp c1 hm rfl (by decide) ?_
 refine jc_le c1 hm 15 rfl rfl (fun h3 => ?_) (fun h3 => ?_)
 ·
  refine jx_load c1 hm rfl rfl rfl rfl ?_
  refine jx_load c1 hm rfl rfl rfl rfl ?_
  refine jv_v c3 hm rfl pj_X11_feedNumber rfl rfl ⟨_, _, _, rfl, sh_0⟩ rfl ((ct_X11_feedNumber_0t X (by omega) M0 hH0 a0 ⟨by omega, by omega⟩ (by omega)).le (by decide)) (fun M6 ⟨hH6, hR6, p4, p5⟩ => ?_)
  have hF6 := hF0.tr hR6 (by decide +kernel)
  obtain ⟨z7, k8, lz7, uz7⟩ := hH6.ld (c := 0) (i := 2) (A := 0) (B := 940) (bs_18_1 _ _ (by omega) (by omega))
  refine jx_load c1 hm rfl rfl rfl rfl ?_
  refine jx_load c1 hm rfl rfl rfl rfl ?_
  refine jv_v c3 hm rfl pj_X11_feedNumber rfl rfl ⟨_, _, _, rfl, sh_0⟩ rfl ((ct_X11_feedNumber_0t X (by omega) M6 hH6 a1 ⟨by omega, by omega⟩ (by omega)).le (by decide)) (fun M11 ⟨hH11, hR11, p9, p10⟩ => ?_)
  have hF11 := hF6.tr hR11 (by decide +kernel)
  obtain ⟨z12, k13, lz12, uz12⟩ := hH11.ld (c := 0) (i := 2) (A := 0) (B := 940) (bs_18_1 _ _ (by omega) (by omega))
  refine jx_load c1 hm rfl rfl rfl rfl ?_
  refine jx_load c1 hm rfl rfl rfl rfl ?_
  refine jv_v c3 hm rfl pj_X11_feedNumber rfl rfl ⟨_, _, _, rfl, sh_0⟩ rfl ((ct_X11_feedNumber_0t X (by omega) M11 hH11 a2 ⟨by omega, by omega⟩ (by omega)).le (by decide)) (fun M16 ⟨hH16, hR16, p14, p15⟩ => ?_)
  have hF16 := hF11.tr hR16 (by decide +kernel)
  obtain ⟨z17, k18, lz17, uz17⟩ := hH16.ld (c := 0) (i := 2) (A := 0) (B := 940) (bs_18_1 _ _ (by omega) (by omega))
  refine jx_load c1 hm rfl rfl rfl rfl ?_
  refine jx_load c1 hm rfl rfl rfl rfl ?_
  refine jv_v c3 hm rfl pj_X11_feedNumber rfl rfl ⟨_, _, _, rfl, sh_0⟩ rfl ((ct_X11_feedNumber_0t X (by omega) M16 hH16 a3 ⟨by omega, by omega⟩ (by omega)).le (by decide)) (fun M21 ⟨hH21, hR21, p19, p20⟩ => ?_)
  have hF21 := hF16.tr hR21 (by decide +kernel)
  obtain ⟨z22, k23, lz22, uz22⟩ := hH21.ld (c := 0) (i := 2) (A := 0) (B := 940) (bs_18_1 _ _ (by omega) (by omega))
  refine jx_load c1 hm rfl rfl rfl rfl ?_
  refine jx_load c1 hm rfl rfl rfl rfl ?_
  refine jv_v c3 hm rfl pj_X11_feedNumber rfl rfl ⟨_, _, _, rfl, sh_0⟩ rfl ((ct_X11_feedNumber_0t X (by omega) M21 hH21 a4 ⟨by omega, by omega⟩ (by omega)).le (by decide)) (fun M26 ⟨hH26, hR26, p24, p25⟩ => ?_)
  have hF26 := hF21.tr hR26 (by decide +kernel)
  obtain ⟨z27, k28, lz27, uz27⟩ := hH26.ld (c := 0) (i := 2) (A := 0) (B := 940) (bs_18_1 _ _ (by omega) (by omega))
  refine jx_load c1 hm rfl rfl rfl rfl ?_
  refine jx_geti c1 hm rfl sh_0 rfl k28 ?_
  exact jx_reti c2 hm rfl rfl ⟨_, rfl, hH26, hF26, by omega, by omega, (by omega), (by omega), (fun _ => (p25.trans (congrArg (fdS (cbB a4)) (p20.trans (congrArg (fdS (cbB a3)) (p15.trans (congrArg (fdS (cbB a2)) (p10.trans (congrArg (fdS (cbB a1)) p5))))))))), (fun y => absurd y (by omega))⟩
 refine jy_ic c1 hm rfl (by decide) ?_
 exact jx_reti c2 hm rfl rfl ⟨_, rfl, hH0, hF0, by omega, by omega, (by omega), (by omega), (fun y => absurd y (by omega)), (fun _ => rfl)⟩
def md_X11_end_0t : List (Nat × (Nat × Nat)) := [(0, (2, 2))]
theorem ct_X11_end_0t (X : Int) (hX : 0 ≤ X ∧ X ≤ 100000000) (M0 : JM) (hH0 : HI X M0) (a0 : Int) (ha0 : (-2147483648) ≤ a0 ∧ a0 ≤ 2147483647) : JOk shp PJ 1 35 [.inr (.inr (.inl 0)), .inl a0] M0 (jRi (fun v M' => HI X M' ∧ Fr md_X11_end_0t M0 M' ∧ 0 ≤ v ∧ v ≤ 1 ∧ (0 ≤ a0 ∧ a0 ≤ M0.1 0 2 → v = 1 ∧ M'.1 0 2 = a0) ∧ (a0 < 0 ∨ M0.1 0 2 < a0 → v = 0 ∧ M'.1 0 2 = M0.1 0 2))) := by
 refine ⟨jr_X11_end, pj_X11_end, fun F c1 c2 c3 => ?_⟩
 have hm := pj_X11_end
 change F 0 [some (.inr (.inr (.inl 0))), some (.inl a0)] [] M0
 have hF0 : Fr md_X11_end_0t M0 M0 := Fr.rf _ _
 obtain ⟨z1, k2, lz1, uz1⟩ := hH0.ld (c := 0) (i := 2) (A := 0) (B := 940) (bs_18_1 _ _ (by omega) (by omega))
 refine jx_load c1 hm rfl rfl rfl rfl ?_
 refine jz_lt c1 hm 12 rfl rfl (fun h3 => ?_) (fun h3 => ?_)
 ·
  refine jy_ic c1 hm rfl (by decide) ?_
  exact jx_retz c2 hm rfl rfl ⟨by omega, by omega⟩ ⟨_, rfl, hH0, hF0, by omega, by omega, (by omega), (by omega)⟩
 refine jx_load c1 hm rfl rfl rfl rfl ?_
 refine jx_load c1 hm rfl rfl rfl rfl ?_
 refine jx_geti c1 hm rfl sh_0 rfl k2 ?_
 refine jc_le c1 hm 14 rfl rfl (fun h4 => ?_) (fun h4 => ?_)
 ·
  refine jx_load c1 hm rfl rfl rfl rfl ?_
  refine jx_load c1 hm rfl rfl rfl rfl ?_
  obtain ⟨M5, e5, hH5, hF5, k5, n5, q5⟩ := mup hH0 hF0 (c := 0) (i := 2) (v := a0) (A := 0) (B := 940) (bs_18_1 _ _ (by omega) (by omega)) ⟨by omega, by omega⟩ (jin_of 0 rfl ⟨by omega, by omega⟩)
  refine jm_puti c1 hm rfl sh_0 rfl e5 ?_
  refine jy_ic c1 hm rfl (by decide) ?_
  exact jx_retz c2 hm rfl rfl ⟨by omega, by omega⟩ ⟨_, rfl, hH5, hF5, by omega, by omega, (by omega), (by omega)⟩
 refine jy_ic c1 hm rfl (by decide) ?_
 exact jx_retz c2 hm rfl rfl ⟨by omega, by omega⟩ ⟨_, rfl, hH0, hF0, by omega, by omega, (by omega), (by omega)⟩
def md_X11_fits_0t : List (Nat × (Nat × Nat)) := [(0, (2, 2)), (131, (1, 1)), (132, (0, 5))]
theorem ct_X11_fits_0t (X : Int) (hX : 0 ≤ X ∧ X ≤ 100000000) (M0 : JM) (hH0 : HI X M0)  : JOk shp PJ 5 40 [.inr (.inr (.inl 0))] M0 (jRi (fun v M' => HI X M' ∧ Fr md_X11_fits_0t M0 M' ∧ (-2147483648) ≤ v ∧ v ≤ 2147483647 ∧ (M'.1 0 2 = 0))) := by
 refine ⟨jr_X11_fits, pj_X11_fits, fun F c1 c2 c3 => ?_⟩
 have hm := pj_X11_fits
 change F 0 [some (.inr (.inr (.inl 0))), none] [] M0
 have hF0 : Fr md_X11_fits_0t M0 M0 := Fr.rf _ _
 refine jx_load c1 hm rfl rfl rfl rfl ?_
 obtain ⟨z1, k2, lz1, uz1⟩ := hH0.ld (c := 0) (i := 2) (A := 0) (B := 940) (bs_18_1 _ _ (by omega) (by omega))
 refine jx_geti c1 hm rfl sh_0 rfl k2 ?_
 refine jx_stor c1 hm (L' := [some (.inr (.inr (.inl 0))), some (.inl z1)]) rfl rfl rfl rfl rfl ?_
 refine jx_load c1 hm rfl rfl rfl rfl ?_
 refine jy_ic c1 hm rfl (by decide) ?_
 obtain ⟨M3, e3, hH3, hF3, k3, n3, q3⟩ := mup hH0 hF0 (c := 0) (i := 2) (v := 0) (A := 0) (B := 940) (bs_18_1 _ _ (by omega) (by omega)) ⟨by omega, by omega⟩ (jin_of 0 rfl ⟨by omega, by omega⟩)
 refine jm_puti c1 hm rfl sh_0 rfl e3 ?_
 refine jx_load c1 hm rfl rfl rfl rfl ?_
 refine jx_getr c1 hm rfl sh_0 rfl ?_
 refine jx_load c1 hm rfl rfl rfl rfl ?_
 refine jx_getr c1 hm rfl sh_0 rfl ?_
 refine jx_load c1 hm rfl rfl rfl rfl ?_
 refine jx_getr c1 hm rfl sh_0 rfl ?_
 refine jx_load c1 hm rfl rfl rfl rfl ?_
 refine jv_i c3 hm rfl pj_X3_find rfl rfl ⟨_, _, _, rfl, sh_131⟩ rfl ((ct_X3_find_131_5_2 X (by omega) M3 hH3 z1 ⟨by omega, by omega⟩).le (by decide)) (fun z4 M5 ⟨hH5, hR5, lz4, uz4⟩ => ?_)
 have hF5 := hF3.tr hR5 (by decide +kernel)
 have k6 : M5.1 0 2 = 0 := (hR5 0 2 (by decide +kernel)).trans k3
 exact jx_reti c2 hm rfl rfl ⟨_, rfl, hH5, hF5, by omega, by omega, (by omega)⟩
theorem ct_X11_fault_0t (X : Int) (hX : 0 ≤ X ∧ X ≤ 100000000) (M0 : JM) (hH0 : HI X M0)  : JOk shp PJ 1 37 [.inr (.inr (.inl 0))] M0 (jRi (fun v M' => M0 = M' ∧ (-2147483648) ≤ v ∧ v ≤ 2147483647 ∧ (v = M0.1 0 3))) := by
 refine ⟨jr_X11_fault, pj_X11_fault, fun F c1 c2 c3 => ?_⟩
 have hm := pj_X11_fault
 change F 0 [some (.inr (.inr (.inl 0)))] [] M0
 obtain ⟨z1, k2, lz1, uz1⟩ := hH0.ld (c := 0) (i := 3) (A := (-2147483648)) (B := 2147483647) (bs_18_2 _ _ (by omega) (by omega))
 refine jx_load c1 hm rfl rfl rfl rfl ?_
 refine jx_geti c1 hm rfl sh_0 rfl k2 ?_
 exact jx_reti c2 hm rfl rfl ⟨_, rfl, rfl, by omega, by omega, (by omega)⟩
def md_X12_come_173t : List (Nat × (Nat × Nat)) := [(173, (2, 2)), (174, (0, 939))]
theorem ct_X12_come_173t (X : Int) (hX : 0 ≤ X ∧ X ≤ 100000000) (M0 : JM) (hH0 : HI X M0) (a0 : Int) (ha0 : (-2147483648) ≤ a0 ∧ a0 ≤ 2147483647) (hp0 : M0.1 173 2 ≤ 936) : JOk shp PJ 1 88 [.inr (.inr (.inl 173)), .inl a0] M0 (jRv (fun M' => HI X M' ∧ Fr md_X12_come_173t M0 M' ∧ (M'.1 173 2 = M0.1 173 2 + 4) ∧ (tapR M' = fdS (rbB a0) (tapR M0)))) := by
 refine ⟨jr_X12_come, pj_X12_come, fun F c1 c2 c3 => ?_⟩
 have hm := pj_X12_come
 change F 0 [some (.inr (.inr (.inl 173))), some (.inl a0), none] [] M0
 have hF0 : Fr md_X12_come_173t M0 M0 := Fr.rf _ _
 obtain ⟨z1, k2, lz1, uz1⟩ := hH0.ld (c := 173) (i := 2) (A := 0) (B := 940) (bs_28_1 _ _ (by omega) (by omega))
 refine jy_bp c1 hm rfl (by decide) ?_
 refine jx_stor c1 hm (L' := [some (.inr (.inr (.inl 173))), some (.inl a0), some (.inl 24)]) rfl rfl rfl rfl rfl ?_
 have W9 : ∀ (n10 : Nat) (b3 : Int) (hb3 : (-8) ≤ b3 ∧ b3 ≤ 24) (M4 : JM) (hH4 : HI (X) M4) (hF4 : Fr md_X12_come_173t M0 M4) (b5 : Int) (hb5 : 0 ≤ b5 ∧ b5 ≤ 940) (k6 : M4.1 173 2 = b5) (h7 : 8 * M4.1 173 2 + b3 = 8 * M0.1 173 2 + 24) (hfd : FDX (rbB a0) 174 173 M0 M4), (b3 + 8) < (n10 : Int) → F 3 [some (.inr (.inr (.inl 173))), some (.inl a0), some (.inl b3)] [] M4 := by
  intro n10
  induction n10 with
  | zero => intros; omega
  | succ n10 ihW9 =>
   intro b3 hb3 M4 hH4 hF4 b5 hb5 k6 h7 hfd hrW9
   refine jx_load c1 hm rfl rfl rfl rfl ?_
   refine jz_lt c1 hm 39 rfl rfl (fun h11 => ?_) (fun h11 => ?_)
   ·
    exact jx_retv c2 hm rfl rfl ⟨rfl, hH4, hF4, (by omega), (FDX.fin hfd (by omega))⟩
   refine jx_load c1 hm rfl rfl rfl rfl ?_
   refine jx_getr c1 hm rfl sh_173 rfl ?_
   refine jx_load c1 hm rfl rfl rfl rfl ?_
   refine jx_geti c1 hm rfl sh_173 rfl k6 ?_
   skip
   refine jx_load c1 hm rfl rfl rfl rfl ?_
   refine jx_load c1 hm rfl rfl rfl rfl ?_
   refine jx_iope c1 hm rfl rfl (fun z12 lz12 uz12 ez12 => ?_)
   refine jy_sp c1 hm rfl (by decide) ?_
   refine jy_ane c1 hm rfl ⟨by omega, by omega⟩ (fun z13 lz13 uz13 ez13 => ?_)
   have t14 : 0 ≤ b5 ∧ b5 ≤ 939 := by omega
   obtain ⟨M15, e15, hH15, hF15, k15, n15, q15⟩ := mup hH4 hF4 (c := 174) (i := (b5).toNat) (v := z13) (A := 0) (B := 255) rfl ⟨by omega, by omega⟩ (jin_of 1 rfl ⟨by omega, by omega⟩)
   refine jm_iast c1 hm rfl sh_174 ⟨by omega, by omega⟩ e15 ?_
   refine jx_load c1 hm rfl rfl rfl rfl ?_
   refine jx_dup c1 hm rfl rfl ?_
   have k16 : M15.1 173 2 = b5 := (n15 173 2 (fun h => absurd h.1 (by decide))).trans k6
   refine jx_geti c1 hm rfl sh_173 rfl k16 ?_
   refine jy_ic c1 hm rfl (by decide) ?_
   refine jy_add c1 hm (b5 + 1) rfl (by omega) ?_
   obtain ⟨M17, e17, hH17, hF17, k17, n17, q17⟩ := mup hH15 hF15 (c := 173) (i := 2) (v := (b5 + 1)) (A := 0) (B := 940) (bs_28_1 _ _ (by omega) (by omega)) ⟨by omega, by omega⟩ (jin_of 0 rfl ⟨by omega, by omega⟩)
   refine jm_puti c1 hm rfl sh_173 rfl e17 ?_
   refine jx_iinc c1 hm (v := (b3 - 8)) (L' := [some (.inr (.inr (.inl 173))), some (.inl a0), some (.inl (b3 - 8))]) rfl rfl (by omega) (by omega) rfl ?_
   refine jx_goto c1 hm 3 rfl rfl ?_
   exact ihW9 (b3 - 8) (by omega) M17 hH17 hF17 (b5 + 1) (by omega) k17 (by omega) (FDX.st (s := b3) hfd (by decide) (by omega) k6 (by omega) (by omega) (by rw [ez13, ez12]; rfl) k15 n15 k17 n17) (by omega)
 exact W9 (32 + 1 : Int).toNat 24 (by omega) M0 hH0 hF0 z1 (by omega) k2 (by omega) FDX.start (by omega)
def md_X12_feed_173t : List (Nat × (Nat × Nat)) := [(173, (0, 0)), (173, (2, 2)), (174, (0, 939))]
theorem ct_X12_feed_173t (X : Int) (hX : 0 ≤ X ∧ X ≤ 100000000) (M0 : JM) (hH0 : HI X M0) (a0 : Int) (ha0 : (-2147483648) ≤ a0 ∧ a0 ≤ 2147483647) (a1 : Int) (ha1 : (-2147483648) ≤ a1 ∧ a1 ≤ 2147483647) (a2 : Int) (ha2 : (-2147483648) ≤ a2 ∧ a2 ≤ 2147483647) (a3 : Int) (ha3 : (-2147483648) ≤ a3 ∧ a3 ≤ 2147483647) (a4 : Int) (ha4 : (-2147483648) ≤ a4 ∧ a4 ≤ 2147483647) : JOk shp PJ 2 103 [.inr (.inr (.inl 173)), .inl a0, .inl a1, .inl a2, .inl a3, .inl a4] M0 (jRi (fun v M' => HI X M' ∧ Fr md_X12_feed_173t M0 M' ∧ (-1) ≤ v ∧ v ≤ 940 ∧ (M0.1 173 2 ≤ 920 → v = M0.1 173 2 + 20 ∧ M'.1 173 2 = M0.1 173 2 + 20) ∧ (920 < M0.1 173 2 → v = -1 ∧ M'.1 173 2 = M0.1 173 2) ∧ (M0.1 173 2 ≤ 920 → tapR M' = fd5 rbB a0 a1 a2 a3 a4 (tapR M0)) ∧ (920 < M0.1 173 2 → tapR M' = tapR M0))) := by
 refine ⟨jr_X12_feed, pj_X12_feed, fun F c1 c2 c3 => ?_⟩
 have hm := pj_X12_feed
 change F 0 [some (.inr (.inr (.inl 173))), some (.inl a0), some (.inl a1), some (.inl a2), some (.inl a3), some (.inl a4)] [] M0
 have hF0 : Fr md_X12_feed_173t M0 M0 := Fr.rf _ _
 obtain ⟨z1, k2, lz1, uz1⟩ := hH0.ld (c := 173) (i := 2) (A := 0) (B := 940) (bs_28_1 _ _ (by omega) (by omega))
 refine jx_load c1 hm rfl rfl rfl rfl ?_
 refine jy_ic c1 hm rfl (by decide) ?_
 obtain ⟨M3, e3, hH3, hF3, k3, n3, q3⟩ := mup hH0 hF0 (c := 173) (i := 0) (v := 0) (A := (-2147483648)) (B := 2147483647) (bs_28_0 _ _ (by omega) (by omega)) ⟨by omega, by omega⟩ (jin_of 0 rfl ⟨by omega, by omega⟩)
 refine jm_puti c1 hm rfl sh_173 rfl e3 ?_
 refine jx_load c1 hm rfl rfl rfl rfl ?_
 have k4 : M3.1 173 2 = z1 := (n3 173 2 (by decide)).trans k2
 refine jx_geti c1 hm rfl sh_173 rfl k4 ?_
 refine jy_bp c1 hm rfl (by decide) ?_
 refine jy_add c1 hm (z1 + 20) rfl (by omega) ?_
 refine jy_sp c1 hm rfl (by decide) ?_
 refine jc_le c1 hm 20 rfl rfl (fun h5 => ?_) (fun h5 => ?_)
 ·
  refine jx_load c1 hm rfl rfl rfl rfl ?_
  refine jx_load c1 hm rfl rfl rfl rfl ?_
  refine jv_v c3 hm rfl pj_X12_come rfl rfl ⟨_, _, _, rfl, sh_173⟩ rfl ((ct_X12_come_173t X (by omega) M3 hH3 a0 ⟨by omega, by omega⟩ (by omega)).le (by decide)) (fun M8 ⟨hH8, hR8, p6, p7⟩ => ?_)
  have hF8 := hF3.tr hR8 (by decide +kernel)
  obtain ⟨z9, k10, lz9, uz9⟩ := hH8.ld (c := 173) (i := 2) (A := 0) (B := 940) (bs_28_1 _ _ (by omega) (by omega))
  refine jx_load c1 hm rfl rfl rfl rfl ?_
  refine jx_load c1 hm rfl rfl rfl rfl ?_
  refine jv_v c3 hm rfl pj_X12_come rfl rfl ⟨_, _, _, rfl, sh_173⟩ rfl ((ct_X12_come_173t X (by omega) M8 hH8 a1 ⟨by omega, by omega⟩ (by omega)).le (by decide)) (fun M13 ⟨hH13, hR13, p11, p12⟩ => ?_)
  have hF13 := hF8.tr hR13 (by decide +kernel)
  obtain ⟨z14, k15, lz14, uz14⟩ := hH13.ld (c := 173) (i := 2) (A := 0) (B := 940) (bs_28_1 _ _ (by omega) (by omega))
  refine jx_load c1 hm rfl rfl rfl rfl ?_
  refine jx_load c1 hm rfl rfl rfl rfl ?_
  refine jv_v c3 hm rfl pj_X12_come rfl rfl ⟨_, _, _, rfl, sh_173⟩ rfl ((ct_X12_come_173t X (by omega) M13 hH13 a2 ⟨by omega, by omega⟩ (by omega)).le (by decide)) (fun M18 ⟨hH18, hR18, p16, p17⟩ => ?_)
  have hF18 := hF13.tr hR18 (by decide +kernel)
  obtain ⟨z19, k20, lz19, uz19⟩ := hH18.ld (c := 173) (i := 2) (A := 0) (B := 940) (bs_28_1 _ _ (by omega) (by omega))
  refine jx_load c1 hm rfl rfl rfl rfl ?_
  refine jx_load c1 hm rfl rfl rfl rfl ?_
  refine jv_v c3 hm rfl pj_X12_come rfl rfl ⟨_, _, _, rfl, sh_173⟩ rfl ((ct_X12_come_173t X (by omega) M18 hH18 a3 ⟨by omega, by omega⟩ (by omega)).le (by decide)) (fun M23 ⟨hH23, hR23, p21, p22⟩ => ?_)
  have hF23 := hF18.tr hR23 (by decide +kernel)
  obtain ⟨z24, k25, lz24, uz24⟩ := hH23.ld (c := 173) (i := 2) (A := 0) (B := 940) (bs_28_1 _ _ (by omega) (by omega))
  refine jx_load c1 hm rfl rfl rfl rfl ?_
  refine jx_load c1 hm rfl rfl rfl rfl ?_
  refine jv_v c3 hm rfl pj_X12_come rfl rfl ⟨_, _, _, rfl, sh_173⟩ rfl ((ct_X12_come_173t X (by omega) M23 hH23 a4 ⟨by omega, by omega⟩ (by omega)).le (by decide)) (fun M28 ⟨hH28, hR28, p26, p27⟩ => ?_)
  have hF28 := hF23.tr hR28 (by decide +kernel)
  obtain ⟨z29, k30, lz29, uz29⟩ := hH28.ld (c := 173) (i := 2) (A := 0) (B := 940) (bs_28_1 _ _ (by omega) (by omega))
  refine jx_load c1 hm rfl rfl rfl rfl ?_
  refine jx_geti c1 hm rfl sh_173 rfl k30 ?_
  exact jx_reti c2 hm rfl rfl ⟨_, rfl, hH28, hF28, by omega, by omega, (by omega), (by omega), (fun _ => (p27.trans (congrArg (fdS (rbB a4)) (p22.trans (congrArg (fdS (rbB a3)) (p17.trans (congrArg (fdS (rbB a2)) (p12.trans (congrArg (fdS (rbB a1)) (p7.trans (congrArg (fdS (rbB a0)) (tapR_cg (fun j => n3 174 j (fun h => absurd h.1 (by decide))) (n3 173 2 (by decide)))))))))))))), (fun y => absurd y (by omega))⟩
 refine jy_ic c1 hm rfl (by decide) ?_
 exact jx_reti c2 hm rfl rfl ⟨_, rfl, hH3, hF3, by omega, by omega, (by omega), (by omega), (fun y => absurd y (by omega)), (fun _ => tapR_cg (fun j => n3 174 j (fun h => absurd h.1 (by decide))) (n3 173 2 (by decide)))⟩
def md_X12_end_173t : List (Nat × (Nat × Nat)) := [(173, (0, 0)), (173, (2, 2))]
theorem ct_X12_end_173t (X : Int) (hX : 0 ≤ X ∧ X ≤ 100000000) (M0 : JM) (hH0 : HI X M0) (a0 : Int) (ha0 : (-2147483648) ≤ a0 ∧ a0 ≤ 2147483647) : JOk shp PJ 1 100 [.inr (.inr (.inl 173)), .inl a0] M0 (jRi (fun v M' => HI X M' ∧ Fr md_X12_end_173t M0 M' ∧ 0 ≤ v ∧ v ≤ 1 ∧ (0 ≤ a0 ∧ a0 ≤ M0.1 173 2 → v = 1 ∧ M'.1 173 2 = a0) ∧ (a0 < 0 ∨ M0.1 173 2 < a0 → v = 0 ∧ M'.1 173 2 = M0.1 173 2))) := by
 refine ⟨jr_X12_end, pj_X12_end, fun F c1 c2 c3 => ?_⟩
 have hm := pj_X12_end
 change F 0 [some (.inr (.inr (.inl 173))), some (.inl a0)] [] M0
 have hF0 : Fr md_X12_end_173t M0 M0 := Fr.rf _ _
 obtain ⟨z1, k2, lz1, uz1⟩ := hH0.ld (c := 173) (i := 2) (A := 0) (B := 940) (bs_28_1 _ _ (by omega) (by omega))
 refine jx_load c1 hm rfl rfl rfl rfl ?_
 refine jy_ic c1 hm rfl (by decide) ?_
 obtain ⟨M3, e3, hH3, hF3, k3, n3, q3⟩ := mup hH0 hF0 (c := 173) (i := 0) (v := 0) (A := (-2147483648)) (B := 2147483647) (bs_28_0 _ _ (by omega) (by omega)) ⟨by omega, by omega⟩ (jin_of 0 rfl ⟨by omega, by omega⟩)
 refine jm_puti c1 hm rfl sh_173 rfl e3 ?_
 refine jx_load c1 hm rfl rfl rfl rfl ?_
 refine jz_lt c1 hm 17 rfl rfl (fun h4 => ?_) (fun h4 => ?_)
 ·
  refine jy_ic c1 hm rfl (by decide) ?_
  have k5 : M3.1 173 2 = z1 := (n3 173 2 (by decide)).trans k2
  exact jx_retz c2 hm rfl rfl ⟨by omega, by omega⟩ ⟨_, rfl, hH3, hF3, by omega, by omega, (by omega), (by omega)⟩
 refine jx_load c1 hm rfl rfl rfl rfl ?_
 refine jx_load c1 hm rfl rfl rfl rfl ?_
 have k6 : M3.1 173 2 = z1 := (n3 173 2 (by decide)).trans k2
 refine jx_geti c1 hm rfl sh_173 rfl k6 ?_
 refine jc_le c1 hm 19 rfl rfl (fun h7 => ?_) (fun h7 => ?_)
 ·
  refine jx_load c1 hm rfl rfl rfl rfl ?_
  refine jx_load c1 hm rfl rfl rfl rfl ?_
  obtain ⟨M8, e8, hH8, hF8, k8, n8, q8⟩ := mup hH3 hF3 (c := 173) (i := 2) (v := a0) (A := 0) (B := 940) (bs_28_1 _ _ (by omega) (by omega)) ⟨by omega, by omega⟩ (jin_of 1 rfl ⟨by omega, by omega⟩)
  refine jm_puti c1 hm rfl sh_173 rfl e8 ?_
  refine jy_ic c1 hm rfl (by decide) ?_
  exact jx_retz c2 hm rfl rfl ⟨by omega, by omega⟩ ⟨_, rfl, hH8, hF8, by omega, by omega, (by omega), (by omega)⟩
 refine jy_ic c1 hm rfl (by decide) ?_
 exact jx_retz c2 hm rfl rfl ⟨by omega, by omega⟩ ⟨_, rfl, hH3, hF3, by omega, by omega, (by omega), (by omega)⟩
def md_X12_take_173t : List (Nat × (Nat × Nat)) := [(173, (2, 2))]
theorem ct_X12_take_173t (X : Int) (hX : 0 ≤ X ∧ X ≤ 100000000) (M0 : JM) (hH0 : HI X M0)  : JOk shp PJ 1 188 [.inr (.inr (.inl 173))] M0 (jRi (fun v M' => HI X M' ∧ Fr md_X12_take_173t M0 M' ∧ 0 ≤ v ∧ v ≤ 940 ∧ (M'.1 173 2 = 0))) := by
 refine ⟨jr_X12_take, pj_X12_take, fun F c1 c2 c3 => ?_⟩
 have hm := pj_X12_take
 change F 0 [some (.inr (.inr (.inl 173))), none] [] M0
 have hF0 : Fr md_X12_take_173t M0 M0 := Fr.rf _ _
 refine jx_load c1 hm rfl rfl rfl rfl ?_
 obtain ⟨z1, k2, lz1, uz1⟩ := hH0.ld (c := 173) (i := 2) (A := 0) (B := 940) (bs_28_1 _ _ (by omega) (by omega))
 refine jx_geti c1 hm rfl sh_173 rfl k2 ?_
 refine jx_stor c1 hm (L' := [some (.inr (.inr (.inl 173))), some (.inl z1)]) rfl rfl rfl rfl rfl ?_
 refine jx_load c1 hm rfl rfl rfl rfl ?_
 refine jy_ic c1 hm rfl (by decide) ?_
 obtain ⟨M3, e3, hH3, hF3, k3, n3, q3⟩ := mup hH0 hF0 (c := 173) (i := 2) (v := 0) (A := 0) (B := 940) (bs_28_1 _ _ (by omega) (by omega)) ⟨by omega, by omega⟩ (jin_of 0 rfl ⟨by omega, by omega⟩)
 refine jm_puti c1 hm rfl sh_173 rfl e3 ?_
 refine jx_load c1 hm rfl rfl rfl rfl ?_
 exact jx_reti c2 hm rfl rfl ⟨_, rfl, hH3, hF3, by omega, by omega, (by omega)⟩
def md_X12_fits_173t : List (Nat × (Nat × Nat)) := [(173, (0, 0)), (173, (2, 2)), (173, (35, 35)), (190, (0, 5)), (191, (0, 35))]
theorem ct_X12_fits_173t (X : Int) (hX : 0 ≤ X ∧ X ≤ 100000000) (M0 : JM) (hH0 : HI X M0)  : JOk shp PJ 3 105 [.inr (.inr (.inl 173))] M0 (jRi (fun v M' => HI X M' ∧ Fr md_X12_fits_173t M0 M' ∧ (-2147483648) ≤ v ∧ v ≤ 2147483647 ∧ (M'.1 173 2 = 0))) := by
 refine ⟨jr_X12_fits, pj_X12_fits, fun F c1 c2 c3 => ?_⟩
 have hm := pj_X12_fits
 change F 0 [some (.inr (.inr (.inl 173))), none, none, none, none, none, none] [] M0
 have hF0 : Fr md_X12_fits_173t M0 M0 := Fr.rf _ _
 refine jx_load c1 hm rfl rfl rfl rfl ?_
 refine jy_ic c1 hm rfl (by decide) ?_
 obtain ⟨M1, e1, hH1, hF1, k1, n1, q1⟩ := mup hH0 hF0 (c := 173) (i := 0) (v := 0) (A := (-2147483648)) (B := 2147483647) (bs_28_0 _ _ (by omega) (by omega)) ⟨by omega, by omega⟩ (jin_of 0 rfl ⟨by omega, by omega⟩)
 refine jm_puti c1 hm rfl sh_173 rfl e1 ?_
 refine jx_load c1 hm rfl rfl rfl rfl ?_
 refine jv_i c3 hm rfl pj_X12_take rfl rfl ⟨_, _, _, rfl, sh_173⟩ rfl ((ct_X12_take_173t X (by omega) M1 hH1 ).le (by decide)) (fun z2 M4 ⟨hH4, hR4, lz2, uz2, p3⟩ => ?_)
 have hF4 := hF1.tr hR4 (by decide +kernel)
 obtain ⟨z5, k6, lz5, uz5⟩ := hH4.ld (c := 173) (i := 2) (A := 0) (B := 940) (bs_28_1 _ _ (by omega) (by omega))
 refine jx_stor c1 hm (L' := [some (.inr (.inr (.inl 173))), some (.inl z2), none, none, none, none, none]) rfl rfl rfl rfl rfl ?_
 refine jx_load c1 hm rfl rfl rfl rfl ?_
 refine jy_ic c1 hm rfl (by decide) ?_
 refine jy_rem c1 hm rfl ⟨by omega, by omega, by omega, by omega⟩ (fun z7 ez7 lz7 uz7 => ?_)
 refine jz_ne c1 hm 28 rfl rfl (fun h8 => ?_) (fun h8 => ?_)
 ·
  refine jy_ic c1 hm rfl (by decide) ?_
  exact jx_reti c2 hm rfl rfl ⟨_, rfl, hH4, hF4, by omega, by omega, (by omega)⟩
 refine jx_load c1 hm rfl rfl rfl rfl ?_
 refine jy_ic c1 hm rfl (by decide) ?_
 refine jy_div c1 hm rfl ⟨by omega, by omega, by omega, by omega⟩ (fun z9 ez9 lz9 uz9 => ?_)
 refine jy_ic c1 hm rfl (by decide) ?_
 refine jy_bp c1 hm rfl (by decide) ?_
 refine jt_i c3 hm rfl rfl pj_X12_isIn rfl rfl rfl ((ct_X12_isIn X (by omega) M4 hH4 z9 ⟨by omega, by omega⟩ 1 ⟨by omega, by omega⟩ 10 ⟨by omega, by omega⟩).le (by decide)) (fun z10 _ ⟨rfl, lz10, uz10, p11⟩ => ?_)
 refine jz_ne c1 hm 30 rfl rfl (fun h12 => ?_) (fun h12 => ?_)
 ·
  refine jy_ic c1 hm rfl (by decide) ?_
  refine jx_stor c1 hm (L' := [some (.inr (.inr (.inl 173))), some (.inl z2), some (.inl 0), none, none, none, none]) rfl rfl rfl rfl rfl ?_
  have W16 : ∀ (n17 : Nat) (b13 : Int) (hb13 : 0 ≤ b13 ∧ b13 ≤ 941) (hq1 : ∀ j : Nat, (j : Int) < b13 → j % 2 = 0 → M0.1 174 j ≤ 5) (h15 : b13 % 2 = 0), (-b13 + 941) < (n17 : Int) → F 32 [some (.inr (.inr (.inl 173))), some (.inl z2), some (.inl b13), none, none, none, none] [] M4 := by
   intro n17
   induction n17 with
   | zero => intros; omega
   | succ n17 ihW16 =>
    intro b13 hb13 hq1 h15 hrW16
    refine jx_load c1 hm rfl rfl rfl rfl ?_
    refine jx_load c1 hm rfl rfl rfl rfl ?_
    refine jc_ge c1 hm 58 rfl rfl (fun h18 => ?_) (fun h18 => ?_)
    ·
     refine jy_ic c1 hm rfl (by decide) ?_
     refine jx_stor c1 hm (L' := [some (.inr (.inr (.inl 173))), some (.inl z2), some (.inl 0), none, none, none, none]) rfl rfl rfl rfl rfl ?_
     refine jy_ic c1 hm rfl (by decide) ?_
     refine jx_stor c1 hm (L' := [some (.inr (.inr (.inl 173))), some (.inl z2), some (.inl 0), some (.inl 0), none, none, none]) rfl rfl rfl rfl rfl ?_
     have W28 : ∀ (n29 : Nat) (b19 : Int) (hb19 : (-2147483648) ≤ b19 ∧ b19 ≤ 2147483647) (b20 : Int) (hb20 : 0 ≤ b20 ∧ b20 ≤ 6) (o21 : Option JV) (ho21 : o21 = none ∨ (∃ z, o21 = some (.inl z)) ∨ ∃ r, o21 = some (.inr (.inr r))) (o22 : Option JV) (ho22 : o22 = none ∨ (∃ z, o22 = some (.inl z)) ∨ ∃ r, o22 = some (.inr (.inr r))) (o23 : Option JV) (ho23 : o23 = none ∨ (∃ z, o23 = some (.inl z)) ∨ ∃ r, o23 = some (.inr (.inr r))) (M24 : JM) (hH24 : HI (X) M24) (hF24 : Fr md_X12_fits_173t M0 M24) (k26 : M24.1 173 0 = 0) (k27 : M24.1 173 2 = z5), (-b20 + 6) < (n29 : Int) → F 62 [some (.inr (.inr (.inl 173))), some (.inl z2), some (.inl b19), some (.inl b20), o21, o22, o23] [] M24 := by
      intro n29
      induction n29 with
      | zero => intros; omega
      | succ n29 ihW28 =>
       intro b19 hb19 b20 hb20 o21 ho21 o22 ho22 o23 ho23 M24 hH24 hF24 k26 k27 hrW28
       refine jx_load c1 hm rfl rfl rfl rfl ?_
       refine jx_load c1 hm rfl rfl rfl rfl ?_
       refine jx_getr c1 hm rfl sh_173 rfl ?_
       refine jy_ic c1 hm rfl (by decide) ?_
       obtain ⟨z30, k31, lz30, uz30⟩ := hH24.ld (c := 175) (i := 0) (A := 0) (B := 6) (bs_11_0 _ _ (by omega) (by omega))
       refine jx_iald c1 hm rfl sh_175 ⟨by omega, by omega⟩ k31 ?_
       refine jc_ge c1 hm 255 rfl rfl (fun h32 => ?_) (fun h32 => ?_)
       ·
        refine jx_load c1 hm rfl rfl rfl rfl ?_
        refine jz_ne c1 hm 261 rfl rfl (fun h104 => ?_) (fun h104 => ?_)
        ·
         refine jx_ldcw c1 hm (v := 100000) rfl rfl (by decide) ?_
         refine jx_stor c1 hm (L' := [some (.inr (.inr (.inl 173))), some (.inl z2), some (.inl b19), some (.inl 100000), o21, o22, o23]) rfl rfl rfl rfl rfl ?_
         refine jy_ic c1 hm rfl (by decide) ?_
         refine jx_stor c1 hm (L' := [some (.inr (.inr (.inl 173))), some (.inl z2), some (.inl b19), some (.inl 100000), some (.inl 0), o22, o23]) rfl rfl rfl rfl rfl ?_
         have W112 : ∀ (n113 : Nat) (b105 : Int) (hb105 : 0 ≤ b105 ∧ b105 ≤ 100000) (b106 : Int) (hb106 : 0 ≤ b106 ∧ b106 ≤ 6) (o107 : Option JV) (ho107 : o107 = none ∨ (∃ z, o107 = some (.inl z)) ∨ ∃ r, o107 = some (.inr (.inr r))) (M108 : JM) (hH108 : HI (X) M108) (hF108 : Fr md_X12_fits_173t M0 M108) (k109 : M108.1 173 0 = 0) (k110 : M108.1 173 2 = z5) (k111 : M108.1 175 0 = z30), (-b106 + 6) < (n113 : Int) → F 268 [some (.inr (.inr (.inl 173))), some (.inl z2), some (.inl b19), some (.inl b105), some (.inl b106), o107, o23] [] M108 := by
          intro n113
          induction n113 with
          | zero => intros; omega
          | succ n113 ihW112 =>
           intro b105 hb105 b106 hb106 o107 ho107 M108 hH108 hF108 k109 k110 k111 hrW112
           refine jx_load c1 hm rfl rfl rfl rfl ?_
           refine jx_load c1 hm rfl rfl rfl rfl ?_
           refine jx_getr c1 hm rfl sh_173 rfl ?_
           refine jy_ic c1 hm rfl (by decide) ?_
           obtain ⟨z114, k115, lz114, uz114⟩ := hH108.ld (c := 175) (i := 1) (A := 0) (B := 6) (bs_11_0 _ _ (by omega) (by omega))
           refine jx_iald c1 hm rfl sh_175 ⟨by omega, by omega⟩ k115 ?_
           refine jc_ge c1 hm 312 rfl rfl (fun h116 => ?_) (fun h116 => ?_)
           ·
            refine jx_load c1 hm rfl rfl rfl rfl ?_
            exact jx_reti c2 hm rfl rfl ⟨_, rfl, hH108, hF108, by omega, by omega, (by omega)⟩
           refine jx_load c1 hm rfl rfl rfl rfl ?_
           refine jx_load c1 hm rfl rfl rfl rfl ?_
           refine jx_load c1 hm rfl rfl rfl rfl ?_
           refine jv_i c3 hm rfl pj_X12_mostAlike rfl rfl ⟨_, _, _, rfl, sh_173⟩ rfl ((ct_X12_mostAlike_173 X (by omega) M108 hH108 b106 ⟨by omega, by omega⟩ b19 ⟨by omega, by omega⟩).le (by decide)) (fun z117 _ ⟨rfl, lz117, uz117⟩ => ?_)
           refine jx_stor c1 hm (L' := [some (.inr (.inr (.inl 173))), some (.inl z2), some (.inl b19), some (.inl b105), some (.inl b106), some (.inl z117), o23]) rfl rfl rfl rfl rfl ?_
           refine jx_load c1 hm rfl rfl rfl rfl ?_
           refine jx_load c1 hm rfl rfl rfl rfl ?_
           have J130 : ∀ (b120 : Int) (hb120 : 0 ≤ b120 ∧ b120 ≤ 6) (M121 : JM) (hH121 : HI (X) M121) (hF121 : Fr md_X12_fits_173t M0 M121) (k123 : M121.1 173 0 = 0) (k125 : M121.1 173 2 = z5) (k127 : M121.1 175 0 = z30) (k129 : M121.1 175 1 = z114), F 306 [some (.inr (.inr (.inl 173))), some (.inl z2), some (.inl b19), some (.inl b120), some (.inl b106), some (.inl z117), o23] [] M121 := by
            intro b120 hb120 M121 hH121 hF121 k123 k125 k127 k129
            refine jx_iinc c1 hm (v := (b106 + 1)) (L' := [some (.inr (.inr (.inl 173))), some (.inl z2), some (.inl b19), some (.inl b120), some (.inl (b106 + 1)), some (.inl z117), o23]) rfl rfl (by omega) (by omega) rfl ?_
            refine jx_goto c1 hm 268 rfl rfl ?_
            exact ihW112 b120 (by omega) (b106 + 1) (by omega) (some (.inl z117)) (Or.inr (Or.inl ⟨_, rfl⟩)) M121 hH121 hF121 k123 k125 k127 (by omega)
           refine jc_lt c1 hm 297 rfl rfl (fun h118 => ?_) (fun h118 => ?_)
           ·
            refine jx_load c1 hm rfl rfl rfl rfl ?_
            refine jx_stor c1 hm (L' := [some (.inr (.inr (.inl 173))), some (.inl z2), some (.inl b19), some (.inl z117), some (.inl b106), some (.inl z117), o23]) rfl rfl rfl rfl rfl ?_
            refine jx_load c1 hm rfl rfl rfl rfl ?_
            refine jx_load c1 hm rfl rfl rfl rfl ?_
            obtain ⟨M119, e119, hH119, hF119, k119, n119, q119⟩ := mup hH108 hF108 (c := 173) (i := 35) (v := b106) (A := (-2147483648)) (B := 2147483647) (bs_28_15 _ _ (by omega) (by omega)) ⟨by omega, by omega⟩ (jin_of 2 rfl ⟨by omega, by omega⟩)
            refine jm_puti c1 hm rfl sh_173 rfl e119 ?_
            have k122 : M119.1 173 0 = 0 := (n119 173 0 (by decide)).trans k109
            have k124 : M119.1 173 2 = z5 := (n119 173 2 (by decide)).trans k110
            have k126 : M119.1 175 0 = z30 := (n119 175 0 (fun h => absurd h.1 (by decide))).trans k111
            have k128 : M119.1 175 1 = z114 := (n119 175 1 (fun h => absurd h.1 (by decide))).trans k115
            exact J130 z117 (by omega) M119 hH119 hF119 k122 k124 k126 k128
           refine jx_goto c1 hm 306 rfl rfl ?_
           exact J130 b105 (by omega) M108 hH108 hF108 k109 k110 k111 k115
         exact W112 (6 + 1 : Int).toNat 100000 (by omega) 0 (by omega) o22 ho22 M24 hH24 hF24 k26 k27 k31 (by omega)
        refine jy_ic c1 hm rfl (by decide) ?_
        exact jx_reti c2 hm rfl rfl ⟨_, rfl, hH24, hF24, by omega, by omega, (by omega)⟩
       refine jy_ic c1 hm rfl (by decide) ?_
       refine jx_stor c1 hm (L' := [some (.inr (.inr (.inl 173))), some (.inl z2), some (.inl b19), some (.inl b20), some (.inl 0), o22, o23]) rfl rfl rfl rfl rfl ?_
       have W38 : ∀ (n39 : Nat) (b33 : Int) (hb33 : 0 ≤ b33 ∧ b33 ≤ 6) (M34 : JM) (hH34 : HI (X) M34) (hF34 : Fr md_X12_fits_173t M0 M34) (k35 : M34.1 173 0 = 0) (k36 : M34.1 173 2 = z5) (k37 : M34.1 175 0 = z30), (-b33 + 6) < (n39 : Int) → F 75 [some (.inr (.inr (.inl 173))), some (.inl z2), some (.inl b19), some (.inl b20), some (.inl b33), o22, o23] [] M34 := by
        intro n39
        induction n39 with
        | zero => intros; omega
        | succ n39 ihW38 =>
         intro b33 hb33 M34 hH34 hF34 k35 k36 k37 hrW38
         refine jx_load c1 hm rfl rfl rfl rfl ?_
         refine jy_bp c1 hm rfl (by decide) ?_
         refine jc_ge c1 hm 102 rfl rfl (fun h40 => ?_) (fun h40 => ?_)
         ·
          refine jy_ic c1 hm rfl (by decide) ?_
          refine jx_stor c1 hm (L' := [some (.inr (.inr (.inl 173))), some (.inl z2), some (.inl b19), some (.inl b20), some (.inl 1), o22, o23]) rfl rfl rfl rfl rfl ?_
          refine jy_ic c1 hm rfl (by decide) ?_
          refine jx_stor c1 hm (L' := [some (.inr (.inr (.inl 173))), some (.inl z2), some (.inl b19), some (.inl b20), some (.inl 1), some (.inl 0), o23]) rfl rfl rfl rfl rfl ?_
          have W52 : ∀ (n53 : Nat) (b44 : Int) (hb44 : 0 ≤ b44 ∧ b44 ≤ 1) (b45 : Int) (hb45 : 0 ≤ b45 ∧ b45 ≤ 941) (o46 : Option JV) (ho46 : o46 = none ∨ (∃ z, o46 = some (.inl z)) ∨ ∃ r, o46 = some (.inr (.inr r))) (M47 : JM) (hH47 : HI (X) M47) (hF47 : Fr md_X12_fits_173t M0 M47) (k48 : M47.1 173 0 = 0) (k49 : M47.1 173 2 = z5) (k50 : M47.1 175 0 = z30) (h51 : b45 % 2 = 0), (-b45 + 941) < (n53 : Int) → F 108 [some (.inr (.inr (.inl 173))), some (.inl z2), some (.inl b19), some (.inl b20), some (.inl b44), some (.inl b45), o46] [] M47 := by
           intro n53
           induction n53 with
           | zero => intros; omega
           | succ n53 ihW52 =>
            intro b44 hb44 b45 hb45 o46 ho46 M47 hH47 hF47 k48 k49 k50 h51 hrW52
            refine jx_load c1 hm rfl rfl rfl rfl ?_
            refine jx_load c1 hm rfl rfl rfl rfl ?_
            refine jc_ge c1 hm 196 rfl rfl (fun h54 => ?_) (fun h54 => ?_)
            ·
             refine jy_ic c1 hm rfl (by decide) ?_
             refine jx_stor c1 hm (L' := [some (.inr (.inr (.inl 173))), some (.inl z2), some (.inl b19), some (.inl b20), some (.inl b44), some (.inl 0), o46]) rfl rfl rfl rfl rfl ?_
             have W81 : ∀ (n82 : Nat) (b76 : Int) (hb76 : 0 ≤ b76 ∧ b76 ≤ 6) (M77 : JM) (hH77 : HI (X) M77) (hF77 : Fr md_X12_fits_173t M0 M77) (k78 : M77.1 173 0 = 0) (k79 : M77.1 173 2 = z5) (k80 : M77.1 175 0 = z30), (-b76 + 6) < (n82 : Int) → F 199 [some (.inr (.inr (.inl 173))), some (.inl z2), some (.inl b19), some (.inl b20), some (.inl b44), some (.inl b76), o46] [] M77 := by
              intro n82
              induction n82 with
              | zero => intros; omega
              | succ n82 ihW81 =>
               intro b76 hb76 M77 hH77 hF77 k78 k79 k80 hrW81
               refine jx_load c1 hm rfl rfl rfl rfl ?_
               refine jy_bp c1 hm rfl (by decide) ?_
               refine jc_ge c1 hm 238 rfl rfl (fun h83 => ?_) (fun h83 => ?_)
               ·
                refine jx_load c1 hm rfl rfl rfl rfl ?_
                have J94 : ∀ (b93 : Int) (hb93 : (-2147483648) ≤ b93 ∧ b93 ≤ 2147483647), F 249 [some (.inr (.inr (.inl 173))), some (.inl z2), some (.inl b93), some (.inl b20), some (.inl b44), some (.inl b76), o46] [] M77 := by
                 intro b93 hb93
                 refine jx_iinc c1 hm (v := (b20 + 1)) (L' := [some (.inr (.inr (.inl 173))), some (.inl z2), some (.inl b93), some (.inl (b20 + 1)), some (.inl b44), some (.inl b76), o46]) rfl rfl (by omega) (by omega) rfl ?_
                 refine jx_goto c1 hm 62 rfl rfl ?_
                 exact ihW28 b93 (by omega) (b20 + 1) (by omega) (some (.inl b44)) (Or.inr (Or.inl ⟨_, rfl⟩)) (some (.inl b76)) (Or.inr (Or.inl ⟨_, rfl⟩)) o46 ho46 M77 hH77 hF77 k78 k79 (by omega)
                refine jz_eq c1 hm 249 rfl rfl (fun h90 => ?_) (fun h90 => ?_)
                ·
                 exact J94 b19 (by omega)
                refine jx_load c1 hm rfl rfl rfl rfl ?_
                refine jy_ic c1 hm rfl (by decide) ?_
                refine jx_load c1 hm rfl rfl rfl rfl ?_
                refine jy_sh1 c1 hm rfl ⟨by omega, by omega⟩ (fun z91 lz91 uz91 => ?_)
                refine jx_iopw c1 hm rfl rfl (fun z92 lz92 uz92 => ?_)
                refine jx_stor c1 hm (L' := [some (.inr (.inr (.inl 173))), some (.inl z2), some (.inl z92), some (.inl b20), some (.inl b44), some (.inl b76), o46]) rfl rfl rfl rfl rfl ?_
                exact J94 z92 (by omega)
               refine jx_load c1 hm rfl rfl rfl rfl ?_
               refine jx_getr c1 hm rfl sh_173 rfl ?_
               refine jy_bp c1 hm rfl (by decide) ?_
               refine jx_load c1 hm rfl rfl rfl rfl ?_
               refine jy_mul c1 hm (6 * b20) rfl (by omega) ?_
               refine jx_load c1 hm rfl rfl rfl rfl ?_
               refine jy_add c1 hm (6 * b20 + b76) rfl (by omega) ?_
               refine jx_load c1 hm rfl rfl rfl rfl ?_
               refine jx_load c1 hm rfl rfl rfl rfl ?_
               refine jx_load c1 hm rfl rfl rfl rfl ?_
               refine jx_load c1 hm rfl rfl rfl rfl ?_
               refine jx_getr c1 hm rfl sh_173 rfl ?_
               refine jx_load c1 hm rfl rfl rfl rfl ?_
               obtain ⟨z84, k85, lz84, uz84⟩ := hH77.ld (c := 190) (i := (b76).toNat) (A := (-2147483648)) (B := 2147483647) rfl
               refine jx_iald c1 hm rfl sh_190 ⟨by omega, by omega⟩ k85 ?_
               refine jv_i c3 hm rfl pj_X12_costBy rfl rfl ⟨_, _, _, rfl, sh_173⟩ rfl ((ct_X12_costBy_173 X (by omega) M77 hH77 b20 ⟨by omega, by omega⟩ b76 ⟨by omega, by omega⟩ z84 ⟨by omega, by omega⟩).le (by decide)) (fun z86 _ ⟨rfl, lz86, uz86, p87, p88⟩ => ?_)
               obtain ⟨M89, e89, hH89, hF89, k89, n89, q89⟩ := mup hH77 hF77 (c := 191) (i := ((6 * b20 + b76)).toNat) (v := z86) (A := (-2147483648)) (B := 2147483647) rfl ⟨by omega, by omega⟩ (jin_of 4 rfl ⟨by omega, by omega⟩)
               refine jm_iast c1 hm rfl sh_191 ⟨by omega, by omega⟩ e89 ?_
               refine jx_iinc c1 hm (v := (b76 + 1)) (L' := [some (.inr (.inr (.inl 173))), some (.inl z2), some (.inl b19), some (.inl b20), some (.inl b44), some (.inl (b76 + 1)), o46]) rfl rfl (by omega) (by omega) rfl ?_
               refine jx_goto c1 hm 199 rfl rfl ?_
               have k95 : M89.1 173 0 = 0 := (n89 173 0 (fun h => absurd h.1 (by decide))).trans k78
               have k96 : M89.1 173 2 = z5 := (n89 173 2 (fun h => absurd h.1 (by decide))).trans k79
               have k97 : M89.1 175 0 = z30 := (n89 175 0 (fun h => absurd h.1 (by decide))).trans k80
               exact ihW81 (b76 + 1) (by omega) M89 hH89 hF89 k95 k96 k97 (by omega)
             exact W81 (6 + 1 : Int).toNat 0 (by omega) M47 hH47 hF47 k48 k49 k50 (by omega)
            refine jx_load c1 hm rfl rfl rfl rfl ?_
            refine jx_getr c1 hm rfl sh_173 rfl ?_
            refine jx_load c1 hm rfl rfl rfl rfl ?_
            obtain ⟨z55, k56, lz55, uz55⟩ := hH47.ld (c := 174) (i := (b45).toNat) (A := 0) (B := 255) rfl
            refine jx_iald c1 hm rfl sh_174 ⟨by omega, by omega⟩ k56 ?_
            have hzz55 : z55 ≤ 5 := by (have h1 := hq1 (b45).toNat (by omega) (by omega); have h2 := hF47 174 (b45).toNat rfl; omega)
            refine jx_stor c1 hm (L' := [some (.inr (.inr (.inl 173))), some (.inl z2), some (.inl b19), some (.inl b20), some (.inl b44), some (.inl b45), some (.inl z55)]) rfl rfl rfl rfl rfl ?_
            refine jx_load c1 hm rfl rfl rfl rfl ?_
            have J71 : ∀ (b70 : Int) (hb70 : 0 ≤ b70 ∧ b70 ≤ 1), F 177 [some (.inr (.inr (.inl 173))), some (.inl z2), some (.inl b19), some (.inl b20), some (.inl b44), some (.inl b45), some (.inl z55)] [.inl b70] M47 := by
             intro b70 hb70
             refine jx_stor c1 hm (L' := [some (.inr (.inr (.inl 173))), some (.inl z2), some (.inl b19), some (.inl b20), some (.inl b70), some (.inl b45), some (.inl z55)]) rfl rfl rfl rfl rfl ?_
             refine jx_load c1 hm rfl rfl rfl rfl ?_
             refine jx_getr c1 hm rfl sh_173 rfl ?_
             refine jx_load c1 hm rfl rfl rfl rfl ?_
             refine jx_dup2 c1 hm rfl rfl rfl ?_
             obtain ⟨z72, k73, lz72, uz72⟩ := hH47.ld (c := 190) (i := (z55).toNat) (A := (-2147483648)) (B := 2147483647) rfl
             refine jx_iald c1 hm rfl sh_190 ⟨by omega, by omega⟩ k73 ?_
             refine jy_ic c1 hm rfl (by decide) ?_
             refine jx_iopw c1 hm rfl rfl (fun z74 lz74 uz74 => ?_)
             obtain ⟨M75, e75, hH75, hF75, k75, n75, q75⟩ := mup hH47 hF47 (c := 190) (i := (z55).toNat) (v := z74) (A := (-2147483648)) (B := 2147483647) rfl ⟨by omega, by omega⟩ (jin_of 3 rfl ⟨by omega, by omega⟩)
             refine jm_iast c1 hm rfl sh_190 ⟨by omega, by omega⟩ e75 ?_
             refine jx_iinc c1 hm (v := (b45 + 2)) (L' := [some (.inr (.inr (.inl 173))), some (.inl z2), some (.inl b19), some (.inl b20), some (.inl b70), some (.inl (b45 + 2)), some (.inl z55)]) rfl rfl (by omega) (by omega) rfl ?_
             refine jx_goto c1 hm 108 rfl rfl ?_
             have k98 : M75.1 173 0 = 0 := (n75 173 0 (fun h => absurd h.1 (by decide))).trans k48
             have k99 : M75.1 173 2 = z5 := (n75 173 2 (fun h => absurd h.1 (by decide))).trans k49
             have k100 : M75.1 175 0 = z30 := (n75 175 0 (fun h => absurd h.1 (by decide))).trans k50
             exact ihW52 b70 (by omega) (b45 + 2) (by omega) (some (.inl z55)) (Or.inr (Or.inl ⟨_, rfl⟩)) M75 hH75 hF75 k98 k99 k100 (by omega) (by omega)
            refine jz_eq c1 hm 176 rfl rfl (fun h57 => ?_) (fun h57 => ?_)
            ·
             refine jy_ic c1 hm rfl (by decide) ?_
             exact J71 0 (by omega)
            refine jx_load c1 hm rfl rfl rfl rfl ?_
            refine jx_getr c1 hm rfl sh_173 rfl ?_
            refine jy_bp c1 hm rfl (by decide) ?_
            refine jy_bp c1 hm rfl (by decide) ?_
            refine jx_load c1 hm rfl rfl rfl rfl ?_
            refine jy_mul c1 hm (6 * b20) rfl (by omega) ?_
            refine jy_add c1 hm (6 * b20 + 17) rfl (by omega) ?_
            refine jx_load c1 hm rfl rfl rfl rfl ?_
            refine jy_add c1 hm (6 * b20 + z55 + 17) rfl (by omega) ?_
            obtain ⟨z58, k59, lz58, uz58⟩ := hH47.ld (c := 175) (i := ((6 * b20 + z55 + 17)).toNat) (A := (-1)) (B := 20) (bs_11_4 _ _ (by omega) (by omega))
            refine jx_iald c1 hm rfl sh_175 ⟨by omega, by omega⟩ k59 ?_
            refine jz_le c1 hm 176 rfl rfl (fun h60 => ?_) (fun h60 => ?_)
            ·
             refine jy_ic c1 hm rfl (by decide) ?_
             exact J71 0 (by omega)
            refine jx_load c1 hm rfl rfl rfl rfl ?_
            refine jx_load c1 hm rfl rfl rfl rfl ?_
            refine jx_load c1 hm rfl rfl rfl rfl ?_
            refine jx_load c1 hm rfl rfl rfl rfl ?_
            refine jx_getr c1 hm rfl sh_173 rfl ?_
            refine jx_load c1 hm rfl rfl rfl rfl ?_
            obtain ⟨z61, k62, lz61, uz61⟩ := hH47.ld (c := 190) (i := (z55).toNat) (A := (-2147483648)) (B := 2147483647) rfl
            refine jx_iald c1 hm rfl sh_190 ⟨by omega, by omega⟩ k62 ?_
            refine jv_i c3 hm rfl pj_X12_costBy rfl rfl ⟨_, _, _, rfl, sh_173⟩ rfl ((ct_X12_costBy_173 X (by omega) M47 hH47 b20 ⟨by omega, by omega⟩ z55 ⟨by omega, by omega⟩ z61 ⟨by omega, by omega⟩).le (by decide)) (fun z63 _ ⟨rfl, lz63, uz63, p64, p65⟩ => ?_)
            refine jx_load c1 hm rfl rfl rfl rfl ?_
            refine jx_getr c1 hm rfl sh_173 rfl ?_
            refine jx_load c1 hm rfl rfl rfl rfl ?_
            refine jy_ic c1 hm rfl (by decide) ?_
            refine jy_add c1 hm (b45 + 1) rfl (by omega) ?_
            have t66 : 0 ≤ (b45 + 1) ∧ (b45 + 1) ≤ 939 := by omega
            obtain ⟨z67, k68, lz67, uz67⟩ := hH47.ld (c := 174) (i := ((b45 + 1)).toNat) (A := 0) (B := 255) rfl
            refine jx_iald c1 hm rfl sh_174 ⟨by omega, by omega⟩ k68 ?_
            refine jc_ne c1 hm 176 rfl rfl (fun h69 => ?_) (fun h69 => ?_)
            ·
             refine jy_ic c1 hm rfl (by decide) ?_
             exact J71 0 (by omega)
            refine jy_ic c1 hm rfl (by decide) ?_
            refine jx_goto c1 hm 177 rfl rfl ?_
            exact J71 1 (by omega)
          exact W52 (941 + 1 : Int).toNat 1 (by omega) 0 (by omega) o23 ho23 M34 hH34 hF34 k35 k36 k37 (by omega) (by omega)
         refine jx_load c1 hm rfl rfl rfl rfl ?_
         refine jx_getr c1 hm rfl sh_173 rfl ?_
         refine jx_load c1 hm rfl rfl rfl rfl ?_
         refine jx_load c1 hm rfl rfl rfl rfl ?_
         refine jx_load c1 hm rfl rfl rfl rfl ?_
         refine jx_load c1 hm rfl rfl rfl rfl ?_
         refine jv_i c3 hm rfl pj_X12_timesOf rfl rfl ⟨_, _, _, rfl, sh_173⟩ rfl ((ct_X12_timesOf_173 X (by omega) M34 hH34 b20 ⟨by omega, by omega⟩ b33 ⟨by omega, by omega⟩).le (by decide)) (fun z41 _ ⟨rfl, lz41, uz41, p42⟩ => ?_)
         obtain ⟨M43, e43, hH43, hF43, k43, n43, q43⟩ := mup hH34 hF34 (c := 190) (i := (b33).toNat) (v := z41) (A := (-2147483648)) (B := 2147483647) rfl ⟨by omega, by omega⟩ (jin_of 3 rfl ⟨by omega, by omega⟩)
         refine jm_iast c1 hm rfl sh_190 ⟨by omega, by omega⟩ e43 ?_
         refine jx_iinc c1 hm (v := (b33 + 1)) (L' := [some (.inr (.inr (.inl 173))), some (.inl z2), some (.inl b19), some (.inl b20), some (.inl (b33 + 1)), o22, o23]) rfl rfl (by omega) (by omega) rfl ?_
         refine jx_goto c1 hm 75 rfl rfl ?_
         have k101 : M43.1 173 0 = 0 := (n43 173 0 (fun h => absurd h.1 (by decide))).trans k35
         have k102 : M43.1 173 2 = z5 := (n43 173 2 (fun h => absurd h.1 (by decide))).trans k36
         have k103 : M43.1 175 0 = z30 := (n43 175 0 (fun h => absurd h.1 (by decide))).trans k37
         exact ihW38 (b33 + 1) (by omega) M43 hH43 hF43 k101 k102 k103 (by omega)
       exact W38 (6 + 1 : Int).toNat 0 (by omega) M24 hH24 hF24 k26 k27 k31 (by omega)
     have k25 : M4.1 173 0 = 0 := (hR4 173 0 (by decide +kernel)).trans k1
     exact W28 (6 + 1 : Int).toNat 0 (by omega) 0 (by omega) none (Or.inl rfl) none (Or.inl rfl) none (Or.inl rfl) M4 hH4 hF4 k25 k6 (by omega)
    refine jx_load c1 hm rfl rfl rfl rfl ?_
    refine jx_load c1 hm rfl rfl rfl rfl ?_
    refine jx_getr c1 hm rfl sh_173 rfl ?_
    refine jx_load c1 hm rfl rfl rfl rfl ?_
    obtain ⟨z131, k132, lz131, uz131⟩ := hH4.ld (c := 174) (i := (b13).toNat) (A := 0) (B := 255) rfl
    refine jx_iald c1 hm rfl sh_174 ⟨by omega, by omega⟩ k132 ?_
    refine jv_i c3 hm rfl pj_X12_isForfeit rfl rfl ⟨_, _, _, rfl, sh_173⟩ rfl ((ct_X12_isForfeit_173 X (by omega) M4 hH4 z131 ⟨by omega, by omega⟩).le (by decide)) (fun z133 _ ⟨rfl, lz133, uz133, p134⟩ => ?_)
    refine jz_ne c1 hm 52 rfl rfl (fun h135 => ?_) (fun h135 => ?_)
    ·
     refine jx_iinc c1 hm (v := (b13 + 2)) (L' := [some (.inr (.inr (.inl 173))), some (.inl z2), some (.inl (b13 + 2)), none, none, none, none]) rfl rfl (by omega) (by omega) rfl ?_
     refine jx_goto c1 hm 32 rfl rfl ?_
     exact ihW16 (b13 + 2) (by omega) (fun j hj hp => if c : (j : Int) < b13 then hq1 j c hp else (by have e : j = (b13).toNat := (by omega); subst e; have := hF4 174 (b13).toNat rfl; omega)) (by omega) (by omega)
    refine jy_ic c1 hm rfl (by decide) ?_
    exact jx_reti c2 hm rfl rfl ⟨_, rfl, hH4, hF4, by omega, by omega, (by omega)⟩
  exact W16 (941 + 1 : Int).toNat 0 (by omega) (fun j hj _ => by omega) (by omega) (by omega)
 refine jy_ic c1 hm rfl (by decide) ?_
 exact jx_reti c2 hm rfl rfl ⟨_, rfl, hH4, hF4, by omega, by omega, (by omega)⟩
def md_X12_fault_173t : List (Nat × (Nat × Nat)) := [(173, (0, 0))]
theorem ct_X12_fault_173t (X : Int) (hX : 0 ≤ X ∧ X ≤ 100000000) (M0 : JM) (hH0 : HI X M0)  : JOk shp PJ 1 102 [.inr (.inr (.inl 173))] M0 (jRi (fun v M' => HI X M' ∧ Fr md_X12_fault_173t M0 M' ∧ (-2147483648) ≤ v ∧ v ≤ 2147483647 ∧ (v = M0.1 173 10))) := by
 refine ⟨jr_X12_fault, pj_X12_fault, fun F c1 c2 c3 => ?_⟩
 have hm := pj_X12_fault
 change F 0 [some (.inr (.inr (.inl 173)))] [] M0
 have hF0 : Fr md_X12_fault_173t M0 M0 := Fr.rf _ _
 obtain ⟨z1, k2, lz1, uz1⟩ := hH0.ld (c := 173) (i := 10) (A := (-2147483648)) (B := 2147483647) (bs_28_5 _ _ (by omega) (by omega))
 refine jx_load c1 hm rfl rfl rfl rfl ?_
 refine jy_ic c1 hm rfl (by decide) ?_
 obtain ⟨M3, e3, hH3, hF3, k3, n3, q3⟩ := mup hH0 hF0 (c := 173) (i := 0) (v := 0) (A := (-2147483648)) (B := 2147483647) (bs_28_0 _ _ (by omega) (by omega)) ⟨by omega, by omega⟩ (jin_of 0 rfl ⟨by omega, by omega⟩)
 refine jm_puti c1 hm rfl sh_173 rfl e3 ?_
 refine jx_load c1 hm rfl rfl rfl rfl ?_
 have k4 : M3.1 173 10 = z1 := (n3 173 10 (by decide)).trans k2
 refine jx_geti c1 hm rfl sh_173 rfl k4 ?_
 exact jx_reti c2 hm rfl rfl ⟨_, rfl, hH3, hF3, by omega, by omega, (by omega)⟩
