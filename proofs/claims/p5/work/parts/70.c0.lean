/-! Contracts of the class (by wip/q/wlk.py). -/
def md_X11_feedNumber_0 : List (Nat × (Nat × Nat)) := [(0, (2, 2)), (2, (0, 939))]
theorem ct_X11_feedNumber_0 (X : Int) (hX : 0 ≤ X ∧ X ≤ 100000000) (M0 : JM) (hH0 : HI X M0) (a0 : Int) (ha0 : (-2147483648) ≤ a0 ∧ a0 ≤ 2147483647) : JOk shp PJ 1 39 [.inr (.inr (.inl 0)), .inl a0] M0 (jRv (fun M' => HI X M' ∧ Fr md_X11_feedNumber_0 M0 M' )) := by
 refine ⟨jr_X11_feedNumber, pj_X11_feedNumber, fun F c1 c2 c3 => ?_⟩
 have hm := pj_X11_feedNumber
 change F 0 [some (.inr (.inr (.inl 0))), some (.inl a0), none] [] M0
 have hF0 : Fr md_X11_feedNumber_0 M0 M0 := Fr.rf _ _
 refine jy_bp c1 hm rfl (by decide) ?_
 refine jx_stor c1 hm (L' := [some (.inr (.inr (.inl 0))), some (.inl a0), some (.inl 24)]) rfl rfl rfl rfl rfl ?_
 have W3 : ∀ (n4 : Nat) (b1 : Int) (hb1 : (-8) ≤ b1 ∧ b1 ≤ 24) (M2 : JM) (hH2 : HI (X) M2) (hF2 : Fr md_X11_feedNumber_0 M0 M2), (b1 + 8) < (n4 : Int) → F 3 [some (.inr (.inr (.inl 0))), some (.inl a0), some (.inl b1)] [] M2 := by
  intro n4
  induction n4 with
  | zero => intros; omega
  | succ n4 ihW3 =>
   intro b1 hb1 M2 hH2 hF2 hrW3
   refine jx_load c1 hm rfl rfl rfl rfl ?_
   refine jz_lt c1 hm 46 rfl rfl (fun h5 => ?_) (fun h5 => ?_)
   ·
    exact jx_retv c2 hm rfl rfl ⟨rfl, hH2, hF2⟩
   refine jx_load c1 hm rfl rfl rfl rfl ?_
   obtain ⟨z6, k7, lz6, uz6⟩ := hH2.ld (c := 0) (i := 2) (A := 0) (B := 940) (bs_18_1 _ _ (by omega) (by omega))
   refine jx_geti c1 hm rfl sh_0 rfl k7 ?_
   refine jy_sp c1 hm rfl (by decide) ?_
   refine jc_ge c1 hm 46 rfl rfl (fun h8 => ?_) (fun h8 => ?_)
   ·
    exact jx_retv c2 hm rfl rfl ⟨rfl, hH2, hF2⟩
   refine jx_load c1 hm rfl rfl rfl rfl ?_
   refine jx_getr c1 hm rfl sh_0 rfl ?_
   refine jx_load c1 hm rfl rfl rfl rfl ?_
   refine jx_geti c1 hm rfl sh_0 rfl k7 ?_
   refine jx_load c1 hm rfl rfl rfl rfl ?_
   refine jx_load c1 hm rfl rfl rfl rfl ?_
   refine jx_iopw c1 hm rfl rfl (fun z9 lz9 uz9 => ?_)
   refine jy_i2b c1 hm rfl (fun z10 lz10 uz10 => ?_)
   obtain ⟨M11, e11, hH11, hF11, k11, n11, _⟩ := mup hH2 hF2 (c := 2) (i := (z6).toNat) (v := z10) (A := (-128)) (B := 127) rfl ⟨by omega, by omega⟩ (jin_of 1 rfl ⟨by omega, by omega⟩)
   refine jm_bast c1 hm rfl sh_2 (Or.inl ⟨rfl, by omega, by omega⟩) ⟨by omega, by omega⟩ e11 ?_
   refine jx_load c1 hm rfl rfl rfl rfl ?_
   refine jx_dup c1 hm rfl rfl ?_
   have k12 : M11.1 0 2 = z6 := (n11 0 2 (fun h => absurd h.1 (by decide))).trans k7
   refine jx_geti c1 hm rfl sh_0 rfl k12 ?_
   refine jy_ic c1 hm rfl (by decide) ?_
   refine jy_add c1 hm (z6 + 1) rfl (by omega) ?_
   obtain ⟨M13, e13, hH13, hF13, k13, n13, _⟩ := mup hH11 hF11 (c := 0) (i := 2) (v := (z6 + 1)) (A := 0) (B := 940) (bs_18_1 _ _ (by omega) (by omega)) ⟨by omega, by omega⟩ (jin_of 0 rfl ⟨by omega, by omega⟩)
   refine jm_puti c1 hm rfl sh_0 rfl e13 ?_
   refine jx_iinc c1 hm (v := (b1 - 8)) (L' := [some (.inr (.inr (.inl 0))), some (.inl a0), some (.inl (b1 - 8))]) rfl rfl (by omega) (by omega) rfl ?_
   refine jx_goto c1 hm 3 rfl rfl ?_
   exact ihW3 (b1 - 8) (by omega) M13 hH13 hF13 (by omega)
 exact W3 (32 + 1 : Int).toNat 24 (by omega) M0 hH0 hF0 (by omega)
def md_X11_feed_0 : List (Nat × (Nat × Nat)) := [(0, (2, 2)), (2, (0, 939))]
theorem ct_X11_feed_0 (X : Int) (hX : 0 ≤ X ∧ X ≤ 100000000) (M0 : JM) (hH0 : HI X M0) (a0 : Int) (ha0 : (-2147483648) ≤ a0 ∧ a0 ≤ 2147483647) (a1 : Int) (ha1 : (-2147483648) ≤ a1 ∧ a1 ≤ 2147483647) (a2 : Int) (ha2 : (-2147483648) ≤ a2 ∧ a2 ≤ 2147483647) (a3 : Int) (ha3 : (-2147483648) ≤ a3 ∧ a3 ≤ 2147483647) (a4 : Int) (ha4 : (-2147483648) ≤ a4 ∧ a4 ≤ 2147483647) : JOk shp PJ 2 38 [.inr (.inr (.inl 0)), .inl a0, .inl a1, .inl a2, .inl a3, .inl a4] M0 (jRi (fun v M' => HI X M' ∧ Fr md_X11_feed_0 M0 M' ∧ (-1) ≤ v ∧ v ≤ 940 )) := by
 refine ⟨jr_X11_feed, pj_X11_feed, fun F c1 c2 c3 => ?_⟩
 have hm := pj_X11_feed
 change F 0 [some (.inr (.inr (.inl 0))), some (.inl a0), some (.inl a1), some (.inl a2), some (.inl a3), some (.inl a4)] [] M0
 have hF0 : Fr md_X11_feed_0 M0 M0 := Fr.rf _ _
 refine jx_load c1 hm rfl rfl rfl rfl ?_
 obtain ⟨z1, k2, lz1, uz1⟩ := hH0.ld (c := 0) (i := 2) (A := 0) (B := 940) (bs_18_1 _ _ (by omega) (by omega))
 refine jx_geti c1 hm rfl sh_0 rfl k2 ?_
 refine jy_bp c1 hm rfl (by decide) ?_
 refine jy_add c1 hm (z1 + 20) rfl (by omega) ?_
 refine jy_sp c1 hm rfl (by decide) ?_
 refine jc_le c1 hm 15 rfl rfl (fun h3 => ?_) (fun h3 => ?_)
 ·
  refine jx_load c1 hm rfl rfl rfl rfl ?_
  refine jx_load c1 hm rfl rfl rfl rfl ?_
  refine jv_v c3 hm rfl pj_X11_feedNumber rfl rfl ⟨_, _, _, rfl, sh_0⟩ rfl ((ct_X11_feedNumber_0 X (by omega) M0 hH0 a0 ⟨by omega, by omega⟩).le (by decide)) (fun M4 ⟨hH4, hR4⟩ => ?_)
  have hF4 := hF0.tr hR4 (by decide +kernel)
  refine jx_load c1 hm rfl rfl rfl rfl ?_
  refine jx_load c1 hm rfl rfl rfl rfl ?_
  refine jv_v c3 hm rfl pj_X11_feedNumber rfl rfl ⟨_, _, _, rfl, sh_0⟩ rfl ((ct_X11_feedNumber_0 X (by omega) M4 hH4 a1 ⟨by omega, by omega⟩).le (by decide)) (fun M5 ⟨hH5, hR5⟩ => ?_)
  have hF5 := hF4.tr hR5 (by decide +kernel)
  refine jx_load c1 hm rfl rfl rfl rfl ?_
  refine jx_load c1 hm rfl rfl rfl rfl ?_
  refine jv_v c3 hm rfl pj_X11_feedNumber rfl rfl ⟨_, _, _, rfl, sh_0⟩ rfl ((ct_X11_feedNumber_0 X (by omega) M5 hH5 a2 ⟨by omega, by omega⟩).le (by decide)) (fun M6 ⟨hH6, hR6⟩ => ?_)
  have hF6 := hF5.tr hR6 (by decide +kernel)
  refine jx_load c1 hm rfl rfl rfl rfl ?_
  refine jx_load c1 hm rfl rfl rfl rfl ?_
  refine jv_v c3 hm rfl pj_X11_feedNumber rfl rfl ⟨_, _, _, rfl, sh_0⟩ rfl ((ct_X11_feedNumber_0 X (by omega) M6 hH6 a3 ⟨by omega, by omega⟩).le (by decide)) (fun M7 ⟨hH7, hR7⟩ => ?_)
  have hF7 := hF6.tr hR7 (by decide +kernel)
  refine jx_load c1 hm rfl rfl rfl rfl ?_
  refine jx_load c1 hm rfl rfl rfl rfl ?_
  refine jv_v c3 hm rfl pj_X11_feedNumber rfl rfl ⟨_, _, _, rfl, sh_0⟩ rfl ((ct_X11_feedNumber_0 X (by omega) M7 hH7 a4 ⟨by omega, by omega⟩).le (by decide)) (fun M8 ⟨hH8, hR8⟩ => ?_)
  have hF8 := hF7.tr hR8 (by decide +kernel)
  refine jx_load c1 hm rfl rfl rfl rfl ?_
  obtain ⟨z9, k10, lz9, uz9⟩ := hH8.ld (c := 0) (i := 2) (A := 0) (B := 940) (bs_18_1 _ _ (by omega) (by omega))
  refine jx_geti c1 hm rfl sh_0 rfl k10 ?_
  exact jx_reti c2 hm rfl rfl ⟨_, rfl, hH8, hF8, by omega, by omega⟩
 refine jy_ic c1 hm rfl (by decide) ?_
 exact jx_reti c2 hm rfl rfl ⟨_, rfl, hH0, hF0, by omega, by omega⟩
def md_X11_end_0 : List (Nat × (Nat × Nat)) := [(0, (2, 2))]
theorem ct_X11_end_0 (X : Int) (hX : 0 ≤ X ∧ X ≤ 100000000) (M0 : JM) (hH0 : HI X M0) (a0 : Int) (ha0 : (-2147483648) ≤ a0 ∧ a0 ≤ 2147483647) : JOk shp PJ 1 35 [.inr (.inr (.inl 0)), .inl a0] M0 (jRi (fun v M' => HI X M' ∧ Fr md_X11_end_0 M0 M' ∧ 0 ≤ v ∧ v ≤ 1 )) := by
 refine ⟨jr_X11_end, pj_X11_end, fun F c1 c2 c3 => ?_⟩
 have hm := pj_X11_end
 change F 0 [some (.inr (.inr (.inl 0))), some (.inl a0)] [] M0
 have hF0 : Fr md_X11_end_0 M0 M0 := Fr.rf _ _
 refine jx_load c1 hm rfl rfl rfl rfl ?_
 refine jz_lt c1 hm 12 rfl rfl (fun h1 => ?_) (fun h1 => ?_)
 ·
  refine jy_ic c1 hm rfl (by decide) ?_
  exact jx_retz c2 hm rfl rfl ⟨by omega, by omega⟩ ⟨_, rfl, hH0, hF0, by omega, by omega⟩
 refine jx_load c1 hm rfl rfl rfl rfl ?_
 refine jx_load c1 hm rfl rfl rfl rfl ?_
 obtain ⟨z2, k3, lz2, uz2⟩ := hH0.ld (c := 0) (i := 2) (A := 0) (B := 940) (bs_18_1 _ _ (by omega) (by omega))
 refine jx_geti c1 hm rfl sh_0 rfl k3 ?_
 refine jc_le c1 hm 14 rfl rfl (fun h4 => ?_) (fun h4 => ?_)
 ·
  refine jx_load c1 hm rfl rfl rfl rfl ?_
  refine jx_load c1 hm rfl rfl rfl rfl ?_
  obtain ⟨M5, e5, hH5, hF5, k5, n5, _⟩ := mup hH0 hF0 (c := 0) (i := 2) (v := a0) (A := 0) (B := 940) (bs_18_1 _ _ (by omega) (by omega)) ⟨by omega, by omega⟩ (jin_of 0 rfl ⟨by omega, by omega⟩)
  refine jm_puti c1 hm rfl sh_0 rfl e5 ?_
  refine jy_ic c1 hm rfl (by decide) ?_
  exact jx_retz c2 hm rfl rfl ⟨by omega, by omega⟩ ⟨_, rfl, hH5, hF5, by omega, by omega⟩
 refine jy_ic c1 hm rfl (by decide) ?_
 exact jx_retz c2 hm rfl rfl ⟨by omega, by omega⟩ ⟨_, rfl, hH0, hF0, by omega, by omega⟩
def md_X10_readRun_1 : List (Nat × (Nat × Nat)) := [(1, (4, 4)), (1, (6, 6)), (1, (9, 9))]
theorem ct_X10_readRun_1 (X : Int) (hX : 0 ≤ X ∧ X ≤ 100000000) (M0 : JM) (hH0 : HI X M0)  : JOk shp PJ 1 18 [.inr (.inr (.inl 1))] M0 (jRv (fun M' => HI X M' ∧ Fr md_X10_readRun_1 M0 M' )) := by
 refine ⟨jr_X10_readRun, pj_X10_readRun, fun F c1 c2 c3 => ?_⟩
 have hm := pj_X10_readRun
 change F 0 [some (.inr (.inr (.inl 1))), none, none, none] [] M0
 have hF0 : Fr md_X10_readRun_1 M0 M0 := Fr.rf _ _
 obtain ⟨z1, k2, lz1, uz1⟩ := hH0.ld (c := 1) (i := 4) (A := 0) (B := 940) (bs_19_3 _ _ (by omega) (by omega))
 obtain ⟨z3, k4, lz3, uz3⟩ := hH0.ld (c := 1) (i := 2) (A := 0) (B := 940) (bs_19_1 _ _ (by omega) (by omega))
 refine jy_ic c1 hm rfl (by decide) ?_
 refine jx_stor c1 hm (L' := [some (.inr (.inr (.inl 1))), some (.inl 0), none, none]) rfl rfl rfl rfl rfl ?_
 refine jy_ic c1 hm rfl (by decide) ?_
 refine jx_stor c1 hm (L' := [some (.inr (.inr (.inl 1))), some (.inl 0), some (.inl 0), none]) rfl rfl rfl rfl rfl ?_
 refine jx_load c1 hm rfl rfl rfl rfl ?_
 refine jx_lcon c1 hm (v := 0) rfl (by decide) ?_
 obtain ⟨M5, e5, hH5, hF5, n5, k5, _⟩ := mul hH0 hF0 (c := 1) (i := 8) (v := 0) (fun h => absurd h (by decide))
 refine jm_putl c1 hm rfl sh_1 rfl e5 ?_
 refine jx_load c1 hm rfl rfl rfl rfl ?_
 refine jy_ic c1 hm rfl (by decide) ?_
 obtain ⟨M6, e6, hH6, hF6, k6, n6, _⟩ := mup hH5 hF5 (c := 1) (i := 9) (v := 0) (A := (-2147483648)) (B := 2147483647) (bs_19_6 _ _ (by omega) (by omega)) ⟨by omega, by omega⟩ (jin_of 2 rfl ⟨by omega, by omega⟩)
 refine jm_puti c1 hm rfl sh_1 rfl e6 ?_
 have W20 : ∀ (n21 : Nat) (b7 : Int) (hb7 : 0 ≤ b7 ∧ b7 ≤ 941) (b8 : Int) (hb8 : 0 ≤ b8 ∧ b8 ≤ 941) (o9 : Option JV) (ho9 : o9 = none ∨ (∃ z, o9 = some (.inl z)) ∨ ∃ r, o9 = some (.inr (.inr r))) (M10 : JM) (hH10 : HI (X) M10) (hF10 : Fr md_X10_readRun_1 M0 M10) (k12 : M10.1 1 2 = z3) (b14 : Int) (hb14 : 0 ≤ b14 ∧ b14 ≤ 940) (k15 : M10.1 1 4 = b14) (b16 : Int) (hb16 : (-2147483648) ≤ b16 ∧ b16 ≤ 2147483647) (k17 : M10.1 1 9 = b16) (h18 : b7 ≤ M10.1 1 4) (h19 : b8 ≤ M10.1 1 4), (-b14 + 940) < (n21 : Int) → F 14 [some (.inr (.inr (.inl 1))), some (.inl b7), some (.inl b8), o9] [] M10 := by
  intro n21
  induction n21 with
  | zero => intros; omega
  | succ n21 ihW20 =>
   intro b7 hb7 b8 hb8 o9 ho9 M10 hH10 hF10 k12 b14 hb14 k15 b16 hb16 k17 h18 h19 hrW20
   refine jx_load c1 hm rfl rfl rfl rfl ?_
   refine jx_geti c1 hm rfl sh_1 rfl k15 ?_
   refine jx_load c1 hm rfl rfl rfl rfl ?_
   refine jx_geti c1 hm rfl sh_1 rfl k12 ?_
   have J44 : ∀ (o43 : Option JV) (ho43 : o43 = none ∨ (∃ z, o43 = some (.inl z)) ∨ ∃ r, o43 = some (.inr (.inr r))), F 111 [some (.inr (.inr (.inl 1))), some (.inl b7), some (.inl b8), o43] [] M10 := by
    intro o43 ho43
    refine jx_load c1 hm rfl rfl rfl rfl ?_
    refine jz_ne c1 hm 133 rfl rfl (fun h45 => ?_) (fun h45 => ?_)
    ·
     refine jx_load c1 hm rfl rfl rfl rfl ?_
     refine jx_load c1 hm rfl rfl rfl rfl ?_
     have J49 : ∀ (b48 : Int) (hb48 : 2 ≤ b48 ∧ b48 ≤ 4), F 148 [some (.inr (.inr (.inl 1))), some (.inl b7), some (.inl b8), o43] [.inl b48, .inr (.inr (.inl 1))] M10 := by
      intro b48 hb48
      obtain ⟨M50, e50, hH50, hF50, k50, n50, _⟩ := mup hH10 hF10 (c := 1) (i := 6) (v := b48) (A := 0) (B := 4) (bs_19_4 _ _ (by omega) (by omega)) ⟨by omega, by omega⟩ (jin_of 1 rfl ⟨by omega, by omega⟩)
      refine jm_puti c1 hm rfl sh_1 rfl e50 ?_
      exact jx_retv c2 hm rfl rfl ⟨rfl, hH50, hF50⟩
     refine jz_ne c1 hm 147 rfl rfl (fun h46 => ?_) (fun h46 => ?_)
     ·
      refine jy_ic c1 hm rfl (by decide) ?_
      exact J49 4 (by omega)
     refine jx_load c1 hm rfl rfl rfl rfl ?_
     refine jy_ic c1 hm rfl (by decide) ?_
     refine jc_gt c1 hm 147 rfl rfl (fun h47 => ?_) (fun h47 => ?_)
     ·
      refine jy_ic c1 hm rfl (by decide) ?_
      exact J49 4 (by omega)
     refine jy_ic c1 hm rfl (by decide) ?_
     refine jx_goto c1 hm 148 rfl rfl ?_
     exact J49 2 (by omega)
    refine jx_load c1 hm rfl rfl rfl rfl ?_
    refine jx_load c1 hm rfl rfl rfl rfl ?_
    refine jy_bp c1 hm rfl (by decide) ?_
    have J53 : ∀ (b52 : Int) (hb52 : 1 ≤ b52 ∧ b52 ≤ 4), F 127 [some (.inr (.inr (.inl 1))), some (.inl b7), some (.inl b8), o43] [.inl b52, .inr (.inr (.inl 1))] M10 := by
     intro b52 hb52
     obtain ⟨M54, e54, hH54, hF54, k54, n54, _⟩ := mup hH10 hF10 (c := 1) (i := 6) (v := b52) (A := 0) (B := 4) (bs_19_4 _ _ (by omega) (by omega)) ⟨by omega, by omega⟩ (jin_of 1 rfl ⟨by omega, by omega⟩)
     refine jm_puti c1 hm rfl sh_1 rfl e54 ?_
     refine jx_goto c1 hm 151 rfl rfl ?_
     exact jx_retv c2 hm rfl rfl ⟨rfl, hH54, hF54⟩
    refine jc_gt c1 hm 126 rfl rfl (fun h51 => ?_) (fun h51 => ?_)
    ·
     refine jy_ic c1 hm rfl (by decide) ?_
     exact J53 4 (by omega)
    refine jy_ic c1 hm rfl (by decide) ?_
    refine jx_goto c1 hm 127 rfl rfl ?_
    exact J53 1 (by omega)
   refine jc_ge c1 hm 111 rfl rfl (fun h22 => ?_) (fun h22 => ?_)
   ·
    exact J44 o9 ho9
   refine jx_load c1 hm rfl rfl rfl rfl ?_
   refine jx_getr c1 hm rfl sh_1 rfl ?_
   refine jx_load c1 hm rfl rfl rfl rfl ?_
   refine jx_geti c1 hm rfl sh_1 rfl k15 ?_
   obtain ⟨z23, k24, lz23, uz23⟩ := hH10.ld (c := 2) (i := (b14).toNat) (A := (-128)) (B := 127) rfl
   refine jx_bald c1 hm rfl sh_2 rfl ⟨by omega, by omega⟩ k24 ?_
   refine jx_stor c1 hm (L' := [some (.inr (.inr (.inl 1))), some (.inl b7), some (.inl b8), some (.inl z23)]) rfl rfl rfl rfl rfl ?_
   refine jx_load c1 hm rfl rfl rfl rfl ?_
   refine jy_bp c1 hm rfl (by decide) ?_
   refine jc_lt c1 hm 67 rfl rfl (fun h25 => ?_) (fun h25 => ?_)
   ·
    refine jx_load c1 hm rfl rfl rfl rfl ?_
    refine jy_bp c1 hm rfl (by decide) ?_
    refine jc_lt c1 hm 111 rfl rfl (fun h26 => ?_) (fun h26 => ?_)
    ·
     exact J44 (some (.inl z23)) (Or.inr (Or.inl ⟨_, rfl⟩))
    refine jx_load c1 hm rfl rfl rfl rfl ?_
    refine jy_bp c1 hm rfl (by decide) ?_
    refine jc_gt c1 hm 111 rfl rfl (fun h27 => ?_) (fun h27 => ?_)
    ·
     exact J44 (some (.inl z23)) (Or.inr (Or.inl ⟨_, rfl⟩))
    refine jx_iinc c1 hm (v := (b8 + 1)) (L' := [some (.inr (.inr (.inl 1))), some (.inl b7), some (.inl (b8 + 1)), some (.inl z23)]) rfl rfl (by omega) (by omega) rfl ?_
    refine jx_load c1 hm rfl rfl rfl rfl ?_
    refine jx_load c1 hm rfl rfl rfl rfl ?_
    refine jx_geti c1 hm rfl sh_1 rfl k17 ?_
    refine jy_bp c1 hm rfl (by decide) ?_
    refine jx_iopw c1 hm rfl rfl (fun z28 lz28 uz28 => ?_)
    refine jx_load c1 hm rfl rfl rfl rfl ?_
    refine jy_bp c1 hm rfl (by decide) ?_
    refine jy_sub c1 hm (z23 - 48) rfl (by omega) ?_
    refine jx_iopw c1 hm rfl rfl (fun z29 lz29 uz29 => ?_)
    obtain ⟨M30, e30, hH30, hF30, k30, n30, _⟩ := mup hH10 hF10 (c := 1) (i := 9) (v := z29) (A := (-2147483648)) (B := 2147483647) (bs_19_6 _ _ (by omega) (by omega)) ⟨by omega, by omega⟩ (jin_of 2 rfl ⟨by omega, by omega⟩)
    refine jm_puti c1 hm rfl sh_1 rfl e30 ?_
    refine jx_load c1 hm rfl rfl rfl rfl ?_
    refine jx_dup c1 hm rfl rfl ?_
    have k31 : M30.1 1 4 = b14 := (n30 1 4 (by decide)).trans k15
    refine jx_geti c1 hm rfl sh_1 rfl k31 ?_
    refine jy_ic c1 hm rfl (by decide) ?_
    refine jy_add c1 hm (b14 + 1) rfl (by omega) ?_
    obtain ⟨M32, e32, hH32, hF32, k32, n32, _⟩ := mup hH30 hF30 (c := 1) (i := 4) (v := (b14 + 1)) (A := 0) (B := 940) (bs_19_3 _ _ (by omega) (by omega)) ⟨by omega, by omega⟩ (jin_of 0 rfl ⟨by omega, by omega⟩)
    refine jm_puti c1 hm rfl sh_1 rfl e32 ?_
    refine jx_goto c1 hm 14 rfl rfl ?_
    have k55 : M32.1 1 2 = z3 := (n32 1 2 (by decide)).trans ((n30 1 2 (by decide)).trans k12)
    have k56 : M32.1 1 9 = z29 := (n32 1 9 (by decide)).trans k30
    exact ihW20 b7 (by omega) (b8 + 1) (by omega) (some (.inl z23)) (Or.inr (Or.inl ⟨_, rfl⟩)) M32 hH32 hF32 k55 (b14 + 1) (by omega) k32 z29 (by omega) k56 (by omega) (by omega) (by omega)
   refine jx_load c1 hm rfl rfl rfl rfl ?_
   refine jy_bp c1 hm rfl (by decide) ?_
   refine jc_gt c1 hm 67 rfl rfl (fun h33 => ?_) (fun h33 => ?_)
   ·
    refine jx_load c1 hm rfl rfl rfl rfl ?_
    refine jy_bp c1 hm rfl (by decide) ?_
    refine jc_lt c1 hm 111 rfl rfl (fun h34 => ?_) (fun h34 => ?_)
    ·
     exfalso; omega
    refine jx_load c1 hm rfl rfl rfl rfl ?_
    refine jy_bp c1 hm rfl (by decide) ?_
    refine jc_gt c1 hm 111 rfl rfl (fun h35 => ?_) (fun h35 => ?_)
    ·
     exact J44 (some (.inl z23)) (Or.inr (Or.inl ⟨_, rfl⟩))
    exfalso; omega
   refine jx_iinc c1 hm (v := (b7 + 1)) (L' := [some (.inr (.inr (.inl 1))), some (.inl (b7 + 1)), some (.inl b8), some (.inl z23)]) rfl rfl (by omega) (by omega) rfl ?_
   refine jx_load c1 hm rfl rfl rfl rfl ?_
   refine jx_load c1 hm rfl rfl rfl rfl ?_
   obtain ⟨w36, kw36⟩ : ∃ w, M10.2 1 8 = w := ⟨_, rfl⟩
   refine jx_getl c1 hm rfl sh_1 rfl kw36 ?_
   refine jy_bp c1 hm rfl (by decide) ?_
   refine jx_lsh c1 hm rfl rfl (fun w37 ew37 => ?_)
   refine jx_load c1 hm rfl rfl rfl rfl ?_
   refine jx_i2l c1 hm rfl (fun w38 ew38 => ?_)
   refine jx_lop c1 hm rfl rfl (fun w39 ew39 => ?_)
   obtain ⟨M40, e40, hH40, hF40, n40, k40, _⟩ := mul hH10 hF10 (c := 1) (i := 8) (v := w39) (fun h => absurd h (by decide))
   refine jm_putl c1 hm rfl sh_1 rfl e40 ?_
   refine jx_goto c1 hm 98 rfl rfl ?_
   refine jx_load c1 hm rfl rfl rfl rfl ?_
   refine jx_dup c1 hm rfl rfl ?_
   have k41 : M40.1 1 4 = b14 := (n40 1 4).trans k15
   refine jx_geti c1 hm rfl sh_1 rfl k41 ?_
   refine jy_ic c1 hm rfl (by decide) ?_
   refine jy_add c1 hm (b14 + 1) rfl (by omega) ?_
   obtain ⟨M42, e42, hH42, hF42, k42, n42, _⟩ := mup hH40 hF40 (c := 1) (i := 4) (v := (b14 + 1)) (A := 0) (B := 940) (bs_19_3 _ _ (by omega) (by omega)) ⟨by omega, by omega⟩ (jin_of 0 rfl ⟨by omega, by omega⟩)
   refine jm_puti c1 hm rfl sh_1 rfl e42 ?_
   refine jx_goto c1 hm 14 rfl rfl ?_
   have k57 : M42.1 1 2 = z3 := (n42 1 2 (by decide)).trans ((n40 1 2).trans k12)
   have k58 : M42.1 1 9 = b16 := (n42 1 9 (by decide)).trans ((n40 1 9).trans k17)
   exact ihW20 (b7 + 1) (by omega) b8 (by omega) (some (.inl z23)) (Or.inr (Or.inl ⟨_, rfl⟩)) M42 hH42 hF42 k57 (b14 + 1) (by omega) k42 b16 (by omega) k58 (by omega) (by omega) (by omega)
 have k11 : M6.1 1 2 = z3 := (n6 1 2 (by decide)).trans ((n5 1 2).trans k4)
 have k13 : M6.1 1 4 = z1 := (n6 1 4 (by decide)).trans ((n5 1 4).trans k2)
 exact W20 ((-z1 + 940) + 1 : Int).toNat 0 (by omega) 0 (by omega) none (Or.inl rfl) M6 hH6 hF6 k11 z1 (by omega) k13 0 (by omega) k6 (by omega) (by omega) (by omega)
theorem ct_X10_keyOf_1 (X : Int) (hX : 0 ≤ X ∧ X ≤ 100000000) (M0 : JM) (hH0 : HI X M0) (a0 : Int64) : JOk shp PJ 1 16 [.inr (.inr (.inl 1)), .inr (.inl a0)] M0 (jRi (fun v M' => M0 = M' ∧ (-1) ≤ v ∧ v ≤ 23 )) := by
 refine ⟨jr_X10_keyOf, pj_X10_keyOf, fun F c1 c2 c3 => ?_⟩
 have hm := pj_X10_keyOf
 change F 0 [some (.inr (.inr (.inl 1))), some (.inr (.inl a0)), none, none] [] M0
 refine jy_ic c1 hm rfl (by decide) ?_
 refine jx_stor c1 hm (L' := [some (.inr (.inr (.inl 1))), some (.inr (.inl a0)), none, some (.inl 0)]) rfl rfl rfl rfl rfl ?_
 have W2 : ∀ (n3 : Nat) (b1 : Int) (hb1 : 0 ≤ b1 ∧ b1 ≤ 24), (-b1 + 24) < (n3 : Int) → F 2 [some (.inr (.inr (.inl 1))), some (.inr (.inl a0)), none, some (.inl b1)] [] M0 := by
  intro n3
  induction n3 with
  | zero => intros; omega
  | succ n3 ihW2 =>
   intro b1 hb1 hrW2
   refine jx_load c1 hm rfl rfl rfl rfl ?_
   refine jy_bp c1 hm rfl (by decide) ?_
   refine jc_ge c1 hm 27 rfl rfl (fun h4 => ?_) (fun h4 => ?_)
   ·
    refine jy_ic c1 hm rfl (by decide) ?_
    exact jx_reti c2 hm rfl rfl ⟨_, rfl, rfl, by omega, by omega⟩
   refine jx_load c1 hm rfl rfl rfl rfl ?_
   refine jx_getr c1 hm rfl sh_1 rfl ?_
   refine jx_load c1 hm rfl rfl rfl rfl ?_
   obtain ⟨w5, kw5⟩ : ∃ w, M0.2 3 (b1).toNat = w := ⟨_, rfl⟩
   refine jx_lald c1 hm rfl sh_3 ⟨by omega, by omega⟩ kw5 ?_
   refine jx_load c1 hm rfl rfl rfl rfl ?_
   refine jx_lcmp c1 hm rfl (fun z6 lz6 uz6 ez6 fz6 => ?_)
   refine jz_ne c1 hm 21 rfl rfl (fun h7 => ?_) (fun h7 => ?_)
   ·
    refine jx_iinc c1 hm (v := (b1 + 1)) (L' := [some (.inr (.inr (.inl 1))), some (.inr (.inl a0)), none, some (.inl (b1 + 1))]) rfl rfl (by omega) (by omega) rfl ?_
    refine jx_goto c1 hm 2 rfl rfl ?_
    exact ihW2 (b1 + 1) (by omega) (by omega)
   refine jx_load c1 hm rfl rfl rfl rfl ?_
   exact jx_reti c2 hm rfl rfl ⟨_, rfl, rfl, by omega, by omega⟩
 exact W2 (24 + 1 : Int).toNat 0 (by omega) (by omega)
def md_X10_readSign_1 : List (Nat × (Nat × Nat)) := [(1, (4, 4)), (1, (6, 6)), (1, (9, 9))]
theorem ct_X10_readSign_1 (X : Int) (hX : 0 ≤ X ∧ X ≤ 100000000) (M0 : JM) (hH0 : HI X M0) (hp0 : M0.1 1 4 < M0.1 1 2) : JOk shp PJ 1 19 [.inr (.inr (.inl 1))] M0 (jRv (fun M' => HI X M' ∧ Fr md_X10_readSign_1 M0 M' )) := by
 refine ⟨jr_X10_readSign, pj_X10_readSign, fun F c1 c2 c3 => ?_⟩
 have hm := pj_X10_readSign
 change F 0 [some (.inr (.inr (.inl 1))), none] [] M0
 have hF0 : Fr md_X10_readSign_1 M0 M0 := Fr.rf _ _
 obtain ⟨z1, k2, lz1, uz1⟩ := hH0.ld (c := 1) (i := 4) (A := 0) (B := 940) (bs_19_3 _ _ (by omega) (by omega))
 obtain ⟨z3, k4, lz3, uz3⟩ := hH0.ld (c := 1) (i := 2) (A := 0) (B := 940) (bs_19_1 _ _ (by omega) (by omega))
 refine jx_load c1 hm rfl rfl rfl rfl ?_
 refine jx_load c1 hm rfl rfl rfl rfl ?_
 refine jx_geti c1 hm rfl sh_1 rfl k2 ?_
 refine jx_load c1 hm rfl rfl rfl rfl ?_
 refine jx_geti c1 hm rfl sh_1 rfl k4 ?_
 have J9 : ∀ (b8 : Int) (hb8 : (-128) ≤ b8 ∧ b8 ≤ 127), F 25 [some (.inr (.inr (.inl 1))), none] [.inl b8, .inr (.inr (.inl 1))] M0 := by
  intro b8 hb8
  obtain ⟨M10, e10, hH10, hF10, k10, n10, _⟩ := mup hH0 hF0 (c := 1) (i := 9) (v := b8) (A := (-2147483648)) (B := 2147483647) (bs_19_6 _ _ (by omega) (by omega)) ⟨by omega, by omega⟩ (jin_of 2 rfl ⟨by omega, by omega⟩)
  refine jm_puti c1 hm rfl sh_1 rfl e10 ?_
  refine jx_load c1 hm rfl rfl rfl rfl ?_
  refine jx_dup c1 hm rfl rfl ?_
  have k11 : M10.1 1 4 = z1 := (n10 1 4 (by decide)).trans k2
  refine jx_geti c1 hm rfl sh_1 rfl k11 ?_
  refine jy_ic c1 hm rfl (by decide) ?_
  refine jy_add c1 hm (z1 + 1) rfl (by omega) ?_
  obtain ⟨M12, e12, hH12, hF12, k12, n12, _⟩ := mup hH10 hF10 (c := 1) (i := 4) (v := (z1 + 1)) (A := 0) (B := 940) (bs_19_3 _ _ (by omega) (by omega)) ⟨by omega, by omega⟩ (jin_of 0 rfl ⟨by omega, by omega⟩)
  refine jm_puti c1 hm rfl sh_1 rfl e12 ?_
  refine jx_load c1 hm rfl rfl rfl rfl ?_
  have k13 : M12.1 1 9 = b8 := (n12 1 9 (by decide)).trans k10
  refine jx_geti c1 hm rfl sh_1 rfl k13 ?_
  refine jy_bp c1 hm rfl (by decide) ?_
  have J21 : ∀ (b20 : Int) (hb20 : 0 ≤ b20 ∧ b20 ≤ 1), F 97 [some (.inr (.inr (.inl 1))), none] [.inl b20] M12 := by
   intro b20 hb20
   refine jx_stor c1 hm (L' := [some (.inr (.inr (.inl 1))), some (.inl b20)]) rfl rfl rfl rfl rfl ?_
   refine jx_load c1 hm rfl rfl rfl rfl ?_
   refine jx_load c1 hm rfl rfl rfl rfl ?_
   have J24 : ∀ (b23 : Int) (hb23 : 3 ≤ b23 ∧ b23 ≤ 4), F 108 [some (.inr (.inr (.inl 1))), some (.inl b20)] [.inl b23, .inr (.inr (.inl 1))] M12 := by
    intro b23 hb23
    obtain ⟨M25, e25, hH25, hF25, k25, n25, _⟩ := mup hH12 hF12 (c := 1) (i := 6) (v := b23) (A := 0) (B := 4) (bs_19_4 _ _ (by omega) (by omega)) ⟨by omega, by omega⟩ (jin_of 1 rfl ⟨by omega, by omega⟩)
    refine jm_puti c1 hm rfl sh_1 rfl e25 ?_
    exact jx_retv c2 hm rfl rfl ⟨rfl, hH25, hF25⟩
   refine jz_eq c1 hm 107 rfl rfl (fun h22 => ?_) (fun h22 => ?_)
   ·
    refine jy_ic c1 hm rfl (by decide) ?_
    exact J24 4 (by omega)
   refine jy_ic c1 hm rfl (by decide) ?_
   refine jx_goto c1 hm 108 rfl rfl ?_
   exact J24 3 (by omega)
  refine jc_eq c1 hm 92 rfl rfl (fun h14 => ?_) (fun h14 => ?_)
  ·
   refine jy_ic c1 hm rfl (by decide) ?_
   refine jx_goto c1 hm 97 rfl rfl ?_
   exact J21 1 (by omega)
  refine jx_load c1 hm rfl rfl rfl rfl ?_
  refine jx_geti c1 hm rfl sh_1 rfl k13 ?_
  refine jy_bp c1 hm rfl (by decide) ?_
  refine jc_eq c1 hm 92 rfl rfl (fun h15 => ?_) (fun h15 => ?_)
  ·
   refine jy_ic c1 hm rfl (by decide) ?_
   refine jx_goto c1 hm 97 rfl rfl ?_
   exact J21 1 (by omega)
  refine jx_load c1 hm rfl rfl rfl rfl ?_
  refine jx_geti c1 hm rfl sh_1 rfl k13 ?_
  refine jy_bp c1 hm rfl (by decide) ?_
  refine jc_eq c1 hm 92 rfl rfl (fun h16 => ?_) (fun h16 => ?_)
  ·
   refine jy_ic c1 hm rfl (by decide) ?_
   refine jx_goto c1 hm 97 rfl rfl ?_
   exact J21 1 (by omega)
  refine jx_load c1 hm rfl rfl rfl rfl ?_
  refine jx_geti c1 hm rfl sh_1 rfl k13 ?_
  refine jy_bp c1 hm rfl (by decide) ?_
  refine jc_eq c1 hm 92 rfl rfl (fun h17 => ?_) (fun h17 => ?_)
  ·
   refine jy_ic c1 hm rfl (by decide) ?_
   refine jx_goto c1 hm 97 rfl rfl ?_
   exact J21 1 (by omega)
  refine jx_load c1 hm rfl rfl rfl rfl ?_
  refine jx_geti c1 hm rfl sh_1 rfl k13 ?_
  refine jy_bp c1 hm rfl (by decide) ?_
  refine jc_eq c1 hm 92 rfl rfl (fun h18 => ?_) (fun h18 => ?_)
  ·
   refine jy_ic c1 hm rfl (by decide) ?_
   refine jx_goto c1 hm 97 rfl rfl ?_
   exact J21 1 (by omega)
  refine jx_load c1 hm rfl rfl rfl rfl ?_
  refine jx_geti c1 hm rfl sh_1 rfl k13 ?_
  refine jy_bp c1 hm rfl (by decide) ?_
  refine jc_ne c1 hm 96 rfl rfl (fun h19 => ?_) (fun h19 => ?_)
  ·
   refine jy_ic c1 hm rfl (by decide) ?_
   exact J21 0 (by omega)
  refine jy_ic c1 hm rfl (by decide) ?_
  refine jx_goto c1 hm 97 rfl rfl ?_
  exact J21 1 (by omega)
 refine jc_ge c1 hm 24 rfl rfl (fun h5 => ?_) (fun h5 => ?_)
 ·
  refine jy_ic c1 hm rfl (by decide) ?_
  exact J9 0 (by omega)
 refine jx_load c1 hm rfl rfl rfl rfl ?_
 refine jx_getr c1 hm rfl sh_1 rfl ?_
 refine jx_load c1 hm rfl rfl rfl rfl ?_
 refine jx_geti c1 hm rfl sh_1 rfl k2 ?_
 obtain ⟨z6, k7, lz6, uz6⟩ := hH0.ld (c := 2) (i := (z1).toNat) (A := (-128)) (B := 127) rfl
 refine jx_bald c1 hm rfl sh_2 rfl ⟨by omega, by omega⟩ k7 ?_
 refine jx_goto c1 hm 25 rfl rfl ?_
 exact J9 z6 (by omega)
def md_X10_next_1 : List (Nat × (Nat × Nat)) := [(1, (4, 4)), (1, (5, 5)), (1, (6, 6)), (1, (7, 7)), (1, (9, 9))]
theorem ct_X10_next_1 (X : Int) (hX : 0 ≤ X ∧ X ≤ 100000000) (M0 : JM) (hH0 : HI X M0)  : JOk shp PJ 2 17 [.inr (.inr (.inl 1))] M0 (jRv (fun M' => HI X M' ∧ Fr md_X10_next_1 M0 M' )) := by
 refine ⟨jr_X10_next, pj_X10_next, fun F c1 c2 c3 => ?_⟩
 have hm := pj_X10_next
 change F 0 [some (.inr (.inr (.inl 1)))] [] M0
 have hF0 : Fr md_X10_next_1 M0 M0 := Fr.rf _ _
 obtain ⟨z1, k2, lz1, uz1⟩ := hH0.ld (c := 1) (i := 4) (A := 0) (B := 940) (bs_19_3 _ _ (by omega) (by omega))
 obtain ⟨z3, k4, lz3, uz3⟩ := hH0.ld (c := 1) (i := 2) (A := 0) (B := 940) (bs_19_1 _ _ (by omega) (by omega))
 obtain ⟨z5, k6, lz5, uz5⟩ := hH0.ld (c := 1) (i := 3) (A := 0) (B := 900) (bs_19_2 _ _ (by omega) (by omega))
 have W12 : ∀ (n13 : Nat) (M7 : JM) (hH7 : HI (X) M7) (hF7 : Fr md_X10_next_1 M0 M7) (k8 : M7.1 1 2 = z3) (k9 : M7.1 1 3 = z5) (b10 : Int) (hb10 : 0 ≤ b10 ∧ b10 ≤ 940) (k11 : M7.1 1 4 = b10), (-b10 + 940) < (n13 : Int) → F 0 [some (.inr (.inr (.inl 1)))] [] M7 := by
  intro n13
  induction n13 with
  | zero => intros; omega
  | succ n13 ihW12 =>
   intro M7 hH7 hF7 k8 k9 b10 hb10 k11 hrW12
   refine jx_load c1 hm rfl rfl rfl rfl ?_
   refine jx_geti c1 hm rfl sh_1 rfl k11 ?_
   refine jx_load c1 hm rfl rfl rfl rfl ?_
   refine jx_geti c1 hm rfl sh_1 rfl k8 ?_
   have J24 : F 63 [some (.inr (.inr (.inl 1)))] [] M7 := by
    refine jx_load c1 hm rfl rfl rfl rfl ?_
    refine jy_ic c1 hm rfl (by decide) ?_
    obtain ⟨M25, e25, hH25, hF25, k25, n25, _⟩ := mup hH7 hF7 (c := 1) (i := 7) (v := (-1)) (A := (-1)) (B := 23) (bs_19_5 _ _ (by omega) (by omega)) ⟨by omega, by omega⟩ (jin_of 3 rfl ⟨by omega, by omega⟩)
    refine jm_puti c1 hm rfl sh_1 rfl e25 ?_
    refine jx_load c1 hm rfl rfl rfl rfl ?_
    have k26 : M25.1 1 4 = b10 := (n25 1 4 (by decide)).trans k11
    refine jx_geti c1 hm rfl sh_1 rfl k26 ?_
    refine jx_load c1 hm rfl rfl rfl rfl ?_
    have k27 : M25.1 1 3 = z5 := (n25 1 3 (by decide)).trans k9
    refine jx_geti c1 hm rfl sh_1 rfl k27 ?_
    refine jc_lt c1 hm 106 rfl rfl (fun h28 => ?_) (fun h28 => ?_)
    ·
     refine jx_load c1 hm rfl rfl rfl rfl ?_
     refine jx_geti c1 hm rfl sh_1 rfl k26 ?_
     refine jx_load c1 hm rfl rfl rfl rfl ?_
     have k29 : M25.1 1 2 = z3 := (n25 1 2 (by decide)).trans k8
     refine jx_geti c1 hm rfl sh_1 rfl k29 ?_
     refine jc_lt c1 hm 133 rfl rfl (fun h30 => ?_) (fun h30 => ?_)
     ·
      refine jx_load c1 hm rfl rfl rfl rfl ?_
      refine jx_load c1 hm rfl rfl rfl rfl ?_
      refine jx_geti c1 hm rfl sh_1 rfl k26 ?_
      obtain ⟨M31, e31, hH31, hF31, k31, n31, _⟩ := mup hH25 hF25 (c := 1) (i := 5) (v := b10) (A := 0) (B := 940) (bs_19_3 _ _ (by omega) (by omega)) ⟨by omega, by omega⟩ (jin_of 1 rfl ⟨by omega, by omega⟩)
      refine jm_puti c1 hm rfl sh_1 rfl e31 ?_
      refine jx_load c1 hm rfl rfl rfl rfl ?_
      refine jv_v c3 hm rfl pj_X10_readRun rfl rfl ⟨_, _, _, rfl, sh_1⟩ rfl ((ct_X10_readRun_1 X (by omega) M31 hH31 ).le (by decide)) (fun M32 ⟨hH32, hR32⟩ => ?_)
      have hF32 := hF31.tr hR32 (by decide +kernel)
      refine jx_load c1 hm rfl rfl rfl rfl ?_
      obtain ⟨z33, k34, lz33, uz33⟩ := hH32.ld (c := 1) (i := 4) (A := 0) (B := 940) (bs_19_3 _ _ (by omega) (by omega))
      refine jx_geti c1 hm rfl sh_1 rfl k34 ?_
      refine jx_load c1 hm rfl rfl rfl rfl ?_
      have k35 : M32.1 1 5 = b10 := (hR32 1 5 (by decide +kernel)).trans k31
      refine jx_geti c1 hm rfl sh_1 rfl k35 ?_
      refine jc_ne c1 hm 163 rfl rfl (fun h36 => ?_) (fun h36 => ?_)
      ·
       refine jx_load c1 hm rfl rfl rfl rfl ?_
       obtain ⟨z37, k38, lz37, uz37⟩ := hH32.ld (c := 1) (i := 6) (A := 0) (B := 4) (bs_19_4 _ _ (by omega) (by omega))
       refine jx_geti c1 hm rfl sh_1 rfl k38 ?_
       refine jy_ic c1 hm rfl (by decide) ?_
       refine jc_ne c1 hm 183 rfl rfl (fun h39 => ?_) (fun h39 => ?_)
       ·
        exact jx_retv c2 hm rfl rfl ⟨rfl, hH32, hF32⟩
       refine jx_load c1 hm rfl rfl rfl rfl ?_
       refine jx_load c1 hm rfl rfl rfl rfl ?_
       refine jx_load c1 hm rfl rfl rfl rfl ?_
       obtain ⟨w40, kw40⟩ : ∃ w, M32.2 1 8 = w := ⟨_, rfl⟩
       refine jx_getl c1 hm rfl sh_1 rfl kw40 ?_
       refine jv_i c3 hm rfl pj_X10_keyOf rfl rfl ⟨_, _, _, rfl, sh_1⟩ rfl ((ct_X10_keyOf_1 X (by omega) M32 hH32 w40).le (by decide)) (fun z41 _ ⟨rfl, lz41, uz41⟩ => ?_)
       obtain ⟨M42, e42, hH42, hF42, k42, n42, _⟩ := mup hH32 hF32 (c := 1) (i := 7) (v := z41) (A := (-1)) (B := 23) (bs_19_5 _ _ (by omega) (by omega)) ⟨by omega, by omega⟩ (jin_of 3 rfl ⟨by omega, by omega⟩)
       refine jm_puti c1 hm rfl sh_1 rfl e42 ?_
       exact jx_retv c2 hm rfl rfl ⟨rfl, hH42, hF42⟩
      refine jx_load c1 hm rfl rfl rfl rfl ?_
      have k43 : M32.1 1 2 = z3 := (hR32 1 2 (by decide +kernel)).trans ((n31 1 2 (by decide)).trans k29)
      refine jv_v c3 hm rfl pj_X10_readSign rfl rfl ⟨_, _, _, rfl, sh_1⟩ rfl ((ct_X10_readSign_1 X (by omega) M32 hH32 (by omega)).le (by decide)) (fun M44 ⟨hH44, hR44⟩ => ?_)
      have hF44 := hF32.tr hR44 (by decide +kernel)
      refine jx_goto c1 hm 183 rfl rfl ?_
      exact jx_retv c2 hm rfl rfl ⟨rfl, hH44, hF44⟩
     refine jx_load c1 hm rfl rfl rfl rfl ?_
     refine jx_load c1 hm rfl rfl rfl rfl ?_
     refine jx_geti c1 hm rfl sh_1 rfl k29 ?_
     obtain ⟨M45, e45, hH45, hF45, k45, n45, _⟩ := mup hH25 hF25 (c := 1) (i := 5) (v := z3) (A := 0) (B := 940) (bs_19_3 _ _ (by omega) (by omega)) ⟨by omega, by omega⟩ (jin_of 1 rfl ⟨by omega, by omega⟩)
     refine jm_puti c1 hm rfl sh_1 rfl e45 ?_
     refine jx_load c1 hm rfl rfl rfl rfl ?_
     refine jy_ic c1 hm rfl (by decide) ?_
     obtain ⟨M46, e46, hH46, hF46, k46, n46, _⟩ := mup hH45 hF45 (c := 1) (i := 6) (v := 0) (A := 0) (B := 4) (bs_19_4 _ _ (by omega) (by omega)) ⟨by omega, by omega⟩ (jin_of 2 rfl ⟨by omega, by omega⟩)
     refine jm_puti c1 hm rfl sh_1 rfl e46 ?_
     refine jx_goto c1 hm 183 rfl rfl ?_
     exact jx_retv c2 hm rfl rfl ⟨rfl, hH46, hF46⟩
    refine jx_load c1 hm rfl rfl rfl rfl ?_
    have k47 : M25.1 1 2 = z3 := (n25 1 2 (by decide)).trans k8
    refine jx_geti c1 hm rfl sh_1 rfl k47 ?_
    refine jx_load c1 hm rfl rfl rfl rfl ?_
    refine jx_geti c1 hm rfl sh_1 rfl k27 ?_
    refine jc_le c1 hm 106 rfl rfl (fun h48 => ?_) (fun h48 => ?_)
    ·
     refine jx_load c1 hm rfl rfl rfl rfl ?_
     refine jx_geti c1 hm rfl sh_1 rfl k26 ?_
     refine jx_load c1 hm rfl rfl rfl rfl ?_
     refine jx_geti c1 hm rfl sh_1 rfl k47 ?_
     refine jc_lt c1 hm 133 rfl rfl (fun h49 => ?_) (fun h49 => ?_)
     ·
      refine jx_load c1 hm rfl rfl rfl rfl ?_
      refine jx_load c1 hm rfl rfl rfl rfl ?_
      refine jx_geti c1 hm rfl sh_1 rfl k26 ?_
      obtain ⟨M50, e50, hH50, hF50, k50, n50, _⟩ := mup hH25 hF25 (c := 1) (i := 5) (v := b10) (A := 0) (B := 940) (bs_19_3 _ _ (by omega) (by omega)) ⟨by omega, by omega⟩ (jin_of 1 rfl ⟨by omega, by omega⟩)
      refine jm_puti c1 hm rfl sh_1 rfl e50 ?_
      refine jx_load c1 hm rfl rfl rfl rfl ?_
      refine jv_v c3 hm rfl pj_X10_readRun rfl rfl ⟨_, _, _, rfl, sh_1⟩ rfl ((ct_X10_readRun_1 X (by omega) M50 hH50 ).le (by decide)) (fun M51 ⟨hH51, hR51⟩ => ?_)
      have hF51 := hF50.tr hR51 (by decide +kernel)
      refine jx_load c1 hm rfl rfl rfl rfl ?_
      obtain ⟨z52, k53, lz52, uz52⟩ := hH51.ld (c := 1) (i := 4) (A := 0) (B := 940) (bs_19_3 _ _ (by omega) (by omega))
      refine jx_geti c1 hm rfl sh_1 rfl k53 ?_
      refine jx_load c1 hm rfl rfl rfl rfl ?_
      have k54 : M51.1 1 5 = b10 := (hR51 1 5 (by decide +kernel)).trans k50
      refine jx_geti c1 hm rfl sh_1 rfl k54 ?_
      refine jc_ne c1 hm 163 rfl rfl (fun h55 => ?_) (fun h55 => ?_)
      ·
       refine jx_load c1 hm rfl rfl rfl rfl ?_
       obtain ⟨z56, k57, lz56, uz56⟩ := hH51.ld (c := 1) (i := 6) (A := 0) (B := 4) (bs_19_4 _ _ (by omega) (by omega))
       refine jx_geti c1 hm rfl sh_1 rfl k57 ?_
       refine jy_ic c1 hm rfl (by decide) ?_
       refine jc_ne c1 hm 183 rfl rfl (fun h58 => ?_) (fun h58 => ?_)
       ·
        exact jx_retv c2 hm rfl rfl ⟨rfl, hH51, hF51⟩
       refine jx_load c1 hm rfl rfl rfl rfl ?_
       refine jx_load c1 hm rfl rfl rfl rfl ?_
       refine jx_load c1 hm rfl rfl rfl rfl ?_
       obtain ⟨w59, kw59⟩ : ∃ w, M51.2 1 8 = w := ⟨_, rfl⟩
       refine jx_getl c1 hm rfl sh_1 rfl kw59 ?_
       refine jv_i c3 hm rfl pj_X10_keyOf rfl rfl ⟨_, _, _, rfl, sh_1⟩ rfl ((ct_X10_keyOf_1 X (by omega) M51 hH51 w59).le (by decide)) (fun z60 _ ⟨rfl, lz60, uz60⟩ => ?_)
       obtain ⟨M61, e61, hH61, hF61, k61, n61, _⟩ := mup hH51 hF51 (c := 1) (i := 7) (v := z60) (A := (-1)) (B := 23) (bs_19_5 _ _ (by omega) (by omega)) ⟨by omega, by omega⟩ (jin_of 3 rfl ⟨by omega, by omega⟩)
       refine jm_puti c1 hm rfl sh_1 rfl e61 ?_
       exact jx_retv c2 hm rfl rfl ⟨rfl, hH61, hF61⟩
      refine jx_load c1 hm rfl rfl rfl rfl ?_
      have k62 : M51.1 1 2 = z3 := (hR51 1 2 (by decide +kernel)).trans ((n50 1 2 (by decide)).trans k47)
      refine jv_v c3 hm rfl pj_X10_readSign rfl rfl ⟨_, _, _, rfl, sh_1⟩ rfl ((ct_X10_readSign_1 X (by omega) M51 hH51 (by omega)).le (by decide)) (fun M63 ⟨hH63, hR63⟩ => ?_)
      have hF63 := hF51.tr hR63 (by decide +kernel)
      refine jx_goto c1 hm 183 rfl rfl ?_
      exact jx_retv c2 hm rfl rfl ⟨rfl, hH63, hF63⟩
     refine jx_load c1 hm rfl rfl rfl rfl ?_
     refine jx_load c1 hm rfl rfl rfl rfl ?_
     refine jx_geti c1 hm rfl sh_1 rfl k47 ?_
     obtain ⟨M64, e64, hH64, hF64, k64, n64, _⟩ := mup hH25 hF25 (c := 1) (i := 5) (v := z3) (A := 0) (B := 940) (bs_19_3 _ _ (by omega) (by omega)) ⟨by omega, by omega⟩ (jin_of 1 rfl ⟨by omega, by omega⟩)
     refine jm_puti c1 hm rfl sh_1 rfl e64 ?_
     refine jx_load c1 hm rfl rfl rfl rfl ?_
     refine jy_ic c1 hm rfl (by decide) ?_
     obtain ⟨M65, e65, hH65, hF65, k65, n65, _⟩ := mup hH64 hF64 (c := 1) (i := 6) (v := 0) (A := 0) (B := 4) (bs_19_4 _ _ (by omega) (by omega)) ⟨by omega, by omega⟩ (jin_of 2 rfl ⟨by omega, by omega⟩)
     refine jm_puti c1 hm rfl sh_1 rfl e65 ?_
     refine jx_goto c1 hm 183 rfl rfl ?_
     exact jx_retv c2 hm rfl rfl ⟨rfl, hH65, hF65⟩
    refine jx_load c1 hm rfl rfl rfl rfl ?_
    refine jx_load c1 hm rfl rfl rfl rfl ?_
    refine jx_geti c1 hm rfl sh_1 rfl k27 ?_
    obtain ⟨M66, e66, hH66, hF66, k66, n66, _⟩ := mup hH25 hF25 (c := 1) (i := 5) (v := z5) (A := 0) (B := 940) (bs_19_3 _ _ (by omega) (by omega)) ⟨by omega, by omega⟩ (jin_of 1 rfl ⟨by omega, by omega⟩)
    refine jm_puti c1 hm rfl sh_1 rfl e66 ?_
    refine jx_load c1 hm rfl rfl rfl rfl ?_
    refine jy_ic c1 hm rfl (by decide) ?_
    obtain ⟨M67, e67, hH67, hF67, k67, n67, _⟩ := mup hH66 hF66 (c := 1) (i := 6) (v := 4) (A := 0) (B := 4) (bs_19_4 _ _ (by omega) (by omega)) ⟨by omega, by omega⟩ (jin_of 2 rfl ⟨by omega, by omega⟩)
    refine jm_puti c1 hm rfl sh_1 rfl e67 ?_
    refine jx_goto c1 hm 183 rfl rfl ?_
    exact jx_retv c2 hm rfl rfl ⟨rfl, hH67, hF67⟩
   refine jc_ge c1 hm 63 rfl rfl (fun h14 => ?_) (fun h14 => ?_)
   ·
    exact J24 
   refine jx_load c1 hm rfl rfl rfl rfl ?_
   refine jx_geti c1 hm rfl sh_1 rfl k11 ?_
   refine jx_load c1 hm rfl rfl rfl rfl ?_
   refine jx_geti c1 hm rfl sh_1 rfl k9 ?_
   refine jc_ge c1 hm 63 rfl rfl (fun h15 => ?_) (fun h15 => ?_)
   ·
    exact J24 
   refine jx_load c1 hm rfl rfl rfl rfl ?_
   refine jx_getr c1 hm rfl sh_1 rfl ?_
   refine jx_load c1 hm rfl rfl rfl rfl ?_
   refine jx_geti c1 hm rfl sh_1 rfl k11 ?_
   obtain ⟨z16, k17, lz16, uz16⟩ := hH7.ld (c := 2) (i := (b10).toNat) (A := (-128)) (B := 127) rfl
   refine jx_bald c1 hm rfl sh_2 rfl ⟨by omega, by omega⟩ k17 ?_
   refine jy_bp c1 hm rfl (by decide) ?_
   refine jc_eq c1 hm 50 rfl rfl (fun h18 => ?_) (fun h18 => ?_)
   ·
    refine jx_load c1 hm rfl rfl rfl rfl ?_
    refine jx_dup c1 hm rfl rfl ?_
    refine jx_geti c1 hm rfl sh_1 rfl k11 ?_
    refine jy_ic c1 hm rfl (by decide) ?_
    refine jy_add c1 hm (b10 + 1) rfl (by omega) ?_
    obtain ⟨M19, e19, hH19, hF19, k19, n19, _⟩ := mup hH7 hF7 (c := 1) (i := 4) (v := (b10 + 1)) (A := 0) (B := 940) (bs_19_3 _ _ (by omega) (by omega)) ⟨by omega, by omega⟩ (jin_of 0 rfl ⟨by omega, by omega⟩)
    refine jm_puti c1 hm rfl sh_1 rfl e19 ?_
    refine jx_goto c1 hm 0 rfl rfl ?_
    have k68 : M19.1 1 2 = z3 := (n19 1 2 (by decide)).trans k8
    have k69 : M19.1 1 3 = z5 := (n19 1 3 (by decide)).trans k9
    exact ihW12 M19 hH19 hF19 k68 k69 (b10 + 1) (by omega) k19 (by omega)
   refine jx_load c1 hm rfl rfl rfl rfl ?_
   refine jx_getr c1 hm rfl sh_1 rfl ?_
   refine jx_load c1 hm rfl rfl rfl rfl ?_
   refine jx_geti c1 hm rfl sh_1 rfl k11 ?_
   obtain ⟨z20, k21, lz20, uz20⟩ := hH7.ld (c := 2) (i := (b10).toNat) (A := (-128)) (B := 127) rfl
   refine jx_bald c1 hm rfl sh_2 rfl ⟨by omega, by omega⟩ k21 ?_
   refine jy_bp c1 hm rfl (by decide) ?_
   refine jc_ne c1 hm 63 rfl rfl (fun h22 => ?_) (fun h22 => ?_)
   ·
    exact J24 
   refine jx_load c1 hm rfl rfl rfl rfl ?_
   refine jx_dup c1 hm rfl rfl ?_
   refine jx_geti c1 hm rfl sh_1 rfl k11 ?_
   refine jy_ic c1 hm rfl (by decide) ?_
   refine jy_add c1 hm (b10 + 1) rfl (by omega) ?_
   obtain ⟨M23, e23, hH23, hF23, k23, n23, _⟩ := mup hH7 hF7 (c := 1) (i := 4) (v := (b10 + 1)) (A := 0) (B := 940) (bs_19_3 _ _ (by omega) (by omega)) ⟨by omega, by omega⟩ (jin_of 0 rfl ⟨by omega, by omega⟩)
   refine jm_puti c1 hm rfl sh_1 rfl e23 ?_
   refine jx_goto c1 hm 0 rfl rfl ?_
   have k70 : M23.1 1 2 = z3 := (n23 1 2 (by decide)).trans k8
   have k71 : M23.1 1 3 = z5 := (n23 1 3 (by decide)).trans k9
   exact ihW12 M23 hH23 hF23 k70 k71 (b10 + 1) (by omega) k23 (by omega)
 exact W12 ((-z1 + 940) + 1 : Int).toNat M0 hH0 hF0 k4 k6 z1 (by omega) k2 (by omega)
def md_X10_start_1 : List (Nat × (Nat × Nat)) := [(1, (2, 2)), (1, (3, 3)), (1, (4, 4)), (1, (5, 5)), (1, (6, 6)), (1, (7, 7)), (1, (9, 9)), (1, (12, 12)), (1, (13, 13))]
theorem ct_X10_start_1 (X : Int) (hX : 0 ≤ X ∧ X ≤ 100000000) (M0 : JM) (hH0 : HI X M0) (a0 : Int) (ha0 : 0 ≤ a0 ∧ a0 ≤ 940) (a1 : Int) (ha1 : 0 ≤ a1 ∧ a1 ≤ 900) : JOk shp PJ 3 20 [.inr (.inr (.inl 1)), .inl a0, .inl a1] M0 (jRv (fun M' => HI X M' ∧ Fr md_X10_start_1 M0 M' )) := by
 refine ⟨jr_X10_start, pj_X10_start, fun F c1 c2 c3 => ?_⟩
 have hm := pj_X10_start
 change F 0 [some (.inr (.inr (.inl 1))), some (.inl a0), some (.inl a1)] [] M0
 have hF0 : Fr md_X10_start_1 M0 M0 := Fr.rf _ _
 refine jx_load c1 hm rfl rfl rfl rfl ?_
 refine jx_load c1 hm rfl rfl rfl rfl ?_
 refine jy_sp c1 hm rfl (by decide) ?_
 refine jx_min c1 hm rfl rfl (fun z1 lz1 uz1 ez1 => ?_)
 obtain ⟨M2, e2, hH2, hF2, k2, n2, _⟩ := mup hH0 hF0 (c := 1) (i := 2) (v := z1) (A := 0) (B := 940) (bs_19_1 _ _ (by omega) (by omega)) ⟨by omega, by omega⟩ (jin_of 0 rfl ⟨by omega, by omega⟩)
 refine jm_puti c1 hm rfl sh_1 rfl e2 ?_
 refine jx_load c1 hm rfl rfl rfl rfl ?_
 refine jx_load c1 hm rfl rfl rfl rfl ?_
 obtain ⟨M3, e3, hH3, hF3, k3, n3, _⟩ := mup hH2 hF2 (c := 1) (i := 3) (v := a1) (A := 0) (B := 900) (bs_19_2 _ _ (by omega) (by omega)) ⟨by omega, by omega⟩ (jin_of 1 rfl ⟨by omega, by omega⟩)
 refine jm_puti c1 hm rfl sh_1 rfl e3 ?_
 refine jx_load c1 hm rfl rfl rfl rfl ?_
 refine jy_ic c1 hm rfl (by decide) ?_
 obtain ⟨M4, e4, hH4, hF4, k4, n4, _⟩ := mup hH3 hF3 (c := 1) (i := 4) (v := 0) (A := 0) (B := 940) (bs_19_3 _ _ (by omega) (by omega)) ⟨by omega, by omega⟩ (jin_of 2 rfl ⟨by omega, by omega⟩)
 refine jm_puti c1 hm rfl sh_1 rfl e4 ?_
 refine jx_load c1 hm rfl rfl rfl rfl ?_
 refine jy_ic c1 hm rfl (by decide) ?_
 obtain ⟨M5, e5, hH5, hF5, k5, n5, _⟩ := mup hH4 hF4 (c := 1) (i := 12) (v := 0) (A := 0) (B := 4) (bs_19_8 _ _ (by omega) (by omega)) ⟨by omega, by omega⟩ (jin_of 7 rfl ⟨by omega, by omega⟩)
 refine jm_puti c1 hm rfl sh_1 rfl e5 ?_
 refine jx_load c1 hm rfl rfl rfl rfl ?_
 refine jy_ic c1 hm rfl (by decide) ?_
 obtain ⟨M6, e6, hH6, hF6, k6, n6, _⟩ := mup hH5 hF5 (c := 1) (i := 13) (v := 0) (A := 0) (B := 940) (bs_19_9 _ _ (by omega) (by omega)) ⟨by omega, by omega⟩ (jin_of 8 rfl ⟨by omega, by omega⟩)
 refine jm_puti c1 hm rfl sh_1 rfl e6 ?_
 refine jx_load c1 hm rfl rfl rfl rfl ?_
 refine jv_v c3 hm rfl pj_X10_next rfl rfl ⟨_, _, _, rfl, sh_1⟩ rfl ((ct_X10_next_1 X (by omega) M6 hH6 ).le (by decide)) (fun M7 ⟨hH7, hR7⟩ => ?_)
 have hF7 := hF6.tr hR7 (by decide +kernel)
 exact jx_retv c2 hm rfl rfl ⟨rfl, hH7, hF7⟩
def md_X11_startTokens_0 : List (Nat × (Nat × Nat)) := [(0, (2, 2)), (1, (2, 2)), (1, (3, 3)), (1, (4, 4)), (1, (5, 5)), (1, (6, 6)), (1, (7, 7)), (1, (9, 9)), (1, (12, 12)), (1, (13, 13))]
theorem ct_X11_startTokens_0 (X : Int) (hX : 0 ≤ X ∧ X ≤ 100000000) (M0 : JM) (hH0 : HI X M0) (a0 : Int) (ha0 : 0 ≤ a0 ∧ a0 ≤ 900) : JOk shp PJ 4 66 [.inr (.inr (.inl 0)), .inl a0] M0 (jRv (fun M' => HI X M' ∧ Fr md_X11_startTokens_0 M0 M' )) := by
 refine ⟨jr_X11_startTokens, pj_X11_startTokens, fun F c1 c2 c3 => ?_⟩
 have hm := pj_X11_startTokens
 change F 0 [some (.inr (.inr (.inl 0))), some (.inl a0), none] [] M0
 have hF0 : Fr md_X11_startTokens_0 M0 M0 := Fr.rf _ _
 refine jx_load c1 hm rfl rfl rfl rfl ?_
 obtain ⟨z1, k2, lz1, uz1⟩ := hH0.ld (c := 0) (i := 2) (A := 0) (B := 940) (bs_18_1 _ _ (by omega) (by omega))
 refine jx_geti c1 hm rfl sh_0 rfl k2 ?_
 refine jx_stor c1 hm (L' := [some (.inr (.inr (.inl 0))), some (.inl a0), some (.inl z1)]) rfl rfl rfl rfl rfl ?_
 refine jx_load c1 hm rfl rfl rfl rfl ?_
 refine jy_ic c1 hm rfl (by decide) ?_
 obtain ⟨M3, e3, hH3, hF3, k3, n3, _⟩ := mup hH0 hF0 (c := 0) (i := 2) (v := 0) (A := 0) (B := 940) (bs_18_1 _ _ (by omega) (by omega)) ⟨by omega, by omega⟩ (jin_of 0 rfl ⟨by omega, by omega⟩)
 refine jm_puti c1 hm rfl sh_0 rfl e3 ?_
 refine jx_load c1 hm rfl rfl rfl rfl ?_
 refine jx_getr c1 hm rfl sh_0 rfl ?_
 refine jx_load c1 hm rfl rfl rfl rfl ?_
 refine jx_load c1 hm rfl rfl rfl rfl ?_
 refine jv_v c3 hm rfl pj_X10_start rfl rfl ⟨_, _, _, rfl, sh_1⟩ rfl ((ct_X10_start_1 X (by omega) M3 hH3 z1 ⟨by omega, by omega⟩ a0 ⟨by omega, by omega⟩).le (by decide)) (fun M4 ⟨hH4, hR4⟩ => ?_)
 have hF4 := hF3.tr hR4 (by decide +kernel)
 exact jx_retv c2 hm rfl rfl ⟨rfl, hH4, hF4⟩
def md_J7_fill_53178_28 : List (Nat × (Nat × Nat)) := [(28, (0, 2))]
theorem ct_J7_fill_53178_28 (X : Int) (hX : 0 ≤ X ∧ X ≤ 100000000) (M0 : JM) (hH0 : HI X M0) (a0 : Int) (ha0 : 0 ≤ a0 ∧ a0 ≤ 0) : JOk shp PJ 1 1 [.inr (.inr (.inl 28)), .inl a0] M0 (jRv (fun M' => HI X M' ∧ Fr md_J7_fill_53178_28 M0 M' )) := by
 refine ⟨jr_J7_fill_53178, pj_J7_fill_53178, fun F c1 c2 c3 => ?_⟩
 have hm := pj_J7_fill_53178
 change F 0 [some (.inr (.inr (.inl 28))), some (.inl a0), none, none] [] M0
 have hF0 : Fr md_J7_fill_53178_28 M0 M0 := Fr.rf _ _
 refine jy_ic c1 hm rfl (by decide) ?_
 refine jx_stor c1 hm (L' := [some (.inr (.inr (.inl 28))), some (.inl a0), some (.inl 0), none]) rfl rfl rfl rfl rfl ?_
 refine jx_load c1 hm rfl rfl rfl rfl ?_
 refine jx_alen c1 hm (v := 3) rfl sh_28 rfl rfl ?_
 refine jx_stor c1 hm (L' := [some (.inr (.inr (.inl 28))), some (.inl a0), some (.inl 0), some (.inl 3)]) rfl rfl rfl rfl rfl ?_
 have W3 : ∀ (n4 : Nat) (b1 : Int) (hb1 : 0 ≤ b1 ∧ b1 ≤ 3) (M2 : JM) (hH2 : HI (X) M2) (hF2 : Fr md_J7_fill_53178_28 M0 M2), (-b1 + 3) < (n4 : Int) → F 5 [some (.inr (.inr (.inl 28))), some (.inl a0), some (.inl b1), some (.inl 3)] [] M2 := by
  intro n4
  induction n4 with
  | zero => intros; omega
  | succ n4 ihW3 =>
   intro b1 hb1 M2 hH2 hF2 hrW3
   refine jx_load c1 hm rfl rfl rfl rfl ?_
   refine jx_load c1 hm rfl rfl rfl rfl ?_
   refine jc_ge c1 hm 20 rfl rfl (fun h5 => ?_) (fun h5 => ?_)
   ·
    exact jx_retv c2 hm rfl rfl ⟨rfl, hH2, hF2⟩
   refine jx_load c1 hm rfl rfl rfl rfl ?_
   refine jx_load c1 hm rfl rfl rfl rfl ?_
   refine jx_load c1 hm rfl rfl rfl rfl ?_
   obtain ⟨M6, e6, hH6, hF6, k6, n6, _⟩ := mup hH2 hF2 (c := 28) (i := (b1).toNat) (v := a0) (A := 0) (B := 6) rfl ⟨by omega, by omega⟩ (jin_of 0 rfl ⟨by omega, by omega⟩)
   refine jm_iast c1 hm rfl sh_28 ⟨by omega, by omega⟩ e6 ?_
   refine jx_iinc c1 hm (v := (b1 + 1)) (L' := [some (.inr (.inr (.inl 28))), some (.inl a0), some (.inl (b1 + 1)), some (.inl 3)]) rfl rfl (by omega) (by omega) rfl ?_
   refine jx_goto c1 hm 5 rfl rfl ?_
   exact ihW3 (b1 + 1) (by omega) M6 hH6 hF6 (by omega)
 exact W3 (3 + 1 : Int).toNat 0 (by omega) M0 hH0 hF0 (by omega)
def md_J7_fill_53178_32 : List (Nat × (Nat × Nat)) := [(32, (0, 35))]
theorem ct_J7_fill_53178_32 (X : Int) (hX : 0 ≤ X ∧ X ≤ 100000000) (M0 : JM) (hH0 : HI X M0) (a0 : Int) (ha0 : (-1) ≤ a0 ∧ a0 ≤ (-1)) : JOk shp PJ 1 1 [.inr (.inr (.inl 32)), .inl a0] M0 (jRv (fun M' => HI X M' ∧ Fr md_J7_fill_53178_32 M0 M' )) := by
 refine ⟨jr_J7_fill_53178, pj_J7_fill_53178, fun F c1 c2 c3 => ?_⟩
 have hm := pj_J7_fill_53178
 change F 0 [some (.inr (.inr (.inl 32))), some (.inl a0), none, none] [] M0
 have hF0 : Fr md_J7_fill_53178_32 M0 M0 := Fr.rf _ _
 refine jy_ic c1 hm rfl (by decide) ?_
 refine jx_stor c1 hm (L' := [some (.inr (.inr (.inl 32))), some (.inl a0), some (.inl 0), none]) rfl rfl rfl rfl rfl ?_
 refine jx_load c1 hm rfl rfl rfl rfl ?_
 refine jx_alen c1 hm (v := 36) rfl sh_32 rfl rfl ?_
 refine jx_stor c1 hm (L' := [some (.inr (.inr (.inl 32))), some (.inl a0), some (.inl 0), some (.inl 36)]) rfl rfl rfl rfl rfl ?_
 have W3 : ∀ (n4 : Nat) (b1 : Int) (hb1 : 0 ≤ b1 ∧ b1 ≤ 36) (M2 : JM) (hH2 : HI (X) M2) (hF2 : Fr md_J7_fill_53178_32 M0 M2), (-b1 + 36) < (n4 : Int) → F 5 [some (.inr (.inr (.inl 32))), some (.inl a0), some (.inl b1), some (.inl 36)] [] M2 := by
  intro n4
  induction n4 with
  | zero => intros; omega
  | succ n4 ihW3 =>
   intro b1 hb1 M2 hH2 hF2 hrW3
   refine jx_load c1 hm rfl rfl rfl rfl ?_
   refine jx_load c1 hm rfl rfl rfl rfl ?_
   refine jc_ge c1 hm 20 rfl rfl (fun h5 => ?_) (fun h5 => ?_)
   ·
    exact jx_retv c2 hm rfl rfl ⟨rfl, hH2, hF2⟩
   refine jx_load c1 hm rfl rfl rfl rfl ?_
   refine jx_load c1 hm rfl rfl rfl rfl ?_
   refine jx_load c1 hm rfl rfl rfl rfl ?_
   obtain ⟨M6, e6, hH6, hF6, k6, n6, _⟩ := mup hH2 hF2 (c := 32) (i := (b1).toNat) (v := a0) (A := (-1)) (B := 20) rfl ⟨by omega, by omega⟩ (jin_of 0 rfl ⟨by omega, by omega⟩)
   refine jm_iast c1 hm rfl sh_32 ⟨by omega, by omega⟩ e6 ?_
   refine jx_iinc c1 hm (v := (b1 + 1)) (L' := [some (.inr (.inr (.inl 32))), some (.inl a0), some (.inl (b1 + 1)), some (.inl 36)]) rfl rfl (by omega) (by omega) rfl ?_
   refine jx_goto c1 hm 5 rfl rfl ?_
   exact ihW3 (b1 + 1) (by omega) M6 hH6 hF6 (by omega)
 exact W3 (36 + 1 : Int).toNat 0 (by omega) M0 hH0 hF0 (by omega)
def md_J7_fill_53178_35 : List (Nat × (Nat × Nat)) := [(35, (0, 5))]
theorem ct_J7_fill_53178_35 (X : Int) (hX : 0 ≤ X ∧ X ≤ 100000000) (M0 : JM) (hH0 : HI X M0) (a0 : Int) (ha0 : 0 ≤ a0 ∧ a0 ≤ 0) : JOk shp PJ 1 1 [.inr (.inr (.inl 35)), .inl a0] M0 (jRv (fun M' => HI X M' ∧ Fr md_J7_fill_53178_35 M0 M' )) := by
 refine ⟨jr_J7_fill_53178, pj_J7_fill_53178, fun F c1 c2 c3 => ?_⟩
 have hm := pj_J7_fill_53178
 change F 0 [some (.inr (.inr (.inl 35))), some (.inl a0), none, none] [] M0
 have hF0 : Fr md_J7_fill_53178_35 M0 M0 := Fr.rf _ _
 refine jy_ic c1 hm rfl (by decide) ?_
 refine jx_stor c1 hm (L' := [some (.inr (.inr (.inl 35))), some (.inl a0), some (.inl 0), none]) rfl rfl rfl rfl rfl ?_
 refine jx_load c1 hm rfl rfl rfl rfl ?_
 refine jx_alen c1 hm (v := 6) rfl sh_35 rfl rfl ?_
 refine jx_stor c1 hm (L' := [some (.inr (.inr (.inl 35))), some (.inl a0), some (.inl 0), some (.inl 6)]) rfl rfl rfl rfl rfl ?_
 have W3 : ∀ (n4 : Nat) (b1 : Int) (hb1 : 0 ≤ b1 ∧ b1 ≤ 6) (M2 : JM) (hH2 : HI (X) M2) (hF2 : Fr md_J7_fill_53178_35 M0 M2), (-b1 + 6) < (n4 : Int) → F 5 [some (.inr (.inr (.inl 35))), some (.inl a0), some (.inl b1), some (.inl 6)] [] M2 := by
  intro n4
  induction n4 with
  | zero => intros; omega
  | succ n4 ihW3 =>
   intro b1 hb1 M2 hH2 hF2 hrW3
   refine jx_load c1 hm rfl rfl rfl rfl ?_
   refine jx_load c1 hm rfl rfl rfl rfl ?_
   refine jc_ge c1 hm 20 rfl rfl (fun h5 => ?_) (fun h5 => ?_)
   ·
    exact jx_retv c2 hm rfl rfl ⟨rfl, hH2, hF2⟩
   refine jx_load c1 hm rfl rfl rfl rfl ?_
   refine jx_load c1 hm rfl rfl rfl rfl ?_
   refine jx_load c1 hm rfl rfl rfl rfl ?_
   obtain ⟨M6, e6, hH6, hF6, k6, n6, _⟩ := mup hH2 hF2 (c := 35) (i := (b1).toNat) (v := a0) (A := (-2147483648)) (B := 2147483647) rfl ⟨by omega, by omega⟩ (jin_of 0 rfl ⟨by omega, by omega⟩)
   refine jm_iast c1 hm rfl sh_35 ⟨by omega, by omega⟩ e6 ?_
   refine jx_iinc c1 hm (v := (b1 + 1)) (L' := [some (.inr (.inr (.inl 35))), some (.inl a0), some (.inl (b1 + 1)), some (.inl 6)]) rfl rfl (by omega) (by omega) rfl ?_
   refine jx_goto c1 hm 5 rfl rfl ?_
   exact ihW3 (b1 + 1) (by omega) M6 hH6 hF6 (by omega)
 exact W3 (6 + 1 : Int).toNat 0 (by omega) M0 hH0 hF0 (by omega)
def md_J7_fill_53178_36 : List (Nat × (Nat × Nat)) := [(36, (0, 5))]
theorem ct_J7_fill_53178_36 (X : Int) (hX : 0 ≤ X ∧ X ≤ 100000000) (M0 : JM) (hH0 : HI X M0) (a0 : Int) (ha0 : 0 ≤ a0 ∧ a0 ≤ 0) : JOk shp PJ 1 1 [.inr (.inr (.inl 36)), .inl a0] M0 (jRv (fun M' => HI X M' ∧ Fr md_J7_fill_53178_36 M0 M' )) := by
 refine ⟨jr_J7_fill_53178, pj_J7_fill_53178, fun F c1 c2 c3 => ?_⟩
 have hm := pj_J7_fill_53178
 change F 0 [some (.inr (.inr (.inl 36))), some (.inl a0), none, none] [] M0
 have hF0 : Fr md_J7_fill_53178_36 M0 M0 := Fr.rf _ _
 refine jy_ic c1 hm rfl (by decide) ?_
 refine jx_stor c1 hm (L' := [some (.inr (.inr (.inl 36))), some (.inl a0), some (.inl 0), none]) rfl rfl rfl rfl rfl ?_
 refine jx_load c1 hm rfl rfl rfl rfl ?_
 refine jx_alen c1 hm (v := 6) rfl sh_36 rfl rfl ?_
 refine jx_stor c1 hm (L' := [some (.inr (.inr (.inl 36))), some (.inl a0), some (.inl 0), some (.inl 6)]) rfl rfl rfl rfl rfl ?_
 have W3 : ∀ (n4 : Nat) (b1 : Int) (hb1 : 0 ≤ b1 ∧ b1 ≤ 6) (M2 : JM) (hH2 : HI (X) M2) (hF2 : Fr md_J7_fill_53178_36 M0 M2), (-b1 + 6) < (n4 : Int) → F 5 [some (.inr (.inr (.inl 36))), some (.inl a0), some (.inl b1), some (.inl 6)] [] M2 := by
  intro n4
  induction n4 with
  | zero => intros; omega
  | succ n4 ihW3 =>
   intro b1 hb1 M2 hH2 hF2 hrW3
   refine jx_load c1 hm rfl rfl rfl rfl ?_
   refine jx_load c1 hm rfl rfl rfl rfl ?_
   refine jc_ge c1 hm 20 rfl rfl (fun h5 => ?_) (fun h5 => ?_)
   ·
    exact jx_retv c2 hm rfl rfl ⟨rfl, hH2, hF2⟩
   refine jx_load c1 hm rfl rfl rfl rfl ?_
   refine jx_load c1 hm rfl rfl rfl rfl ?_
   refine jx_load c1 hm rfl rfl rfl rfl ?_
   obtain ⟨M6, e6, hH6, hF6, k6, n6, _⟩ := mup hH2 hF2 (c := 36) (i := (b1).toNat) (v := a0) (A := (-2147483648)) (B := 2147483647) rfl ⟨by omega, by omega⟩ (jin_of 0 rfl ⟨by omega, by omega⟩)
   refine jm_iast c1 hm rfl sh_36 ⟨by omega, by omega⟩ e6 ?_
   refine jx_iinc c1 hm (v := (b1 + 1)) (L' := [some (.inr (.inr (.inl 36))), some (.inl a0), some (.inl (b1 + 1)), some (.inl 6)]) rfl rfl (by omega) (by omega) rfl ?_
   refine jx_goto c1 hm 5 rfl rfl ?_
   exact ihW3 (b1 + 1) (by omega) M6 hH6 hF6 (by omega)
 exact W3 (6 + 1 : Int).toNat 0 (by omega) M0 hH0 hF0 (by omega)
def md_J7_fill_53178_37 : List (Nat × (Nat × Nat)) := [(37, (0, 5))]
theorem ct_J7_fill_53178_37 (X : Int) (hX : 0 ≤ X ∧ X ≤ 100000000) (M0 : JM) (hH0 : HI X M0) (a0 : Int) (ha0 : 0 ≤ a0 ∧ a0 ≤ 0) : JOk shp PJ 1 1 [.inr (.inr (.inl 37)), .inl a0] M0 (jRv (fun M' => HI X M' ∧ Fr md_J7_fill_53178_37 M0 M' )) := by
 refine ⟨jr_J7_fill_53178, pj_J7_fill_53178, fun F c1 c2 c3 => ?_⟩
 have hm := pj_J7_fill_53178
 change F 0 [some (.inr (.inr (.inl 37))), some (.inl a0), none, none] [] M0
 have hF0 : Fr md_J7_fill_53178_37 M0 M0 := Fr.rf _ _
 refine jy_ic c1 hm rfl (by decide) ?_
 refine jx_stor c1 hm (L' := [some (.inr (.inr (.inl 37))), some (.inl a0), some (.inl 0), none]) rfl rfl rfl rfl rfl ?_
 refine jx_load c1 hm rfl rfl rfl rfl ?_
 refine jx_alen c1 hm (v := 6) rfl sh_37 rfl rfl ?_
 refine jx_stor c1 hm (L' := [some (.inr (.inr (.inl 37))), some (.inl a0), some (.inl 0), some (.inl 6)]) rfl rfl rfl rfl rfl ?_
 have W3 : ∀ (n4 : Nat) (b1 : Int) (hb1 : 0 ≤ b1 ∧ b1 ≤ 6) (M2 : JM) (hH2 : HI (X) M2) (hF2 : Fr md_J7_fill_53178_37 M0 M2), (-b1 + 6) < (n4 : Int) → F 5 [some (.inr (.inr (.inl 37))), some (.inl a0), some (.inl b1), some (.inl 6)] [] M2 := by
  intro n4
  induction n4 with
  | zero => intros; omega
  | succ n4 ihW3 =>
   intro b1 hb1 M2 hH2 hF2 hrW3
   refine jx_load c1 hm rfl rfl rfl rfl ?_
   refine jx_load c1 hm rfl rfl rfl rfl ?_
   refine jc_ge c1 hm 20 rfl rfl (fun h5 => ?_) (fun h5 => ?_)
   ·
    exact jx_retv c2 hm rfl rfl ⟨rfl, hH2, hF2⟩
   refine jx_load c1 hm rfl rfl rfl rfl ?_
   refine jx_load c1 hm rfl rfl rfl rfl ?_
   refine jx_load c1 hm rfl rfl rfl rfl ?_
   obtain ⟨M6, e6, hH6, hF6, k6, n6, _⟩ := mup hH2 hF2 (c := 37) (i := (b1).toNat) (v := a0) (A := (-2147483648)) (B := 2147483647) rfl ⟨by omega, by omega⟩ (jin_of 0 rfl ⟨by omega, by omega⟩)
   refine jm_iast c1 hm rfl sh_37 ⟨by omega, by omega⟩ e6 ?_
   refine jx_iinc c1 hm (v := (b1 + 1)) (L' := [some (.inr (.inr (.inl 37))), some (.inl a0), some (.inl (b1 + 1)), some (.inl 6)]) rfl rfl (by omega) (by omega) rfl ?_
   refine jx_goto c1 hm 5 rfl rfl ?_
   exact ihW3 (b1 + 1) (by omega) M6 hH6 hF6 (by omega)
 exact W3 (6 + 1 : Int).toNat 0 (by omega) M0 hH0 hF0 (by omega)
def md_J7_fill_53178_38 : List (Nat × (Nat × Nat)) := [(38, (0, 5))]
theorem ct_J7_fill_53178_38 (X : Int) (hX : 0 ≤ X ∧ X ≤ 100000000) (M0 : JM) (hH0 : HI X M0) (a0 : Int) (ha0 : 0 ≤ a0 ∧ a0 ≤ 0) : JOk shp PJ 1 1 [.inr (.inr (.inl 38)), .inl a0] M0 (jRv (fun M' => HI X M' ∧ Fr md_J7_fill_53178_38 M0 M' )) := by
 refine ⟨jr_J7_fill_53178, pj_J7_fill_53178, fun F c1 c2 c3 => ?_⟩
 have hm := pj_J7_fill_53178
 change F 0 [some (.inr (.inr (.inl 38))), some (.inl a0), none, none] [] M0
 have hF0 : Fr md_J7_fill_53178_38 M0 M0 := Fr.rf _ _
 refine jy_ic c1 hm rfl (by decide) ?_
 refine jx_stor c1 hm (L' := [some (.inr (.inr (.inl 38))), some (.inl a0), some (.inl 0), none]) rfl rfl rfl rfl rfl ?_
 refine jx_load c1 hm rfl rfl rfl rfl ?_
 refine jx_alen c1 hm (v := 6) rfl sh_38 rfl rfl ?_
 refine jx_stor c1 hm (L' := [some (.inr (.inr (.inl 38))), some (.inl a0), some (.inl 0), some (.inl 6)]) rfl rfl rfl rfl rfl ?_
 have W3 : ∀ (n4 : Nat) (b1 : Int) (hb1 : 0 ≤ b1 ∧ b1 ≤ 6) (M2 : JM) (hH2 : HI (X) M2) (hF2 : Fr md_J7_fill_53178_38 M0 M2), (-b1 + 6) < (n4 : Int) → F 5 [some (.inr (.inr (.inl 38))), some (.inl a0), some (.inl b1), some (.inl 6)] [] M2 := by
  intro n4
  induction n4 with
  | zero => intros; omega
  | succ n4 ihW3 =>
   intro b1 hb1 M2 hH2 hF2 hrW3
   refine jx_load c1 hm rfl rfl rfl rfl ?_
   refine jx_load c1 hm rfl rfl rfl rfl ?_
   refine jc_ge c1 hm 20 rfl rfl (fun h5 => ?_) (fun h5 => ?_)
   ·
    exact jx_retv c2 hm rfl rfl ⟨rfl, hH2, hF2⟩
   refine jx_load c1 hm rfl rfl rfl rfl ?_
   refine jx_load c1 hm rfl rfl rfl rfl ?_
   refine jx_load c1 hm rfl rfl rfl rfl ?_
   obtain ⟨M6, e6, hH6, hF6, k6, n6, _⟩ := mup hH2 hF2 (c := 38) (i := (b1).toNat) (v := a0) (A := (-2147483648)) (B := 2147483647) rfl ⟨by omega, by omega⟩ (jin_of 0 rfl ⟨by omega, by omega⟩)
   refine jm_iast c1 hm rfl sh_38 ⟨by omega, by omega⟩ e6 ?_
   refine jx_iinc c1 hm (v := (b1 + 1)) (L' := [some (.inr (.inr (.inl 38))), some (.inl a0), some (.inl (b1 + 1)), some (.inl 6)]) rfl rfl (by omega) (by omega) rfl ?_
   refine jx_goto c1 hm 5 rfl rfl ?_
   exact ihW3 (b1 + 1) (by omega) M6 hH6 hF6 (by omega)
 exact W3 (6 + 1 : Int).toNat 0 (by omega) M0 hH0 hF0 (by omega)
def md_J7_fill_53178_39 : List (Nat × (Nat × Nat)) := [(39, (0, 35))]
theorem ct_J7_fill_53178_39 (X : Int) (hX : 0 ≤ X ∧ X ≤ 100000000) (M0 : JM) (hH0 : HI X M0) (a0 : Int) (ha0 : 0 ≤ a0 ∧ a0 ≤ 0) : JOk shp PJ 1 1 [.inr (.inr (.inl 39)), .inl a0] M0 (jRv (fun M' => HI X M' ∧ Fr md_J7_fill_53178_39 M0 M' )) := by
 refine ⟨jr_J7_fill_53178, pj_J7_fill_53178, fun F c1 c2 c3 => ?_⟩
 have hm := pj_J7_fill_53178
 change F 0 [some (.inr (.inr (.inl 39))), some (.inl a0), none, none] [] M0
 have hF0 : Fr md_J7_fill_53178_39 M0 M0 := Fr.rf _ _
 refine jy_ic c1 hm rfl (by decide) ?_
 refine jx_stor c1 hm (L' := [some (.inr (.inr (.inl 39))), some (.inl a0), some (.inl 0), none]) rfl rfl rfl rfl rfl ?_
 refine jx_load c1 hm rfl rfl rfl rfl ?_
 refine jx_alen c1 hm (v := 36) rfl sh_39 rfl rfl ?_
 refine jx_stor c1 hm (L' := [some (.inr (.inr (.inl 39))), some (.inl a0), some (.inl 0), some (.inl 36)]) rfl rfl rfl rfl rfl ?_
 have W3 : ∀ (n4 : Nat) (b1 : Int) (hb1 : 0 ≤ b1 ∧ b1 ≤ 36) (M2 : JM) (hH2 : HI (X) M2) (hF2 : Fr md_J7_fill_53178_39 M0 M2), (-b1 + 36) < (n4 : Int) → F 5 [some (.inr (.inr (.inl 39))), some (.inl a0), some (.inl b1), some (.inl 36)] [] M2 := by
  intro n4
  induction n4 with
  | zero => intros; omega
  | succ n4 ihW3 =>
   intro b1 hb1 M2 hH2 hF2 hrW3
   refine jx_load c1 hm rfl rfl rfl rfl ?_
   refine jx_load c1 hm rfl rfl rfl rfl ?_
   refine jc_ge c1 hm 20 rfl rfl (fun h5 => ?_) (fun h5 => ?_)
   ·
    exact jx_retv c2 hm rfl rfl ⟨rfl, hH2, hF2⟩
   refine jx_load c1 hm rfl rfl rfl rfl ?_
   refine jx_load c1 hm rfl rfl rfl rfl ?_
   refine jx_load c1 hm rfl rfl rfl rfl ?_
   obtain ⟨M6, e6, hH6, hF6, k6, n6, _⟩ := mup hH2 hF2 (c := 39) (i := (b1).toNat) (v := a0) (A := (-2147483648)) (B := 2147483647) rfl ⟨by omega, by omega⟩ (jin_of 0 rfl ⟨by omega, by omega⟩)
   refine jm_iast c1 hm rfl sh_39 ⟨by omega, by omega⟩ e6 ?_
   refine jx_iinc c1 hm (v := (b1 + 1)) (L' := [some (.inr (.inr (.inl 39))), some (.inl a0), some (.inl (b1 + 1)), some (.inl 36)]) rfl rfl (by omega) (by omega) rfl ?_
   refine jx_goto c1 hm 5 rfl rfl ?_
   exact ihW3 (b1 + 1) (by omega) M6 hH6 hF6 (by omega)
 exact W3 (36 + 1 : Int).toNat 0 (by omega) M0 hH0 hF0 (by omega)
def md_J7_fill_53178_40 : List (Nat × (Nat × Nat)) := [(40, (0, 35))]
theorem ct_J7_fill_53178_40 (X : Int) (hX : 0 ≤ X ∧ X ≤ 100000000) (M0 : JM) (hH0 : HI X M0) (a0 : Int) (ha0 : 0 ≤ a0 ∧ a0 ≤ 0) : JOk shp PJ 1 1 [.inr (.inr (.inl 40)), .inl a0] M0 (jRv (fun M' => HI X M' ∧ Fr md_J7_fill_53178_40 M0 M' )) := by
 refine ⟨jr_J7_fill_53178, pj_J7_fill_53178, fun F c1 c2 c3 => ?_⟩
 have hm := pj_J7_fill_53178
 change F 0 [some (.inr (.inr (.inl 40))), some (.inl a0), none, none] [] M0
 have hF0 : Fr md_J7_fill_53178_40 M0 M0 := Fr.rf _ _
 refine jy_ic c1 hm rfl (by decide) ?_
 refine jx_stor c1 hm (L' := [some (.inr (.inr (.inl 40))), some (.inl a0), some (.inl 0), none]) rfl rfl rfl rfl rfl ?_
 refine jx_load c1 hm rfl rfl rfl rfl ?_
 refine jx_alen c1 hm (v := 36) rfl sh_40 rfl rfl ?_
 refine jx_stor c1 hm (L' := [some (.inr (.inr (.inl 40))), some (.inl a0), some (.inl 0), some (.inl 36)]) rfl rfl rfl rfl rfl ?_
 have W3 : ∀ (n4 : Nat) (b1 : Int) (hb1 : 0 ≤ b1 ∧ b1 ≤ 36) (M2 : JM) (hH2 : HI (X) M2) (hF2 : Fr md_J7_fill_53178_40 M0 M2), (-b1 + 36) < (n4 : Int) → F 5 [some (.inr (.inr (.inl 40))), some (.inl a0), some (.inl b1), some (.inl 36)] [] M2 := by
  intro n4
  induction n4 with
  | zero => intros; omega
  | succ n4 ihW3 =>
   intro b1 hb1 M2 hH2 hF2 hrW3
   refine jx_load c1 hm rfl rfl rfl rfl ?_
   refine jx_load c1 hm rfl rfl rfl rfl ?_
   refine jc_ge c1 hm 20 rfl rfl (fun h5 => ?_) (fun h5 => ?_)
   ·
    exact jx_retv c2 hm rfl rfl ⟨rfl, hH2, hF2⟩
   refine jx_load c1 hm rfl rfl rfl rfl ?_
   refine jx_load c1 hm rfl rfl rfl rfl ?_
   refine jx_load c1 hm rfl rfl rfl rfl ?_
   obtain ⟨M6, e6, hH6, hF6, k6, n6, _⟩ := mup hH2 hF2 (c := 40) (i := (b1).toNat) (v := a0) (A := 0) (B := 1 * X) rfl ⟨by omega, by omega⟩ (jin_of 0 rfl ⟨by omega, by omega⟩)
   refine jm_iast c1 hm rfl sh_40 ⟨by omega, by omega⟩ e6 ?_
   refine jx_iinc c1 hm (v := (b1 + 1)) (L' := [some (.inr (.inr (.inl 40))), some (.inl a0), some (.inl (b1 + 1)), some (.inl 36)]) rfl rfl (by omega) (by omega) rfl ?_
   refine jx_goto c1 hm 5 rfl rfl ?_
   exact ihW3 (b1 + 1) (by omega) M6 hH6 hF6 (by omega)
 exact W3 (36 + 1 : Int).toNat 0 (by omega) M0 hH0 hF0 (by omega)
def md_J7_fill_53178_41 : List (Nat × (Nat × Nat)) := [(41, (0, 35))]
theorem ct_J7_fill_53178_41 (X : Int) (hX : 0 ≤ X ∧ X ≤ 100000000) (M0 : JM) (hH0 : HI X M0) (a0 : Int) (ha0 : 0 ≤ a0 ∧ a0 ≤ 0) : JOk shp PJ 1 1 [.inr (.inr (.inl 41)), .inl a0] M0 (jRv (fun M' => HI X M' ∧ Fr md_J7_fill_53178_41 M0 M' )) := by
 refine ⟨jr_J7_fill_53178, pj_J7_fill_53178, fun F c1 c2 c3 => ?_⟩
 have hm := pj_J7_fill_53178
 change F 0 [some (.inr (.inr (.inl 41))), some (.inl a0), none, none] [] M0
 have hF0 : Fr md_J7_fill_53178_41 M0 M0 := Fr.rf _ _
 refine jy_ic c1 hm rfl (by decide) ?_
 refine jx_stor c1 hm (L' := [some (.inr (.inr (.inl 41))), some (.inl a0), some (.inl 0), none]) rfl rfl rfl rfl rfl ?_
 refine jx_load c1 hm rfl rfl rfl rfl ?_
 refine jx_alen c1 hm (v := 36) rfl sh_41 rfl rfl ?_
 refine jx_stor c1 hm (L' := [some (.inr (.inr (.inl 41))), some (.inl a0), some (.inl 0), some (.inl 36)]) rfl rfl rfl rfl rfl ?_
 have W3 : ∀ (n4 : Nat) (b1 : Int) (hb1 : 0 ≤ b1 ∧ b1 ≤ 36) (M2 : JM) (hH2 : HI (X) M2) (hF2 : Fr md_J7_fill_53178_41 M0 M2), (-b1 + 36) < (n4 : Int) → F 5 [some (.inr (.inr (.inl 41))), some (.inl a0), some (.inl b1), some (.inl 36)] [] M2 := by
  intro n4
  induction n4 with
  | zero => intros; omega
  | succ n4 ihW3 =>
   intro b1 hb1 M2 hH2 hF2 hrW3
   refine jx_load c1 hm rfl rfl rfl rfl ?_
   refine jx_load c1 hm rfl rfl rfl rfl ?_
   refine jc_ge c1 hm 20 rfl rfl (fun h5 => ?_) (fun h5 => ?_)
   ·
    exact jx_retv c2 hm rfl rfl ⟨rfl, hH2, hF2⟩
   refine jx_load c1 hm rfl rfl rfl rfl ?_
   refine jx_load c1 hm rfl rfl rfl rfl ?_
   refine jx_load c1 hm rfl rfl rfl rfl ?_
   obtain ⟨M6, e6, hH6, hF6, k6, n6, _⟩ := mup hH2 hF2 (c := 41) (i := (b1).toNat) (v := a0) (A := (-2147483648)) (B := 2147483647) rfl ⟨by omega, by omega⟩ (jin_of 0 rfl ⟨by omega, by omega⟩)
   refine jm_iast c1 hm rfl sh_41 ⟨by omega, by omega⟩ e6 ?_
   refine jx_iinc c1 hm (v := (b1 + 1)) (L' := [some (.inr (.inr (.inl 41))), some (.inl a0), some (.inl (b1 + 1)), some (.inl 36)]) rfl rfl (by omega) (by omega) rfl ?_
   refine jx_goto c1 hm 5 rfl rfl ?_
   exact ihW3 (b1 + 1) (by omega) M6 hH6 hF6 (by omega)
 exact W3 (36 + 1 : Int).toNat 0 (by omega) M0 hH0 hF0 (by omega)
def md_X8_clear_34 : List (Nat × (Nat × Nat)) := [(34, (7, 7)), (35, (0, 5)), (36, (0, 5)), (37, (0, 5)), (38, (0, 5)), (39, (0, 35)), (40, (0, 35)), (41, (0, 35))]
theorem ct_X8_clear_34 (X : Int) (hX : 0 ≤ X ∧ X ≤ 100000000) (M0 : JM) (hH0 : HI X M0)  : JOk shp PJ 2 263 [.inr (.inr (.inl 34))] M0 (jRv (fun M' => HI X M' ∧ Fr md_X8_clear_34 M0 M' )) := by
 refine ⟨jr_X8_clear, pj_X8_clear, fun F c1 c2 c3 => ?_⟩
 have hm := pj_X8_clear
 change F 0 [some (.inr (.inr (.inl 34)))] [] M0
 have hF0 : Fr md_X8_clear_34 M0 M0 := Fr.rf _ _
 refine jx_load c1 hm rfl rfl rfl rfl ?_
 refine jx_getr c1 hm rfl sh_34 rfl ?_
 refine jy_ic c1 hm rfl (by decide) ?_
 refine jt_v c3 hm rfl rfl pj_J7_fill_53178 rfl rfl rfl ((ct_J7_fill_53178_35 X (by omega) M0 hH0 0 ⟨by omega, by omega⟩).le (by decide)) (fun M1 ⟨hH1, hR1⟩ => ?_)
 have hF1 := hF0.tr hR1 (by decide +kernel)
 refine jx_load c1 hm rfl rfl rfl rfl ?_
 refine jx_getr c1 hm rfl sh_34 rfl ?_
 refine jy_ic c1 hm rfl (by decide) ?_
 refine jt_v c3 hm rfl rfl pj_J7_fill_53178 rfl rfl rfl ((ct_J7_fill_53178_36 X (by omega) M1 hH1 0 ⟨by omega, by omega⟩).le (by decide)) (fun M2 ⟨hH2, hR2⟩ => ?_)
 have hF2 := hF1.tr hR2 (by decide +kernel)
 refine jx_load c1 hm rfl rfl rfl rfl ?_
 refine jx_getr c1 hm rfl sh_34 rfl ?_
 refine jy_ic c1 hm rfl (by decide) ?_
 refine jt_v c3 hm rfl rfl pj_J7_fill_53178 rfl rfl rfl ((ct_J7_fill_53178_37 X (by omega) M2 hH2 0 ⟨by omega, by omega⟩).le (by decide)) (fun M3 ⟨hH3, hR3⟩ => ?_)
 have hF3 := hF2.tr hR3 (by decide +kernel)
 refine jx_load c1 hm rfl rfl rfl rfl ?_
 refine jx_getr c1 hm rfl sh_34 rfl ?_
 refine jy_ic c1 hm rfl (by decide) ?_
 refine jt_v c3 hm rfl rfl pj_J7_fill_53178 rfl rfl rfl ((ct_J7_fill_53178_38 X (by omega) M3 hH3 0 ⟨by omega, by omega⟩).le (by decide)) (fun M4 ⟨hH4, hR4⟩ => ?_)
 have hF4 := hF3.tr hR4 (by decide +kernel)
 refine jx_load c1 hm rfl rfl rfl rfl ?_
 refine jx_getr c1 hm rfl sh_34 rfl ?_
 refine jy_ic c1 hm rfl (by decide) ?_
 refine jt_v c3 hm rfl rfl pj_J7_fill_53178 rfl rfl rfl ((ct_J7_fill_53178_39 X (by omega) M4 hH4 0 ⟨by omega, by omega⟩).le (by decide)) (fun M5 ⟨hH5, hR5⟩ => ?_)
 have hF5 := hF4.tr hR5 (by decide +kernel)
 refine jx_load c1 hm rfl rfl rfl rfl ?_
 refine jx_getr c1 hm rfl sh_34 rfl ?_
 refine jy_ic c1 hm rfl (by decide) ?_
 refine jt_v c3 hm rfl rfl pj_J7_fill_53178 rfl rfl rfl ((ct_J7_fill_53178_40 X (by omega) M5 hH5 0 ⟨by omega, by omega⟩).le (by decide)) (fun M6 ⟨hH6, hR6⟩ => ?_)
 have hF6 := hF5.tr hR6 (by decide +kernel)
 refine jx_load c1 hm rfl rfl rfl rfl ?_
 refine jx_getr c1 hm rfl sh_34 rfl ?_
 refine jy_ic c1 hm rfl (by decide) ?_
 refine jt_v c3 hm rfl rfl pj_J7_fill_53178 rfl rfl rfl ((ct_J7_fill_53178_41 X (by omega) M6 hH6 0 ⟨by omega, by omega⟩).le (by decide)) (fun M7 ⟨hH7, hR7⟩ => ?_)
 have hF7 := hF6.tr hR7 (by decide +kernel)
 refine jx_load c1 hm rfl rfl rfl rfl ?_
 refine jy_ic c1 hm rfl (by decide) ?_
 obtain ⟨M8, e8, hH8, hF8, k8, n8, _⟩ := mup hH7 hF7 (c := 34) (i := 7) (v := 0) (A := (-2147483648)) (B := 2147483647) rfl ⟨by omega, by omega⟩ (jin_of 0 rfl ⟨by omega, by omega⟩)
 refine jm_puti c1 hm rfl sh_34 rfl e8 ?_
 exact jx_retv c2 hm rfl rfl ⟨rfl, hH8, hF8⟩
def md_X7_clear_42 : List (Nat × (Nat × Nat)) := [(42, (2, 2)), (42, (3, 3))]
theorem ct_X7_clear_42 (X : Int) (hX : 0 ≤ X ∧ X ≤ 100000000) (M0 : JM) (hH0 : HI X M0)  : JOk shp PJ 1 251 [.inr (.inr (.inl 42))] M0 (jRv (fun M' => HI X M' ∧ Fr md_X7_clear_42 M0 M' )) := by
 refine ⟨jr_X7_clear, pj_X7_clear, fun F c1 c2 c3 => ?_⟩
 have hm := pj_X7_clear
 change F 0 [some (.inr (.inr (.inl 42)))] [] M0
 have hF0 : Fr md_X7_clear_42 M0 M0 := Fr.rf _ _
 refine jx_load c1 hm rfl rfl rfl rfl ?_
 refine jy_ic c1 hm rfl (by decide) ?_
 obtain ⟨M1, e1, hH1, hF1, k1, n1, _⟩ := mup hH0 hF0 (c := 42) (i := 2) (v := 0) (A := 0) (B := 40) (bs_21_1 _ _ (by omega) (by omega)) ⟨by omega, by omega⟩ (jin_of 0 rfl ⟨by omega, by omega⟩)
 refine jm_puti c1 hm rfl sh_42 rfl e1 ?_
 refine jx_load c1 hm rfl rfl rfl rfl ?_
 refine jy_ic c1 hm rfl (by decide) ?_
 obtain ⟨M2, e2, hH2, hF2, k2, n2, _⟩ := mup hH1 hF1 (c := 42) (i := 3) (v := 0) (A := 0) (B := 20) (bs_21_2 _ _ (by omega) (by omega)) ⟨by omega, by omega⟩ (jin_of 1 rfl ⟨by omega, by omega⟩)
 refine jm_puti c1 hm rfl sh_42 rfl e2 ?_
 exact jx_retv c2 hm rfl rfl ⟨rfl, hH2, hF2⟩
def md_X2_clear_27 : List (Nat × (Nat × Nat)) := [(27, (6, 6)), (27, (7, 7)), (28, (0, 2)), (32, (0, 35)), (34, (7, 7)), (35, (0, 5)), (36, (0, 5)), (37, (0, 5)), (38, (0, 5)), (39, (0, 35)), (40, (0, 35)), (41, (0, 35)), (42, (2, 2)), (42, (3, 3))]
theorem ct_X2_clear_27 (X : Int) (hX : 0 ≤ X ∧ X ≤ 100000000) (M0 : JM) (hH0 : HI X M0)  : JOk shp PJ 3 213 [.inr (.inr (.inl 27))] M0 (jRv (fun M' => HI X M' ∧ Fr md_X2_clear_27 M0 M' )) := by
 refine ⟨jr_X2_clear, pj_X2_clear, fun F c1 c2 c3 => ?_⟩
 have hm := pj_X2_clear
 change F 0 [some (.inr (.inr (.inl 27)))] [] M0
 have hF0 : Fr md_X2_clear_27 M0 M0 := Fr.rf _ _
 refine jx_load c1 hm rfl rfl rfl rfl ?_
 refine jx_getr c1 hm rfl sh_27 rfl ?_
 refine jy_ic c1 hm rfl (by decide) ?_
 refine jt_v c3 hm rfl rfl pj_J7_fill_53178 rfl rfl rfl ((ct_J7_fill_53178_28 X (by omega) M0 hH0 0 ⟨by omega, by omega⟩).le (by decide)) (fun M1 ⟨hH1, hR1⟩ => ?_)
 have hF1 := hF0.tr hR1 (by decide +kernel)
 refine jx_load c1 hm rfl rfl rfl rfl ?_
 refine jx_getr c1 hm rfl sh_27 rfl ?_
 refine jy_ic c1 hm rfl (by decide) ?_
 refine jt_v c3 hm rfl rfl pj_J7_fill_53178 rfl rfl rfl ((ct_J7_fill_53178_32 X (by omega) M1 hH1 (-1) ⟨by omega, by omega⟩).le (by decide)) (fun M2 ⟨hH2, hR2⟩ => ?_)
 have hF2 := hF1.tr hR2 (by decide +kernel)
 refine jx_load c1 hm rfl rfl rfl rfl ?_
 refine jy_ic c1 hm rfl (by decide) ?_
 obtain ⟨M3, e3, hH3, hF3, k3, n3, _⟩ := mup hH2 hF2 (c := 27) (i := 6) (v := (-1)) (A := (-1)) (B := 9) (bs_23_1 _ _ (by omega) (by omega)) ⟨by omega, by omega⟩ (jin_of 0 rfl ⟨by omega, by omega⟩)
 refine jm_puti c1 hm rfl sh_27 rfl e3 ?_
 refine jx_load c1 hm rfl rfl rfl rfl ?_
 refine jy_ic c1 hm rfl (by decide) ?_
 obtain ⟨M4, e4, hH4, hF4, k4, n4, _⟩ := mup hH3 hF3 (c := 27) (i := 7) (v := (-1)) (A := (-1)) (B := 9) (bs_23_1 _ _ (by omega) (by omega)) ⟨by omega, by omega⟩ (jin_of 1 rfl ⟨by omega, by omega⟩)
 refine jm_puti c1 hm rfl sh_27 rfl e4 ?_
 refine jx_load c1 hm rfl rfl rfl rfl ?_
 refine jx_getr c1 hm rfl sh_27 rfl ?_
 refine jv_v c3 hm rfl pj_X8_clear rfl rfl ⟨_, _, _, rfl, sh_34⟩ rfl ((ct_X8_clear_34 X (by omega) M4 hH4 ).le (by decide)) (fun M5 ⟨hH5, hR5⟩ => ?_)
 have hF5 := hF4.tr hR5 (by decide +kernel)
 refine jx_load c1 hm rfl rfl rfl rfl ?_
 refine jx_getr c1 hm rfl sh_27 rfl ?_
 refine jv_v c3 hm rfl pj_X7_clear rfl rfl ⟨_, _, _, rfl, sh_42⟩ rfl ((ct_X7_clear_42 X (by omega) M5 hH5 ).le (by decide)) (fun M6 ⟨hH6, hR6⟩ => ?_)
 have hF6 := hF5.tr hR6 (by decide +kernel)
 exact jx_retv c2 hm rfl rfl ⟨rfl, hH6, hF6⟩
def md_X10_fails_1 : List (Nat × (Nat × Nat)) := [(1, (12, 12)), (1, (13, 13))]
theorem ct_X10_fails_1 (X : Int) (hX : 0 ≤ X ∧ X ≤ 100000000) (M0 : JM) (hH0 : HI X M0) (a0 : Int) (ha0 : 1 ≤ a0 ∧ a0 ≤ 4) (a1 : Int) (ha1 : 0 ≤ a1 ∧ a1 ≤ 940) : JOk shp PJ 1 14 [.inr (.inr (.inl 1)), .inl a0, .inl a1] M0 (jRi (fun v M' => HI X M' ∧ Fr md_X10_fails_1 M0 M' ∧ 0 ≤ v ∧ v ≤ 1 ∧ (v = 0))) := by
 refine ⟨jr_X10_fails, pj_X10_fails, fun F c1 c2 c3 => ?_⟩
 have hm := pj_X10_fails
 change F 0 [some (.inr (.inr (.inl 1))), some (.inl a0), some (.inl a1)] [] M0
 have hF0 : Fr md_X10_fails_1 M0 M0 := Fr.rf _ _
 refine jx_load c1 hm rfl rfl rfl rfl ?_
 refine jx_load c1 hm rfl rfl rfl rfl ?_
 obtain ⟨M1, e1, hH1, hF1, k1, n1, _⟩ := mup hH0 hF0 (c := 1) (i := 12) (v := a0) (A := 0) (B := 4) (bs_19_8 _ _ (by omega) (by omega)) ⟨by omega, by omega⟩ (jin_of 0 rfl ⟨by omega, by omega⟩)
 refine jm_puti c1 hm rfl sh_1 rfl e1 ?_
 refine jx_load c1 hm rfl rfl rfl rfl ?_
 refine jx_load c1 hm rfl rfl rfl rfl ?_
 obtain ⟨M2, e2, hH2, hF2, k2, n2, _⟩ := mup hH1 hF1 (c := 1) (i := 13) (v := a1) (A := 0) (B := 940) (bs_19_9 _ _ (by omega) (by omega)) ⟨by omega, by omega⟩ (jin_of 1 rfl ⟨by omega, by omega⟩)
 refine jm_puti c1 hm rfl sh_1 rfl e2 ?_
 refine jy_ic c1 hm rfl (by decide) ?_
 exact jx_retz c2 hm rfl rfl ⟨by omega, by omega⟩ ⟨_, rfl, hH2, hF2, by omega, by omega, (by omega)⟩
def md_X2_takesFirstWord_27_1 : List (Nat × (Nat × Nat)) := [(1, (4, 4)), (1, (5, 5)), (1, (6, 6)), (1, (7, 7)), (1, (9, 9)), (1, (12, 12)), (1, (13, 13))]
theorem ct_X2_takesFirstWord_27_1 (X : Int) (hX : 0 ≤ X ∧ X ≤ 100000000) (M0 : JM) (hH0 : HI X M0) (a0 : Int) (ha0 : 0 ≤ a0 ∧ a0 ≤ 2) : JOk shp PJ 3 232 [.inr (.inr (.inl 27)), .inr (.inr (.inl 1)), .inl a0] M0 (jRi (fun v M' => HI X M' ∧ Fr md_X2_takesFirstWord_27_1 M0 M' ∧ 0 ≤ v ∧ v ≤ 1 )) := by
 refine ⟨jr_X2_takesFirstWord, pj_X2_takesFirstWord, fun F c1 c2 c3 => ?_⟩
 have hm := pj_X2_takesFirstWord
 change F 0 [some (.inr (.inr (.inl 27))), some (.inr (.inr (.inl 1))), some (.inl a0)] [] M0
 have hF0 : Fr md_X2_takesFirstWord_27_1 M0 M0 := Fr.rf _ _
 refine jx_load c1 hm rfl rfl rfl rfl ?_
 refine jx_getr c1 hm rfl sh_27 rfl ?_
 refine jx_load c1 hm rfl rfl rfl rfl ?_
 obtain ⟨z1, k2, lz1, uz1⟩ := hH0.ld (c := 28) (i := (a0).toNat) (A := 0) (B := 6) rfl
 refine jx_iald c1 hm rfl sh_28 ⟨by omega, by omega⟩ k2 ?_
 refine jy_bp c1 hm rfl (by decide) ?_
 refine jc_lt c1 hm 21 rfl rfl (fun h3 => ?_) (fun h3 => ?_)
 ·
  refine jx_load c1 hm rfl rfl rfl rfl ?_
  refine jv_v c3 hm rfl pj_X10_next rfl rfl ⟨_, _, _, rfl, sh_1⟩ rfl ((ct_X10_next_1 X (by omega) M0 hH0 ).le (by decide)) (fun M4 ⟨hH4, hR4⟩ => ?_)
  have hF4 := hF0.tr hR4 (by decide +kernel)
  refine jy_ic c1 hm rfl (by decide) ?_
  exact jx_retz c2 hm rfl rfl ⟨by omega, by omega⟩ ⟨_, rfl, hH4, hF4, by omega, by omega⟩
 refine jx_load c1 hm rfl rfl rfl rfl ?_
 refine jy_ic c1 hm rfl (by decide) ?_
 refine jx_load c1 hm rfl rfl rfl rfl ?_
 obtain ⟨z5, k6, lz5, uz5⟩ := hH0.ld (c := 1) (i := 5) (A := 0) (B := 940) (bs_19_3 _ _ (by omega) (by omega))
 refine jx_geti c1 hm rfl sh_1 rfl k6 ?_
 refine jv_i c3 hm rfl pj_X10_fails rfl rfl ⟨_, _, _, rfl, sh_1⟩ rfl ((ct_X10_fails_1 X (by omega) M0 hH0 4 ⟨by omega, by omega⟩ z5 ⟨by omega, by omega⟩).le (by decide)) (fun z7 M9 ⟨hH9, hR9, lz7, uz7, p8⟩ => ?_)
 have hF9 := hF0.tr hR9 (by decide +kernel)
 exact jx_retz c2 hm rfl rfl ⟨by omega, by omega⟩ ⟨_, rfl, hH9, hF9, by omega, by omega⟩
theorem ct_X2_placeOf_27 (X : Int) (hX : 0 ≤ X ∧ X ≤ 100000000) (M0 : JM) (hH0 : HI X M0) (a0 : Int64) : JOk shp PJ 1 221 [.inr (.inr (.inl 27)), .inr (.inl a0)] M0 (jRi (fun v M' => M0 = M' ∧ (-1) ≤ v ∧ v ≤ 17 )) := by
 refine ⟨jr_X2_placeOf, pj_X2_placeOf, fun F c1 c2 c3 => ?_⟩
 have hm := pj_X2_placeOf
 change F 0 [some (.inr (.inr (.inl 27))), some (.inr (.inl a0)), none, none, none] [] M0
 refine jy_ic c1 hm rfl (by decide) ?_
 refine jx_stor c1 hm (L' := [some (.inr (.inr (.inl 27))), some (.inr (.inl a0)), none, some (.inl 0), none]) rfl rfl rfl rfl rfl ?_
 have W3 : ∀ (n4 : Nat) (b1 : Int) (hb1 : 0 ≤ b1 ∧ b1 ≤ 3) (o2 : Option JV) (ho2 : o2 = none ∨ (∃ z, o2 = some (.inl z)) ∨ ∃ r, o2 = some (.inr (.inr r))), (-b1 + 3) < (n4 : Int) → F 2 [some (.inr (.inr (.inl 27))), some (.inr (.inl a0)), none, some (.inl b1), o2] [] M0 := by
  intro n4
  induction n4 with
  | zero => intros; omega
  | succ n4 ihW3 =>
   intro b1 hb1 o2 ho2 hrW3
   refine jx_load c1 hm rfl rfl rfl rfl ?_
   refine jy_ic c1 hm rfl (by decide) ?_
   refine jc_ge c1 hm 58 rfl rfl (fun h5 => ?_) (fun h5 => ?_)
   ·
    refine jy_ic c1 hm rfl (by decide) ?_
    exact jx_reti c2 hm rfl rfl ⟨_, rfl, rfl, by omega, by omega⟩
   refine jy_ic c1 hm rfl (by decide) ?_
   refine jx_stor c1 hm (L' := [some (.inr (.inr (.inl 27))), some (.inr (.inl a0)), none, some (.inl b1), some (.inl 0)]) rfl rfl rfl rfl rfl ?_
   have W7 : ∀ (n8 : Nat) (b6 : Int) (hb6 : 0 ≤ b6 ∧ b6 ≤ 6), (-b6 + 6) < (n8 : Int) → F 10 [some (.inr (.inr (.inl 27))), some (.inr (.inl a0)), none, some (.inl b1), some (.inl b6)] [] M0 := by
    intro n8
    induction n8 with
    | zero => intros; omega
    | succ n8 ihW7 =>
     intro b6 hb6 hrW7
     refine jx_load c1 hm rfl rfl rfl rfl ?_
     refine jx_load c1 hm rfl rfl rfl rfl ?_
     refine jx_getr c1 hm rfl sh_27 rfl ?_
     refine jx_load c1 hm rfl rfl rfl rfl ?_
     obtain ⟨z9, k10, lz9, uz9⟩ := hH0.ld (c := 28) (i := (b1).toNat) (A := 0) (B := 6) rfl
     refine jx_iald c1 hm rfl sh_28 ⟨by omega, by omega⟩ k10 ?_
     refine jc_ge c1 hm 52 rfl rfl (fun h11 => ?_) (fun h11 => ?_)
     ·
      refine jx_iinc c1 hm (v := (b1 + 1)) (L' := [some (.inr (.inr (.inl 27))), some (.inr (.inl a0)), none, some (.inl (b1 + 1)), some (.inl b6)]) rfl rfl (by omega) (by omega) rfl ?_
      refine jx_goto c1 hm 2 rfl rfl ?_
      exact ihW3 (b1 + 1) (by omega) (some (.inl b6)) (Or.inr (Or.inl ⟨_, rfl⟩)) (by omega)
     refine jx_load c1 hm rfl rfl rfl rfl ?_
     refine jx_getr c1 hm rfl sh_27 rfl ?_
     refine jx_load c1 hm rfl rfl rfl rfl ?_
     refine jy_bp c1 hm rfl (by decide) ?_
     refine jy_mul c1 hm (6 * b1) rfl (by omega) ?_
     refine jx_load c1 hm rfl rfl rfl rfl ?_
     refine jy_add c1 hm (6 * b1 + b6) rfl (by omega) ?_
     obtain ⟨w12, kw12⟩ : ∃ w, M0.2 29 ((6 * b1 + b6)).toNat = w := ⟨_, rfl⟩
     refine jx_lald c1 hm rfl sh_29 ⟨by omega, by omega⟩ kw12 ?_
     refine jx_load c1 hm rfl rfl rfl rfl ?_
     refine jx_lcmp c1 hm rfl (fun z13 lz13 uz13 ez13 fz13 => ?_)
     refine jz_ne c1 hm 46 rfl rfl (fun h14 => ?_) (fun h14 => ?_)
     ·
      refine jx_iinc c1 hm (v := (b6 + 1)) (L' := [some (.inr (.inr (.inl 27))), some (.inr (.inl a0)), none, some (.inl b1), some (.inl (b6 + 1))]) rfl rfl (by omega) (by omega) rfl ?_
      refine jx_goto c1 hm 10 rfl rfl ?_
      exact ihW7 (b6 + 1) (by omega) (by omega)
     refine jx_load c1 hm rfl rfl rfl rfl ?_
     refine jy_bp c1 hm rfl (by decide) ?_
     refine jy_mul c1 hm (6 * b1) rfl (by omega) ?_
     refine jx_load c1 hm rfl rfl rfl rfl ?_
     refine jy_add c1 hm (6 * b1 + b6) rfl (by omega) ?_
     exact jx_reti c2 hm rfl rfl ⟨_, rfl, rfl, by omega, by omega⟩
   exact W7 (6 + 1 : Int).toNat 0 (by omega) (by omega)
 exact W3 (3 + 1 : Int).toNat 0 (by omega) none (Or.inl rfl) (by omega)
def md_X10_takesNewName_1_27 : List (Nat × (Nat × Nat)) := [(1, (4, 4)), (1, (5, 5)), (1, (6, 6)), (1, (7, 7)), (1, (9, 9)), (1, (12, 12)), (1, (13, 13))]
theorem ct_X10_takesNewName_1_27 (X : Int) (hX : 0 ≤ X ∧ X ≤ 100000000) (M0 : JM) (hH0 : HI X M0)  : JOk shp PJ 3 22 [.inr (.inr (.inl 1)), .inr (.inr (.inl 27))] M0 (jRi (fun v M' => HI X M' ∧ Fr md_X10_takesNewName_1_27 M0 M' ∧ 0 ≤ v ∧ v ≤ 1 )) := by
 refine ⟨jr_X10_takesNewName, pj_X10_takesNewName, fun F c1 c2 c3 => ?_⟩
 have hm := pj_X10_takesNewName
 change F 0 [some (.inr (.inr (.inl 1))), some (.inr (.inr (.inl 27)))] [] M0
 have hF0 : Fr md_X10_takesNewName_1_27 M0 M0 := Fr.rf _ _
 refine jx_load c1 hm rfl rfl rfl rfl ?_
 obtain ⟨z1, k2, lz1, uz1⟩ := hH0.ld (c := 1) (i := 6) (A := 0) (B := 4) (bs_19_4 _ _ (by omega) (by omega))
 refine jx_geti c1 hm rfl sh_1 rfl k2 ?_
 refine jy_ic c1 hm rfl (by decide) ?_
 refine jc_ne c1 hm 16 rfl rfl (fun h3 => ?_) (fun h3 => ?_)
 ·
  refine jx_load c1 hm rfl rfl rfl rfl ?_
  refine jy_ic c1 hm rfl (by decide) ?_
  refine jx_load c1 hm rfl rfl rfl rfl ?_
  obtain ⟨z4, k5, lz4, uz4⟩ := hH0.ld (c := 1) (i := 5) (A := 0) (B := 940) (bs_19_3 _ _ (by omega) (by omega))
  refine jx_geti c1 hm rfl sh_1 rfl k5 ?_
  refine jv_i c3 hm rfl pj_X10_fails rfl rfl ⟨_, _, _, rfl, sh_1⟩ rfl ((ct_X10_fails_1 X (by omega) M0 hH0 1 ⟨by omega, by omega⟩ z4 ⟨by omega, by omega⟩).le (by decide)) (fun z6 M8 ⟨hH8, hR8, lz6, uz6, p7⟩ => ?_)
  have hF8 := hF0.tr hR8 (by decide +kernel)
  exact jx_retz c2 hm rfl rfl ⟨by omega, by omega⟩ ⟨_, rfl, hH8, hF8, by omega, by omega⟩
 refine jx_load c1 hm rfl rfl rfl rfl ?_
 obtain ⟨z9, k10, lz9, uz9⟩ := hH0.ld (c := 1) (i := 7) (A := (-1)) (B := 23) (bs_19_5 _ _ (by omega) (by omega))
 refine jx_geti c1 hm rfl sh_1 rfl k10 ?_
 refine jy_ic c1 hm rfl (by decide) ?_
 refine jc_eq c1 hm 26 rfl rfl (fun h11 => ?_) (fun h11 => ?_)
 ·
  refine jx_load c1 hm rfl rfl rfl rfl ?_
  refine jx_load c1 hm rfl rfl rfl rfl ?_
  obtain ⟨w12, kw12⟩ : ∃ w, M0.2 1 8 = w := ⟨_, rfl⟩
  refine jx_getl c1 hm rfl sh_1 rfl kw12 ?_
  refine jv_i c3 hm rfl pj_X2_placeOf rfl rfl ⟨_, _, _, rfl, sh_27⟩ rfl ((ct_X2_placeOf_27 X (by omega) M0 hH0 w12).le (by decide)) (fun z13 _ ⟨rfl, lz13, uz13⟩ => ?_)
  refine jy_ic c1 hm rfl (by decide) ?_
  refine jc_eq c1 hm 48 rfl rfl (fun h14 => ?_) (fun h14 => ?_)
  ·
   refine jx_load c1 hm rfl rfl rfl rfl ?_
   refine jx_load c1 hm rfl rfl rfl rfl ?_
   obtain ⟨w15, kw15⟩ : ∃ w, M0.2 1 8 = w := ⟨_, rfl⟩
   refine jx_getl c1 hm rfl sh_1 rfl kw15 ?_
   obtain ⟨M16, e16, hH16, hF16, n16, k16, _⟩ := mul hH0 hF0 (c := 1) (i := 10) (v := w15) (fun h => absurd h (by decide))
   refine jm_putl c1 hm rfl sh_1 rfl e16 ?_
   refine jx_load c1 hm rfl rfl rfl rfl ?_
   refine jv_v c3 hm rfl pj_X10_next rfl rfl ⟨_, _, _, rfl, sh_1⟩ rfl ((ct_X10_next_1 X (by omega) M16 hH16 ).le (by decide)) (fun M17 ⟨hH17, hR17⟩ => ?_)
   have hF17 := hF16.tr hR17 (by decide +kernel)
   refine jy_ic c1 hm rfl (by decide) ?_
   exact jx_retz c2 hm rfl rfl ⟨by omega, by omega⟩ ⟨_, rfl, hH17, hF17, by omega, by omega⟩
  refine jx_load c1 hm rfl rfl rfl rfl ?_
  refine jy_ic c1 hm rfl (by decide) ?_
  refine jx_load c1 hm rfl rfl rfl rfl ?_
  obtain ⟨z18, k19, lz18, uz18⟩ := hH0.ld (c := 1) (i := 5) (A := 0) (B := 940) (bs_19_3 _ _ (by omega) (by omega))
  refine jx_geti c1 hm rfl sh_1 rfl k19 ?_
  refine jv_i c3 hm rfl pj_X10_fails rfl rfl ⟨_, _, _, rfl, sh_1⟩ rfl ((ct_X10_fails_1 X (by omega) M0 hH0 3 ⟨by omega, by omega⟩ z18 ⟨by omega, by omega⟩).le (by decide)) (fun z20 M22 ⟨hH22, hR22, lz20, uz20, p21⟩ => ?_)
  have hF22 := hF0.tr hR22 (by decide +kernel)
  exact jx_retz c2 hm rfl rfl ⟨by omega, by omega⟩ ⟨_, rfl, hH22, hF22, by omega, by omega⟩
 refine jx_load c1 hm rfl rfl rfl rfl ?_
 refine jy_ic c1 hm rfl (by decide) ?_
 refine jx_load c1 hm rfl rfl rfl rfl ?_
 obtain ⟨z23, k24, lz23, uz23⟩ := hH0.ld (c := 1) (i := 5) (A := 0) (B := 940) (bs_19_3 _ _ (by omega) (by omega))
 refine jx_geti c1 hm rfl sh_1 rfl k24 ?_
 refine jv_i c3 hm rfl pj_X10_fails rfl rfl ⟨_, _, _, rfl, sh_1⟩ rfl ((ct_X10_fails_1 X (by omega) M0 hH0 1 ⟨by omega, by omega⟩ z23 ⟨by omega, by omega⟩).le (by decide)) (fun z25 M27 ⟨hH27, hR27, lz25, uz25, p26⟩ => ?_)
 have hF27 := hF0.tr hR27 (by decide +kernel)
 exact jx_retz c2 hm rfl rfl ⟨by omega, by omega⟩ ⟨_, rfl, hH27, hF27, by omega, by omega⟩
def md_X10_takesNumber_1 : List (Nat × (Nat × Nat)) := [(1, (4, 4)), (1, (5, 5)), (1, (6, 6)), (1, (7, 7)), (1, (9, 9)), (1, (11, 11)), (1, (12, 12)), (1, (13, 13))]
theorem ct_X10_takesNumber_1 (X : Int) (hX : 0 ≤ X ∧ X ≤ 100000000) (M0 : JM) (hH0 : HI X M0) (a0 : Int) (ha0 : 0 ≤ a0 ∧ a0 ≤ 1) (a1 : Int) (ha1 : 0 ≤ a1 ∧ a1 ≤ 999) : JOk shp PJ 3 23 [.inr (.inr (.inl 1)), .inl a0, .inl a1] M0 (jRi (fun v M' => HI X M' ∧ Fr md_X10_takesNumber_1 M0 M' ∧ 0 ≤ v ∧ v ≤ 1 ∧ (v = 1 → a0 ≤ M'.1 1 11 ∧ M'.1 1 11 ≤ a1))) := by
 refine ⟨jr_X10_takesNumber, pj_X10_takesNumber, fun F c1 c2 c3 => ?_⟩
 have hm := pj_X10_takesNumber
 change F 0 [some (.inr (.inr (.inl 1))), some (.inl a0), some (.inl a1)] [] M0
 have hF0 : Fr md_X10_takesNumber_1 M0 M0 := Fr.rf _ _
 refine jx_load c1 hm rfl rfl rfl rfl ?_
 obtain ⟨z1, k2, lz1, uz1⟩ := hH0.ld (c := 1) (i := 6) (A := 0) (B := 4) (bs_19_4 _ _ (by omega) (by omega))
 refine jx_geti c1 hm rfl sh_1 rfl k2 ?_
 refine jy_ic c1 hm rfl (by decide) ?_
 refine jc_eq c1 hm 18 rfl rfl (fun h3 => ?_) (fun h3 => ?_)
 ·
  refine jx_load c1 hm rfl rfl rfl rfl ?_
  obtain ⟨z4, k5, lz4, uz4⟩ := hH0.ld (c := 1) (i := 9) (A := (-2147483648)) (B := 2147483647) (bs_19_6 _ _ (by omega) (by omega))
  refine jx_geti c1 hm rfl sh_1 rfl k5 ?_
  refine jx_load c1 hm rfl rfl rfl rfl ?_
  refine jc_lt c1 hm 34 rfl rfl (fun h6 => ?_) (fun h6 => ?_)
  ·
   refine jx_load c1 hm rfl rfl rfl rfl ?_
   refine jy_ic c1 hm rfl (by decide) ?_
   refine jx_load c1 hm rfl rfl rfl rfl ?_
   obtain ⟨z7, k8, lz7, uz7⟩ := hH0.ld (c := 1) (i := 5) (A := 0) (B := 940) (bs_19_3 _ _ (by omega) (by omega))
   refine jx_geti c1 hm rfl sh_1 rfl k8 ?_
   refine jv_i c3 hm rfl pj_X10_fails rfl rfl ⟨_, _, _, rfl, sh_1⟩ rfl ((ct_X10_fails_1 X (by omega) M0 hH0 2 ⟨by omega, by omega⟩ z7 ⟨by omega, by omega⟩).le (by decide)) (fun z9 M11 ⟨hH11, hR11, lz9, uz9, p10⟩ => ?_)
   have hF11 := hF0.tr hR11 (by decide +kernel)
   obtain ⟨z12, k13, lz12, uz12⟩ := hH11.ld (c := 1) (i := 11) (A := 0) (B := 999) (bs_19_7 _ _ (by omega) (by omega))
   exact jx_retz c2 hm rfl rfl ⟨by omega, by omega⟩ ⟨_, rfl, hH11, hF11, by omega, by omega, (by omega)⟩
  refine jx_load c1 hm rfl rfl rfl rfl ?_
  refine jx_geti c1 hm rfl sh_1 rfl k5 ?_
  refine jx_load c1 hm rfl rfl rfl rfl ?_
  refine jc_le c1 hm 44 rfl rfl (fun h14 => ?_) (fun h14 => ?_)
  ·
   refine jx_load c1 hm rfl rfl rfl rfl ?_
   refine jx_load c1 hm rfl rfl rfl rfl ?_
   refine jx_geti c1 hm rfl sh_1 rfl k5 ?_
   obtain ⟨M15, e15, hH15, hF15, k15, n15, _⟩ := mup hH0 hF0 (c := 1) (i := 11) (v := z4) (A := 0) (B := 999) (bs_19_7 _ _ (by omega) (by omega)) ⟨by omega, by omega⟩ (jin_of 5 rfl ⟨by omega, by omega⟩)
   refine jm_puti c1 hm rfl sh_1 rfl e15 ?_
   refine jx_load c1 hm rfl rfl rfl rfl ?_
   refine jv_v c3 hm rfl pj_X10_next rfl rfl ⟨_, _, _, rfl, sh_1⟩ rfl ((ct_X10_next_1 X (by omega) M15 hH15 ).le (by decide)) (fun M16 ⟨hH16, hR16⟩ => ?_)
   have hF16 := hF15.tr hR16 (by decide +kernel)
   refine jy_ic c1 hm rfl (by decide) ?_
   have k17 : M16.1 1 11 = z4 := (hR16 1 11 (by decide +kernel)).trans k15
   exact jx_retz c2 hm rfl rfl ⟨by omega, by omega⟩ ⟨_, rfl, hH16, hF16, by omega, by omega, (by omega)⟩
  refine jx_load c1 hm rfl rfl rfl rfl ?_
  refine jy_ic c1 hm rfl (by decide) ?_
  refine jx_load c1 hm rfl rfl rfl rfl ?_
  obtain ⟨z18, k19, lz18, uz18⟩ := hH0.ld (c := 1) (i := 5) (A := 0) (B := 940) (bs_19_3 _ _ (by omega) (by omega))
  refine jx_geti c1 hm rfl sh_1 rfl k19 ?_
  refine jv_i c3 hm rfl pj_X10_fails rfl rfl ⟨_, _, _, rfl, sh_1⟩ rfl ((ct_X10_fails_1 X (by omega) M0 hH0 2 ⟨by omega, by omega⟩ z18 ⟨by omega, by omega⟩).le (by decide)) (fun z20 M22 ⟨hH22, hR22, lz20, uz20, p21⟩ => ?_)
  have hF22 := hF0.tr hR22 (by decide +kernel)
  obtain ⟨z23, k24, lz23, uz23⟩ := hH22.ld (c := 1) (i := 11) (A := 0) (B := 999) (bs_19_7 _ _ (by omega) (by omega))
  exact jx_retz c2 hm rfl rfl ⟨by omega, by omega⟩ ⟨_, rfl, hH22, hF22, by omega, by omega, (by omega)⟩
 refine jx_load c1 hm rfl rfl rfl rfl ?_
 refine jy_ic c1 hm rfl (by decide) ?_
 refine jx_load c1 hm rfl rfl rfl rfl ?_
 obtain ⟨z25, k26, lz25, uz25⟩ := hH0.ld (c := 1) (i := 5) (A := 0) (B := 940) (bs_19_3 _ _ (by omega) (by omega))
 refine jx_geti c1 hm rfl sh_1 rfl k26 ?_
 refine jv_i c3 hm rfl pj_X10_fails rfl rfl ⟨_, _, _, rfl, sh_1⟩ rfl ((ct_X10_fails_1 X (by omega) M0 hH0 1 ⟨by omega, by omega⟩ z25 ⟨by omega, by omega⟩).le (by decide)) (fun z27 M29 ⟨hH29, hR29, lz27, uz27, p28⟩ => ?_)
 have hF29 := hF0.tr hR29 (by decide +kernel)
 obtain ⟨z30, k31, lz30, uz30⟩ := hH29.ld (c := 1) (i := 11) (A := 0) (B := 999) (bs_19_7 _ _ (by omega) (by omega))
 exact jx_retz c2 hm rfl rfl ⟨by omega, by omega⟩ ⟨_, rfl, hH29, hF29, by omega, by omega, (by omega)⟩
def md_X2_addName_27 : List (Nat × (Nat × Nat)) := [(28, (0, 2))]
theorem ct_X2_addName_27 (X : Int) (hX : 0 ≤ X ∧ X ≤ 100000000) (M0 : JM) (hH0 : HI X M0) (a0 : Int) (ha0 : 0 ≤ a0 ∧ a0 ≤ 2) (a1 : Int64) : JOk shp PJ 1 212 [.inr (.inr (.inl 27)), .inl a0, .inr (.inl a1)] M0 (jRi (fun v M' => HI X M' ∧ Fr md_X2_addName_27 M0 M' ∧ 0 ≤ v ∧ v ≤ 5 )) := by
 refine ⟨jr_X2_addName, pj_X2_addName, fun F c1 c2 c3 => ?_⟩
 have hm := pj_X2_addName
 change F 0 [some (.inr (.inr (.inl 27))), some (.inl a0), some (.inr (.inl a1)), none, none] [] M0
 have hF0 : Fr md_X2_addName_27 M0 M0 := Fr.rf _ _
 refine jx_load c1 hm rfl rfl rfl rfl ?_
 refine jx_getr c1 hm rfl sh_27 rfl ?_
 refine jx_load c1 hm rfl rfl rfl rfl ?_
 obtain ⟨z1, k2, lz1, uz1⟩ := hH0.ld (c := 28) (i := (a0).toNat) (A := 0) (B := 6) rfl
 refine jx_iald c1 hm rfl sh_28 ⟨by omega, by omega⟩ k2 ?_
 refine jy_ic c1 hm rfl (by decide) ?_
 refine jx_min c1 hm rfl rfl (fun z3 lz3 uz3 ez3 => ?_)
 refine jx_stor c1 hm (L' := [some (.inr (.inr (.inl 27))), some (.inl a0), some (.inr (.inl a1)), none, some (.inl z3)]) rfl rfl rfl rfl rfl ?_
 refine jx_load c1 hm rfl rfl rfl rfl ?_
 refine jx_getr c1 hm rfl sh_27 rfl ?_
 refine jx_load c1 hm rfl rfl rfl rfl ?_
 refine jy_bp c1 hm rfl (by decide) ?_
 refine jy_mul c1 hm (6 * a0) rfl (by omega) ?_
 refine jx_load c1 hm rfl rfl rfl rfl ?_
 refine jy_add c1 hm (6 * a0 + z3) rfl (by omega) ?_
 refine jx_load c1 hm rfl rfl rfl rfl ?_
 obtain ⟨M4, e4, hH4, hF4, n4, k4, _⟩ := mul hH0 hF0 (c := 29) (i := ((6 * a0 + z3)).toNat) (v := a1) (fun h => absurd h (by decide))
 refine jm_last c1 hm rfl sh_29 ⟨by omega, by omega⟩ e4 ?_
 refine jx_load c1 hm rfl rfl rfl rfl ?_
 refine jx_getr c1 hm rfl sh_27 rfl ?_
 refine jx_load c1 hm rfl rfl rfl rfl ?_
 refine jx_load c1 hm rfl rfl rfl rfl ?_
 refine jy_ic c1 hm rfl (by decide) ?_
 refine jy_add c1 hm (z3 + 1) rfl (by omega) ?_
 obtain ⟨M5, e5, hH5, hF5, k5, n5, _⟩ := mup hH4 hF4 (c := 28) (i := (a0).toNat) (v := (z3 + 1)) (A := 0) (B := 6) rfl ⟨by omega, by omega⟩ (jin_of 0 rfl ⟨by omega, by omega⟩)
 refine jm_iast c1 hm rfl sh_28 ⟨by omega, by omega⟩ e5 ?_
 refine jx_load c1 hm rfl rfl rfl rfl ?_
 exact jx_reti c2 hm rfl rfl ⟨_, rfl, hH5, hF5, by omega, by omega⟩
def md_X2_readMan_27_1 : List (Nat × (Nat × Nat)) := [(1, (4, 4)), (1, (5, 5)), (1, (6, 6)), (1, (7, 7)), (1, (9, 9)), (1, (11, 11)), (1, (12, 12)), (1, (13, 13)), (28, (0, 2)), (30, (0, 5)), (35, (0, 5))]
theorem ct_X2_readMan_27_1 (X : Int) (hX : 0 ≤ X ∧ X ≤ 100000000) (M0 : JM) (hH0 : HI X M0)  : JOk shp PJ 4 226 [.inr (.inr (.inl 27)), .inr (.inr (.inl 1))] M0 (jRi (fun v M' => HI X M' ∧ Fr md_X2_readMan_27_1 M0 M' ∧ 0 ≤ v ∧ v ≤ 1 )) := by
 refine ⟨jr_X2_readMan, pj_X2_readMan, fun F c1 c2 c3 => ?_⟩
 have hm := pj_X2_readMan
 change F 0 [some (.inr (.inr (.inl 27))), some (.inr (.inr (.inl 1))), none] [] M0
 have hF0 : Fr md_X2_readMan_27_1 M0 M0 := Fr.rf _ _
 refine jx_load c1 hm rfl rfl rfl rfl ?_
 refine jx_load c1 hm rfl rfl rfl rfl ?_
 refine jy_ic c1 hm rfl (by decide) ?_
 refine jv_i c3 hm rfl pj_X2_takesFirstWord rfl rfl ⟨_, _, _, rfl, sh_27⟩ rfl ((ct_X2_takesFirstWord_27_1 X (by omega) M0 hH0 0 ⟨by omega, by omega⟩).le (by decide)) (fun z1 M2 ⟨hH2, hR2, lz1, uz1⟩ => ?_)
 have hF2 := hF0.tr hR2 (by decide +kernel)
 refine jz_eq c1 hm 27 rfl rfl (fun h3 => ?_) (fun h3 => ?_)
 ·
  refine jy_ic c1 hm rfl (by decide) ?_
  exact jx_retz c2 hm rfl rfl ⟨by omega, by omega⟩ ⟨_, rfl, hH2, hF2, by omega, by omega⟩
 refine jx_load c1 hm rfl rfl rfl rfl ?_
 refine jx_load c1 hm rfl rfl rfl rfl ?_
 refine jv_i c3 hm rfl pj_X10_takesNewName rfl rfl ⟨_, _, _, rfl, sh_1⟩ rfl ((ct_X10_takesNewName_1_27 X (by omega) M2 hH2 ).le (by decide)) (fun z4 M5 ⟨hH5, hR5, lz4, uz4⟩ => ?_)
 have hF5 := hF2.tr hR5 (by decide +kernel)
 refine jz_eq c1 hm 27 rfl rfl (fun h6 => ?_) (fun h6 => ?_)
 ·
  refine jy_ic c1 hm rfl (by decide) ?_
  exact jx_retz c2 hm rfl rfl ⟨by omega, by omega⟩ ⟨_, rfl, hH5, hF5, by omega, by omega⟩
 refine jx_load c1 hm rfl rfl rfl rfl ?_
 refine jy_ic c1 hm rfl (by decide) ?_
 refine jy_bp c1 hm rfl (by decide) ?_
 refine jv_i c3 hm rfl pj_X10_takesNumber rfl rfl ⟨_, _, _, rfl, sh_1⟩ rfl ((ct_X10_takesNumber_1 X (by omega) M5 hH5 0 ⟨by omega, by omega⟩ 99 ⟨by omega, by omega⟩).le (by decide)) (fun z7 M9 ⟨hH9, hR9, lz7, uz7, p8⟩ => ?_)
 have hF9 := hF5.tr hR9 (by decide +kernel)
 obtain ⟨z10, k11, lz10, uz10⟩ := hH9.ld (c := 1) (i := 11) (A := 0) (B := 999) (bs_19_7 _ _ (by omega) (by omega))
 refine jz_ne c1 hm 29 rfl rfl (fun h12 => ?_) (fun h12 => ?_)
 ·
  refine jx_load c1 hm rfl rfl rfl rfl ?_
  refine jy_ic c1 hm rfl (by decide) ?_
  refine jx_load c1 hm rfl rfl rfl rfl ?_
  obtain ⟨w13, kw13⟩ : ∃ w, M9.2 1 10 = w := ⟨_, rfl⟩
  refine jx_getl c1 hm rfl sh_1 rfl kw13 ?_
  refine jv_i c3 hm rfl pj_X2_addName rfl rfl ⟨_, _, _, rfl, sh_27⟩ rfl ((ct_X2_addName_27 X (by omega) M9 hH9 0 ⟨by omega, by omega⟩ w13).le (by decide)) (fun z14 M15 ⟨hH15, hR15, lz14, uz14⟩ => ?_)
  have hF15 := hF9.tr hR15 (by decide +kernel)
  refine jx_stor c1 hm (L' := [some (.inr (.inr (.inl 27))), some (.inr (.inr (.inl 1))), some (.inl z14)]) rfl rfl rfl rfl rfl ?_
  refine jx_load c1 hm rfl rfl rfl rfl ?_
  refine jx_getr c1 hm rfl sh_27 rfl ?_
  refine jx_load c1 hm rfl rfl rfl rfl ?_
  refine jx_load c1 hm rfl rfl rfl rfl ?_
  have k16 : M15.1 1 11 = z10 := (hR15 1 11 (by decide +kernel)).trans k11
  refine jx_geti c1 hm rfl sh_1 rfl k16 ?_
  obtain ⟨M17, e17, hH17, hF17, k17, n17, _⟩ := mup hH15 hF15 (c := 30) (i := (z14).toNat) (v := z10) (A := 0) (B := 99) rfl ⟨by omega, by omega⟩ (jin_of 9 rfl ⟨by omega, by omega⟩)
  refine jm_iast c1 hm rfl sh_30 ⟨by omega, by omega⟩ e17 ?_
  refine jx_load c1 hm rfl rfl rfl rfl ?_
  refine jx_getr c1 hm rfl sh_27 rfl ?_
  refine jx_getr c1 hm rfl sh_34 rfl ?_
  refine jx_load c1 hm rfl rfl rfl rfl ?_
  refine jx_load c1 hm rfl rfl rfl rfl ?_
  have k18 : M17.1 1 11 = z10 := (n17 1 11 (fun h => absurd h.1 (by decide))).trans k16
  refine jx_geti c1 hm rfl sh_1 rfl k18 ?_
  obtain ⟨M19, e19, hH19, hF19, k19, n19, _⟩ := mup hH17 hF17 (c := 35) (i := (z14).toNat) (v := z10) (A := (-2147483648)) (B := 2147483647) rfl ⟨by omega, by omega⟩ (jin_of 10 rfl ⟨by omega, by omega⟩)
  refine jm_iast c1 hm rfl sh_35 ⟨by omega, by omega⟩ e19 ?_
  refine jy_ic c1 hm rfl (by decide) ?_
  exact jx_retz c2 hm rfl rfl ⟨by omega, by omega⟩ ⟨_, rfl, hH19, hF19, by omega, by omega⟩
 refine jy_ic c1 hm rfl (by decide) ?_
 exact jx_retz c2 hm rfl rfl ⟨by omega, by omega⟩ ⟨_, rfl, hH9, hF9, by omega, by omega⟩
def md_X2_readForfeit_27_1 : List (Nat × (Nat × Nat)) := [(1, (4, 4)), (1, (5, 5)), (1, (6, 6)), (1, (7, 7)), (1, (9, 9)), (1, (11, 11)), (1, (12, 12)), (1, (13, 13)), (28, (0, 2)), (31, (0, 5))]
theorem ct_X2_readForfeit_27_1 (X : Int) (hX : 0 ≤ X ∧ X ≤ 100000000) (M0 : JM) (hH0 : HI X M0)  : JOk shp PJ 4 222 [.inr (.inr (.inl 27)), .inr (.inr (.inl 1))] M0 (jRi (fun v M' => HI X M' ∧ Fr md_X2_readForfeit_27_1 M0 M' ∧ 0 ≤ v ∧ v ≤ 1 )) := by
 refine ⟨jr_X2_readForfeit, pj_X2_readForfeit, fun F c1 c2 c3 => ?_⟩
 have hm := pj_X2_readForfeit
 change F 0 [some (.inr (.inr (.inl 27))), some (.inr (.inr (.inl 1)))] [] M0
 have hF0 : Fr md_X2_readForfeit_27_1 M0 M0 := Fr.rf _ _
 refine jx_load c1 hm rfl rfl rfl rfl ?_
 refine jx_load c1 hm rfl rfl rfl rfl ?_
 refine jy_ic c1 hm rfl (by decide) ?_
 refine jv_i c3 hm rfl pj_X2_takesFirstWord rfl rfl ⟨_, _, _, rfl, sh_27⟩ rfl ((ct_X2_takesFirstWord_27_1 X (by omega) M0 hH0 1 ⟨by omega, by omega⟩).le (by decide)) (fun z1 M2 ⟨hH2, hR2, lz1, uz1⟩ => ?_)
 have hF2 := hF0.tr hR2 (by decide +kernel)
 refine jz_eq c1 hm 27 rfl rfl (fun h3 => ?_) (fun h3 => ?_)
 ·
  refine jy_ic c1 hm rfl (by decide) ?_
  exact jx_retz c2 hm rfl rfl ⟨by omega, by omega⟩ ⟨_, rfl, hH2, hF2, by omega, by omega⟩
 refine jx_load c1 hm rfl rfl rfl rfl ?_
 refine jx_load c1 hm rfl rfl rfl rfl ?_
 refine jv_i c3 hm rfl pj_X10_takesNewName rfl rfl ⟨_, _, _, rfl, sh_1⟩ rfl ((ct_X10_takesNewName_1_27 X (by omega) M2 hH2 ).le (by decide)) (fun z4 M5 ⟨hH5, hR5, lz4, uz4⟩ => ?_)
 have hF5 := hF2.tr hR5 (by decide +kernel)
 refine jz_eq c1 hm 27 rfl rfl (fun h6 => ?_) (fun h6 => ?_)
 ·
  refine jy_ic c1 hm rfl (by decide) ?_
  exact jx_retz c2 hm rfl rfl ⟨by omega, by omega⟩ ⟨_, rfl, hH5, hF5, by omega, by omega⟩
 refine jx_load c1 hm rfl rfl rfl rfl ?_
 refine jy_ic c1 hm rfl (by decide) ?_
 refine jy_bp c1 hm rfl (by decide) ?_
 refine jv_i c3 hm rfl pj_X10_takesNumber rfl rfl ⟨_, _, _, rfl, sh_1⟩ rfl ((ct_X10_takesNumber_1 X (by omega) M5 hH5 0 ⟨by omega, by omega⟩ 20 ⟨by omega, by omega⟩).le (by decide)) (fun z7 M9 ⟨hH9, hR9, lz7, uz7, p8⟩ => ?_)
 have hF9 := hF5.tr hR9 (by decide +kernel)
 obtain ⟨z10, k11, lz10, uz10⟩ := hH9.ld (c := 1) (i := 11) (A := 0) (B := 999) (bs_19_7 _ _ (by omega) (by omega))
 refine jz_ne c1 hm 29 rfl rfl (fun h12 => ?_) (fun h12 => ?_)
 ·
  refine jx_load c1 hm rfl rfl rfl rfl ?_
  refine jx_getr c1 hm rfl sh_27 rfl ?_
  refine jx_load c1 hm rfl rfl rfl rfl ?_
  refine jy_ic c1 hm rfl (by decide) ?_
  refine jx_load c1 hm rfl rfl rfl rfl ?_
  obtain ⟨w13, kw13⟩ : ∃ w, M9.2 1 10 = w := ⟨_, rfl⟩
  refine jx_getl c1 hm rfl sh_1 rfl kw13 ?_
  refine jv_i c3 hm rfl pj_X2_addName rfl rfl ⟨_, _, _, rfl, sh_27⟩ rfl ((ct_X2_addName_27 X (by omega) M9 hH9 1 ⟨by omega, by omega⟩ w13).le (by decide)) (fun z14 M15 ⟨hH15, hR15, lz14, uz14⟩ => ?_)
  have hF15 := hF9.tr hR15 (by decide +kernel)
  refine jx_load c1 hm rfl rfl rfl rfl ?_
  have k16 : M15.1 1 11 = z10 := (hR15 1 11 (by decide +kernel)).trans k11
  refine jx_geti c1 hm rfl sh_1 rfl k16 ?_
  obtain ⟨M17, e17, hH17, hF17, k17, n17, _⟩ := mup hH15 hF15 (c := 31) (i := (z14).toNat) (v := z10) (A := 0) (B := 20) rfl ⟨by omega, by omega⟩ (jin_of 9 rfl ⟨by omega, by omega⟩)
  refine jm_iast c1 hm rfl sh_31 ⟨by omega, by omega⟩ e17 ?_
  refine jy_ic c1 hm rfl (by decide) ?_
  exact jx_retz c2 hm rfl rfl ⟨by omega, by omega⟩ ⟨_, rfl, hH17, hF17, by omega, by omega⟩
 refine jy_ic c1 hm rfl (by decide) ?_
 exact jx_retz c2 hm rfl rfl ⟨by omega, by omega⟩ ⟨_, rfl, hH9, hF9, by omega, by omega⟩
def md_X10_takesName_1_27 : List (Nat × (Nat × Nat)) := [(1, (4, 4)), (1, (5, 5)), (1, (6, 6)), (1, (7, 7)), (1, (9, 9)), (1, (11, 11)), (1, (12, 12)), (1, (13, 13))]
theorem ct_X10_takesName_1_27 (X : Int) (hX : 0 ≤ X ∧ X ≤ 100000000) (M0 : JM) (hH0 : HI X M0) (a0 : Int) (ha0 : 0 ≤ a0 ∧ a0 ≤ 2) : JOk shp PJ 3 21 [.inr (.inr (.inl 1)), .inr (.inr (.inl 27)), .inl a0] M0 (jRi (fun v M' => HI X M' ∧ Fr md_X10_takesName_1_27 M0 M' ∧ 0 ≤ v ∧ v ≤ 1 ∧ (v = 1 → M'.1 1 11 ≤ 5))) := by
 refine ⟨jr_X10_takesName, pj_X10_takesName, fun F c1 c2 c3 => ?_⟩
 have hm := pj_X10_takesName
 change F 0 [some (.inr (.inr (.inl 1))), some (.inr (.inr (.inl 27))), some (.inl a0), none] [] M0
 have hF0 : Fr md_X10_takesName_1_27 M0 M0 := Fr.rf _ _
 refine jx_load c1 hm rfl rfl rfl rfl ?_
 obtain ⟨z1, k2, lz1, uz1⟩ := hH0.ld (c := 1) (i := 6) (A := 0) (B := 4) (bs_19_4 _ _ (by omega) (by omega))
 refine jx_geti c1 hm rfl sh_1 rfl k2 ?_
 refine jy_ic c1 hm rfl (by decide) ?_
 refine jc_ne c1 hm 16 rfl rfl (fun h3 => ?_) (fun h3 => ?_)
 ·
  refine jx_load c1 hm rfl rfl rfl rfl ?_
  refine jy_ic c1 hm rfl (by decide) ?_
  refine jx_load c1 hm rfl rfl rfl rfl ?_
  obtain ⟨z4, k5, lz4, uz4⟩ := hH0.ld (c := 1) (i := 5) (A := 0) (B := 940) (bs_19_3 _ _ (by omega) (by omega))
  refine jx_geti c1 hm rfl sh_1 rfl k5 ?_
  refine jv_i c3 hm rfl pj_X10_fails rfl rfl ⟨_, _, _, rfl, sh_1⟩ rfl ((ct_X10_fails_1 X (by omega) M0 hH0 1 ⟨by omega, by omega⟩ z4 ⟨by omega, by omega⟩).le (by decide)) (fun z6 M8 ⟨hH8, hR8, lz6, uz6, p7⟩ => ?_)
  have hF8 := hF0.tr hR8 (by decide +kernel)
  obtain ⟨z9, k10, lz9, uz9⟩ := hH8.ld (c := 1) (i := 11) (A := 0) (B := 999) (bs_19_7 _ _ (by omega) (by omega))
  exact jx_retz c2 hm rfl rfl ⟨by omega, by omega⟩ ⟨_, rfl, hH8, hF8, by omega, by omega, (by omega)⟩
 refine jx_load c1 hm rfl rfl rfl rfl ?_
 obtain ⟨z11, k12, lz11, uz11⟩ := hH0.ld (c := 1) (i := 7) (A := (-1)) (B := 23) (bs_19_5 _ _ (by omega) (by omega))
 refine jx_geti c1 hm rfl sh_1 rfl k12 ?_
 refine jy_ic c1 hm rfl (by decide) ?_
 refine jc_eq c1 hm 26 rfl rfl (fun h13 => ?_) (fun h13 => ?_)
 ·
  refine jx_load c1 hm rfl rfl rfl rfl ?_
  refine jx_load c1 hm rfl rfl rfl rfl ?_
  obtain ⟨w14, kw14⟩ : ∃ w, M0.2 1 8 = w := ⟨_, rfl⟩
  refine jx_getl c1 hm rfl sh_1 rfl kw14 ?_
  refine jv_i c3 hm rfl pj_X2_placeOf rfl rfl ⟨_, _, _, rfl, sh_27⟩ rfl ((ct_X2_placeOf_27 X (by omega) M0 hH0 w14).le (by decide)) (fun z15 _ ⟨rfl, lz15, uz15⟩ => ?_)
  refine jx_stor c1 hm (L' := [some (.inr (.inr (.inl 1))), some (.inr (.inr (.inl 27))), some (.inl a0), some (.inl z15)]) rfl rfl rfl rfl rfl ?_
  refine jx_load c1 hm rfl rfl rfl rfl ?_
  refine jy_ic c1 hm rfl (by decide) ?_
  refine jc_eq c1 hm 48 rfl rfl (fun h16 => ?_) (fun h16 => ?_)
  ·
   refine jx_load c1 hm rfl rfl rfl rfl ?_
   refine jy_ic c1 hm rfl (by decide) ?_
   refine jx_load c1 hm rfl rfl rfl rfl ?_
   obtain ⟨z17, k18, lz17, uz17⟩ := hH0.ld (c := 1) (i := 5) (A := 0) (B := 940) (bs_19_3 _ _ (by omega) (by omega))
   refine jx_geti c1 hm rfl sh_1 rfl k18 ?_
   refine jv_i c3 hm rfl pj_X10_fails rfl rfl ⟨_, _, _, rfl, sh_1⟩ rfl ((ct_X10_fails_1 X (by omega) M0 hH0 3 ⟨by omega, by omega⟩ z17 ⟨by omega, by omega⟩).le (by decide)) (fun z19 M21 ⟨hH21, hR21, lz19, uz19, p20⟩ => ?_)
   have hF21 := hF0.tr hR21 (by decide +kernel)
   obtain ⟨z22, k23, lz22, uz22⟩ := hH21.ld (c := 1) (i := 11) (A := 0) (B := 999) (bs_19_7 _ _ (by omega) (by omega))
   exact jx_retz c2 hm rfl rfl ⟨by omega, by omega⟩ ⟨_, rfl, hH21, hF21, by omega, by omega, (by omega)⟩
  refine jx_load c1 hm rfl rfl rfl rfl ?_
  refine jy_bp c1 hm rfl (by decide) ?_
  refine jy_div c1 hm rfl ⟨by omega, by omega, by omega, by omega⟩ (fun z24 ez24 lz24 uz24 => ?_)
  refine jx_load c1 hm rfl rfl rfl rfl ?_
  refine jc_eq c1 hm 58 rfl rfl (fun h25 => ?_) (fun h25 => ?_)
  ·
   refine jx_load c1 hm rfl rfl rfl rfl ?_
   refine jx_load c1 hm rfl rfl rfl rfl ?_
   refine jy_bp c1 hm rfl (by decide) ?_
   refine jy_rem c1 hm rfl ⟨by omega, by omega, by omega, by omega⟩ (fun z26 ez26 lz26 uz26 => ?_)
   obtain ⟨M27, e27, hH27, hF27, k27, n27, _⟩ := mup hH0 hF0 (c := 1) (i := 11) (v := z26) (A := 0) (B := 999) (bs_19_7 _ _ (by omega) (by omega)) ⟨by omega, by omega⟩ (jin_of 5 rfl ⟨by omega, by omega⟩)
   refine jm_puti c1 hm rfl sh_1 rfl e27 ?_
   refine jx_load c1 hm rfl rfl rfl rfl ?_
   refine jv_v c3 hm rfl pj_X10_next rfl rfl ⟨_, _, _, rfl, sh_1⟩ rfl ((ct_X10_next_1 X (by omega) M27 hH27 ).le (by decide)) (fun M28 ⟨hH28, hR28⟩ => ?_)
   have hF28 := hF27.tr hR28 (by decide +kernel)
   refine jy_ic c1 hm rfl (by decide) ?_
   have k29 : M28.1 1 11 = z26 := (hR28 1 11 (by decide +kernel)).trans k27
   exact jx_retz c2 hm rfl rfl ⟨by omega, by omega⟩ ⟨_, rfl, hH28, hF28, by omega, by omega, (by omega)⟩
  refine jx_load c1 hm rfl rfl rfl rfl ?_
  refine jy_ic c1 hm rfl (by decide) ?_
  refine jx_load c1 hm rfl rfl rfl rfl ?_
  obtain ⟨z30, k31, lz30, uz30⟩ := hH0.ld (c := 1) (i := 5) (A := 0) (B := 940) (bs_19_3 _ _ (by omega) (by omega))
  refine jx_geti c1 hm rfl sh_1 rfl k31 ?_
  refine jv_i c3 hm rfl pj_X10_fails rfl rfl ⟨_, _, _, rfl, sh_1⟩ rfl ((ct_X10_fails_1 X (by omega) M0 hH0 3 ⟨by omega, by omega⟩ z30 ⟨by omega, by omega⟩).le (by decide)) (fun z32 M34 ⟨hH34, hR34, lz32, uz32, p33⟩ => ?_)
  have hF34 := hF0.tr hR34 (by decide +kernel)
  obtain ⟨z35, k36, lz35, uz35⟩ := hH34.ld (c := 1) (i := 11) (A := 0) (B := 999) (bs_19_7 _ _ (by omega) (by omega))
  exact jx_retz c2 hm rfl rfl ⟨by omega, by omega⟩ ⟨_, rfl, hH34, hF34, by omega, by omega, (by omega)⟩
 refine jx_load c1 hm rfl rfl rfl rfl ?_
 refine jy_ic c1 hm rfl (by decide) ?_
 refine jx_load c1 hm rfl rfl rfl rfl ?_
 obtain ⟨z37, k38, lz37, uz37⟩ := hH0.ld (c := 1) (i := 5) (A := 0) (B := 940) (bs_19_3 _ _ (by omega) (by omega))
 refine jx_geti c1 hm rfl sh_1 rfl k38 ?_
 refine jv_i c3 hm rfl pj_X10_fails rfl rfl ⟨_, _, _, rfl, sh_1⟩ rfl ((ct_X10_fails_1 X (by omega) M0 hH0 1 ⟨by omega, by omega⟩ z37 ⟨by omega, by omega⟩).le (by decide)) (fun z39 M41 ⟨hH41, hR41, lz39, uz39, p40⟩ => ?_)
 have hF41 := hF0.tr hR41 (by decide +kernel)
 obtain ⟨z42, k43, lz42, uz42⟩ := hH41.ld (c := 1) (i := 11) (A := 0) (B := 999) (bs_19_7 _ _ (by omega) (by omega))
 exact jx_retz c2 hm rfl rfl ⟨by omega, by omega⟩ ⟨_, rfl, hH41, hF41, by omega, by omega, (by omega)⟩
def md_X2_readMinds_27_1 : List (Nat × (Nat × Nat)) := [(1, (4, 4)), (1, (5, 5)), (1, (6, 6)), (1, (7, 7)), (1, (9, 9)), (1, (11, 11)), (1, (12, 12)), (1, (13, 13)), (32, (0, 35))]
theorem ct_X2_readMinds_27_1 (X : Int) (hX : 0 ≤ X ∧ X ≤ 100000000) (M0 : JM) (hH0 : HI X M0)  : JOk shp PJ 4 228 [.inr (.inr (.inl 27)), .inr (.inr (.inl 1))] M0 (jRi (fun v M' => HI X M' ∧ Fr md_X2_readMinds_27_1 M0 M' ∧ 0 ≤ v ∧ v ≤ 1 )) := by
 refine ⟨jr_X2_readMinds, pj_X2_readMinds, fun F c1 c2 c3 => ?_⟩
 have hm := pj_X2_readMinds
 change F 0 [some (.inr (.inr (.inl 27))), some (.inr (.inr (.inl 1))), none, none, none] [] M0
 have hF0 : Fr md_X2_readMinds_27_1 M0 M0 := Fr.rf _ _
 refine jx_load c1 hm rfl rfl rfl rfl ?_
 refine jv_v c3 hm rfl pj_X10_next rfl rfl ⟨_, _, _, rfl, sh_1⟩ rfl ((ct_X10_next_1 X (by omega) M0 hH0 ).le (by decide)) (fun M1 ⟨hH1, hR1⟩ => ?_)
 have hF1 := hF0.tr hR1 (by decide +kernel)
 refine jx_load c1 hm rfl rfl rfl rfl ?_
 refine jx_load c1 hm rfl rfl rfl rfl ?_
 refine jy_ic c1 hm rfl (by decide) ?_
 refine jv_i c3 hm rfl pj_X10_takesName rfl rfl ⟨_, _, _, rfl, sh_1⟩ rfl ((ct_X10_takesName_1_27 X (by omega) M1 hH1 0 ⟨by omega, by omega⟩).le (by decide)) (fun z2 M4 ⟨hH4, hR4, lz2, uz2, p3⟩ => ?_)
 have hF4 := hF1.tr hR4 (by decide +kernel)
 obtain ⟨z5, k6, lz5, uz5⟩ := hH4.ld (c := 1) (i := 11) (A := 0) (B := 999) (bs_19_7 _ _ (by omega) (by omega))
 refine jz_ne c1 hm 15 rfl rfl (fun h7 => ?_) (fun h7 => ?_)
 ·
  refine jx_load c1 hm rfl rfl rfl rfl ?_
  refine jx_geti c1 hm rfl sh_1 rfl k6 ?_
  refine jx_stor c1 hm (L' := [some (.inr (.inr (.inl 27))), some (.inr (.inr (.inl 1))), some (.inl z5), none, none]) rfl rfl rfl rfl rfl ?_
  refine jx_load c1 hm rfl rfl rfl rfl ?_
  obtain ⟨z8, k9, lz8, uz8⟩ := hH4.ld (c := 1) (i := 5) (A := 0) (B := 940) (bs_19_3 _ _ (by omega) (by omega))
  refine jx_geti c1 hm rfl sh_1 rfl k9 ?_
  refine jx_stor c1 hm (L' := [some (.inr (.inr (.inl 27))), some (.inr (.inr (.inl 1))), some (.inl z5), some (.inl z8), none]) rfl rfl rfl rfl rfl ?_
  refine jx_load c1 hm rfl rfl rfl rfl ?_
  refine jx_load c1 hm rfl rfl rfl rfl ?_
  refine jy_ic c1 hm rfl (by decide) ?_
  refine jv_i c3 hm rfl pj_X10_takesName rfl rfl ⟨_, _, _, rfl, sh_1⟩ rfl ((ct_X10_takesName_1_27 X (by omega) M4 hH4 1 ⟨by omega, by omega⟩).le (by decide)) (fun z10 M12 ⟨hH12, hR12, lz10, uz10, p11⟩ => ?_)
  have hF12 := hF4.tr hR12 (by decide +kernel)
  obtain ⟨z13, k14, lz13, uz13⟩ := hH12.ld (c := 1) (i := 11) (A := 0) (B := 999) (bs_19_7 _ _ (by omega) (by omega))
  refine jz_ne c1 hm 36 rfl rfl (fun h15 => ?_) (fun h15 => ?_)
  ·
   refine jx_load c1 hm rfl rfl rfl rfl ?_
   refine jy_bp c1 hm rfl (by decide) ?_
   refine jy_mul c1 hm (6 * z5) rfl (by omega) ?_
   refine jx_load c1 hm rfl rfl rfl rfl ?_
   refine jx_geti c1 hm rfl sh_1 rfl k14 ?_
   refine jy_add c1 hm (z13 + 6 * z5) rfl (by omega) ?_
   refine jx_stor c1 hm (L' := [some (.inr (.inr (.inl 27))), some (.inr (.inr (.inl 1))), some (.inl z5), some (.inl z8), some (.inl (z13 + 6 * z5))]) rfl rfl rfl rfl rfl ?_
   refine jx_load c1 hm rfl rfl rfl rfl ?_
   refine jx_getr c1 hm rfl sh_27 rfl ?_
   refine jx_load c1 hm rfl rfl rfl rfl ?_
   obtain ⟨z16, k17, lz16, uz16⟩ := hH12.ld (c := 32) (i := ((z13 + 6 * z5)).toNat) (A := (-1)) (B := 20) rfl
   refine jx_iald c1 hm rfl sh_32 ⟨by omega, by omega⟩ k17 ?_
   refine jy_ic c1 hm rfl (by decide) ?_
   refine jc_eq c1 hm 65 rfl rfl (fun h18 => ?_) (fun h18 => ?_)
   ·
    refine jx_load c1 hm rfl rfl rfl rfl ?_
    refine jy_ic c1 hm rfl (by decide) ?_
    refine jy_bp c1 hm rfl (by decide) ?_
    refine jv_i c3 hm rfl pj_X10_takesNumber rfl rfl ⟨_, _, _, rfl, sh_1⟩ rfl ((ct_X10_takesNumber_1 X (by omega) M12 hH12 0 ⟨by omega, by omega⟩ 20 ⟨by omega, by omega⟩).le (by decide)) (fun z19 M21 ⟨hH21, hR21, lz19, uz19, p20⟩ => ?_)
    have hF21 := hF12.tr hR21 (by decide +kernel)
    obtain ⟨z22, k23, lz22, uz22⟩ := hH21.ld (c := 1) (i := 11) (A := 0) (B := 999) (bs_19_7 _ _ (by omega) (by omega))
    refine jz_ne c1 hm 77 rfl rfl (fun h24 => ?_) (fun h24 => ?_)
    ·
     refine jx_load c1 hm rfl rfl rfl rfl ?_
     refine jx_getr c1 hm rfl sh_27 rfl ?_
     refine jx_load c1 hm rfl rfl rfl rfl ?_
     refine jx_load c1 hm rfl rfl rfl rfl ?_
     refine jx_geti c1 hm rfl sh_1 rfl k23 ?_
     obtain ⟨M25, e25, hH25, hF25, k25, n25, _⟩ := mup hH21 hF21 (c := 32) (i := ((z13 + 6 * z5)).toNat) (v := z22) (A := (-1)) (B := 20) rfl ⟨by omega, by omega⟩ (jin_of 8 rfl ⟨by omega, by omega⟩)
     refine jm_iast c1 hm rfl sh_32 ⟨by omega, by omega⟩ e25 ?_
     refine jy_ic c1 hm rfl (by decide) ?_
     exact jx_retz c2 hm rfl rfl ⟨by omega, by omega⟩ ⟨_, rfl, hH25, hF25, by omega, by omega⟩
    refine jy_ic c1 hm rfl (by decide) ?_
    exact jx_retz c2 hm rfl rfl ⟨by omega, by omega⟩ ⟨_, rfl, hH21, hF21, by omega, by omega⟩
   refine jx_load c1 hm rfl rfl rfl rfl ?_
   refine jy_ic c1 hm rfl (by decide) ?_
   refine jx_load c1 hm rfl rfl rfl rfl ?_
   refine jv_i c3 hm rfl pj_X10_fails rfl rfl ⟨_, _, _, rfl, sh_1⟩ rfl ((ct_X10_fails_1 X (by omega) M12 hH12 3 ⟨by omega, by omega⟩ z8 ⟨by omega, by omega⟩).le (by decide)) (fun z26 M28 ⟨hH28, hR28, lz26, uz26, p27⟩ => ?_)
   have hF28 := hF12.tr hR28 (by decide +kernel)
   exact jx_retz c2 hm rfl rfl ⟨by omega, by omega⟩ ⟨_, rfl, hH28, hF28, by omega, by omega⟩
  refine jy_ic c1 hm rfl (by decide) ?_
  exact jx_retz c2 hm rfl rfl ⟨by omega, by omega⟩ ⟨_, rfl, hH12, hF12, by omega, by omega⟩
 refine jy_ic c1 hm rfl (by decide) ?_
 exact jx_retz c2 hm rfl rfl ⟨by omega, by omega⟩ ⟨_, rfl, hH4, hF4, by omega, by omega⟩
def md_X2_readGood_27_1 : List (Nat × (Nat × Nat)) := [(1, (4, 4)), (1, (5, 5)), (1, (6, 6)), (1, (7, 7)), (1, (9, 9)), (1, (11, 11)), (1, (12, 12)), (1, (13, 13)), (28, (0, 2)), (33, (0, 5)), (38, (0, 5))]
theorem ct_X2_readGood_27_1 (X : Int) (hX : 0 ≤ X ∧ X ≤ 100000000) (M0 : JM) (hH0 : HI X M0)  : JOk shp PJ 4 223 [.inr (.inr (.inl 27)), .inr (.inr (.inl 1))] M0 (jRi (fun v M' => HI X M' ∧ Fr md_X2_readGood_27_1 M0 M' ∧ 0 ≤ v ∧ v ≤ 1 )) := by
 refine ⟨jr_X2_readGood, pj_X2_readGood, fun F c1 c2 c3 => ?_⟩
 have hm := pj_X2_readGood
 change F 0 [some (.inr (.inr (.inl 27))), some (.inr (.inr (.inl 1))), none, none] [] M0
 have hF0 : Fr md_X2_readGood_27_1 M0 M0 := Fr.rf _ _
 refine jx_load c1 hm rfl rfl rfl rfl ?_
 refine jx_load c1 hm rfl rfl rfl rfl ?_
 refine jy_ic c1 hm rfl (by decide) ?_
 refine jv_i c3 hm rfl pj_X2_takesFirstWord rfl rfl ⟨_, _, _, rfl, sh_27⟩ rfl ((ct_X2_takesFirstWord_27_1 X (by omega) M0 hH0 2 ⟨by omega, by omega⟩).le (by decide)) (fun z1 M2 ⟨hH2, hR2, lz1, uz1⟩ => ?_)
 have hF2 := hF0.tr hR2 (by decide +kernel)
 refine jz_eq c1 hm 27 rfl rfl (fun h3 => ?_) (fun h3 => ?_)
 ·
  refine jy_ic c1 hm rfl (by decide) ?_
  exact jx_retz c2 hm rfl rfl ⟨by omega, by omega⟩ ⟨_, rfl, hH2, hF2, by omega, by omega⟩
 refine jx_load c1 hm rfl rfl rfl rfl ?_
 refine jx_load c1 hm rfl rfl rfl rfl ?_
 refine jv_i c3 hm rfl pj_X10_takesNewName rfl rfl ⟨_, _, _, rfl, sh_1⟩ rfl ((ct_X10_takesNewName_1_27 X (by omega) M2 hH2 ).le (by decide)) (fun z4 M5 ⟨hH5, hR5, lz4, uz4⟩ => ?_)
 have hF5 := hF2.tr hR5 (by decide +kernel)
 refine jz_eq c1 hm 27 rfl rfl (fun h6 => ?_) (fun h6 => ?_)
 ·
  refine jy_ic c1 hm rfl (by decide) ?_
  exact jx_retz c2 hm rfl rfl ⟨by omega, by omega⟩ ⟨_, rfl, hH5, hF5, by omega, by omega⟩
 refine jx_load c1 hm rfl rfl rfl rfl ?_
 refine jy_ic c1 hm rfl (by decide) ?_
 refine jy_bp c1 hm rfl (by decide) ?_
 refine jv_i c3 hm rfl pj_X10_takesNumber rfl rfl ⟨_, _, _, rfl, sh_1⟩ rfl ((ct_X10_takesNumber_1 X (by omega) M5 hH5 1 ⟨by omega, by omega⟩ 99 ⟨by omega, by omega⟩).le (by decide)) (fun z7 M9 ⟨hH9, hR9, lz7, uz7, p8⟩ => ?_)
 have hF9 := hF5.tr hR9 (by decide +kernel)
 obtain ⟨z10, k11, lz10, uz10⟩ := hH9.ld (c := 1) (i := 11) (A := 0) (B := 999) (bs_19_7 _ _ (by omega) (by omega))
 refine jz_ne c1 hm 29 rfl rfl (fun h12 => ?_) (fun h12 => ?_)
 ·
  refine jx_load c1 hm rfl rfl rfl rfl ?_
  refine jx_geti c1 hm rfl sh_1 rfl k11 ?_
  refine jx_stor c1 hm (L' := [some (.inr (.inr (.inl 27))), some (.inr (.inr (.inl 1))), some (.inl z10), none]) rfl rfl rfl rfl rfl ?_
  refine jx_load c1 hm rfl rfl rfl rfl ?_
  refine jy_ic c1 hm rfl (by decide) ?_
  refine jy_bp c1 hm rfl (by decide) ?_
  refine jv_i c3 hm rfl pj_X10_takesNumber rfl rfl ⟨_, _, _, rfl, sh_1⟩ rfl ((ct_X10_takesNumber_1 X (by omega) M9 hH9 0 ⟨by omega, by omega⟩ 20 ⟨by omega, by omega⟩).le (by decide)) (fun z13 M15 ⟨hH15, hR15, lz13, uz13, p14⟩ => ?_)
  have hF15 := hF9.tr hR15 (by decide +kernel)
  obtain ⟨z16, k17, lz16, uz16⟩ := hH15.ld (c := 1) (i := 11) (A := 0) (B := 999) (bs_19_7 _ _ (by omega) (by omega))
  refine jz_ne c1 hm 46 rfl rfl (fun h18 => ?_) (fun h18 => ?_)
  ·
   refine jx_load c1 hm rfl rfl rfl rfl ?_
   refine jy_ic c1 hm rfl (by decide) ?_
   refine jx_load c1 hm rfl rfl rfl rfl ?_
   obtain ⟨w19, kw19⟩ : ∃ w, M15.2 1 10 = w := ⟨_, rfl⟩
   refine jx_getl c1 hm rfl sh_1 rfl kw19 ?_
   refine jv_i c3 hm rfl pj_X2_addName rfl rfl ⟨_, _, _, rfl, sh_27⟩ rfl ((ct_X2_addName_27 X (by omega) M15 hH15 2 ⟨by omega, by omega⟩ w19).le (by decide)) (fun z20 M21 ⟨hH21, hR21, lz20, uz20⟩ => ?_)
   have hF21 := hF15.tr hR21 (by decide +kernel)
   refine jx_stor c1 hm (L' := [some (.inr (.inr (.inl 27))), some (.inr (.inr (.inl 1))), some (.inl z10), some (.inl z20)]) rfl rfl rfl rfl rfl ?_
   refine jx_load c1 hm rfl rfl rfl rfl ?_
   refine jx_getr c1 hm rfl sh_27 rfl ?_
   refine jx_load c1 hm rfl rfl rfl rfl ?_
   refine jx_load c1 hm rfl rfl rfl rfl ?_
   obtain ⟨M22, e22, hH22, hF22, k22, n22, _⟩ := mup hH21 hF21 (c := 33) (i := (z20).toNat) (v := z10) (A := 0) (B := 99) rfl ⟨by omega, by omega⟩ (jin_of 9 rfl ⟨by omega, by omega⟩)
   refine jm_iast c1 hm rfl sh_33 ⟨by omega, by omega⟩ e22 ?_
   refine jx_load c1 hm rfl rfl rfl rfl ?_
   refine jx_getr c1 hm rfl sh_27 rfl ?_
   refine jx_getr c1 hm rfl sh_34 rfl ?_
   refine jx_load c1 hm rfl rfl rfl rfl ?_
   refine jx_load c1 hm rfl rfl rfl rfl ?_
   have k23 : M22.1 1 11 = z16 := (n22 1 11 (fun h => absurd h.1 (by decide))).trans ((hR21 1 11 (by decide +kernel)).trans k17)
   refine jx_geti c1 hm rfl sh_1 rfl k23 ?_
   obtain ⟨M24, e24, hH24, hF24, k24, n24, _⟩ := mup hH22 hF22 (c := 38) (i := (z20).toNat) (v := z16) (A := (-2147483648)) (B := 2147483647) rfl ⟨by omega, by omega⟩ (jin_of 10 rfl ⟨by omega, by omega⟩)
   refine jm_iast c1 hm rfl sh_38 ⟨by omega, by omega⟩ e24 ?_
   refine jy_ic c1 hm rfl (by decide) ?_
   exact jx_retz c2 hm rfl rfl ⟨by omega, by omega⟩ ⟨_, rfl, hH24, hF24, by omega, by omega⟩
  refine jy_ic c1 hm rfl (by decide) ?_
  exact jx_retz c2 hm rfl rfl ⟨by omega, by omega⟩ ⟨_, rfl, hH15, hF15, by omega, by omega⟩
 refine jy_ic c1 hm rfl (by decide) ?_
 exact jx_retz c2 hm rfl rfl ⟨by omega, by omega⟩ ⟨_, rfl, hH9, hF9, by omega, by omega⟩
def md_X2_readOwes_27_1 : List (Nat × (Nat × Nat)) := [(1, (4, 4)), (1, (5, 5)), (1, (6, 6)), (1, (7, 7)), (1, (9, 9)), (1, (11, 11)), (1, (12, 12)), (1, (13, 13)), (39, (0, 35))]
theorem ct_X2_readOwes_27_1 (X : Int) (hX : 0 ≤ X ∧ X ≤ 100000000) (M0 : JM) (hH0 : HI X M0)  : JOk shp PJ 4 229 [.inr (.inr (.inl 27)), .inr (.inr (.inl 1))] M0 (jRi (fun v M' => HI X M' ∧ Fr md_X2_readOwes_27_1 M0 M' ∧ 0 ≤ v ∧ v ≤ 1 )) := by
 refine ⟨jr_X2_readOwes, pj_X2_readOwes, fun F c1 c2 c3 => ?_⟩
 have hm := pj_X2_readOwes
 change F 0 [some (.inr (.inr (.inl 27))), some (.inr (.inr (.inl 1))), none, none, none] [] M0
 have hF0 : Fr md_X2_readOwes_27_1 M0 M0 := Fr.rf _ _
 refine jx_load c1 hm rfl rfl rfl rfl ?_
 refine jv_v c3 hm rfl pj_X10_next rfl rfl ⟨_, _, _, rfl, sh_1⟩ rfl ((ct_X10_next_1 X (by omega) M0 hH0 ).le (by decide)) (fun M1 ⟨hH1, hR1⟩ => ?_)
 have hF1 := hF0.tr hR1 (by decide +kernel)
 refine jx_load c1 hm rfl rfl rfl rfl ?_
 refine jx_load c1 hm rfl rfl rfl rfl ?_
 refine jy_ic c1 hm rfl (by decide) ?_
 refine jv_i c3 hm rfl pj_X10_takesName rfl rfl ⟨_, _, _, rfl, sh_1⟩ rfl ((ct_X10_takesName_1_27 X (by omega) M1 hH1 0 ⟨by omega, by omega⟩).le (by decide)) (fun z2 M4 ⟨hH4, hR4, lz2, uz2, p3⟩ => ?_)
 have hF4 := hF1.tr hR4 (by decide +kernel)
 obtain ⟨z5, k6, lz5, uz5⟩ := hH4.ld (c := 1) (i := 11) (A := 0) (B := 999) (bs_19_7 _ _ (by omega) (by omega))
 refine jz_ne c1 hm 15 rfl rfl (fun h7 => ?_) (fun h7 => ?_)
 ·
  refine jx_load c1 hm rfl rfl rfl rfl ?_
  refine jx_geti c1 hm rfl sh_1 rfl k6 ?_
  refine jx_stor c1 hm (L' := [some (.inr (.inr (.inl 27))), some (.inr (.inr (.inl 1))), some (.inl z5), none, none]) rfl rfl rfl rfl rfl ?_
  refine jx_load c1 hm rfl rfl rfl rfl ?_
  obtain ⟨z8, k9, lz8, uz8⟩ := hH4.ld (c := 1) (i := 5) (A := 0) (B := 940) (bs_19_3 _ _ (by omega) (by omega))
  refine jx_geti c1 hm rfl sh_1 rfl k9 ?_
  refine jx_stor c1 hm (L' := [some (.inr (.inr (.inl 27))), some (.inr (.inr (.inl 1))), some (.inl z5), some (.inl z8), none]) rfl rfl rfl rfl rfl ?_
  refine jx_load c1 hm rfl rfl rfl rfl ?_
  refine jx_load c1 hm rfl rfl rfl rfl ?_
  refine jy_ic c1 hm rfl (by decide) ?_
  refine jv_i c3 hm rfl pj_X10_takesName rfl rfl ⟨_, _, _, rfl, sh_1⟩ rfl ((ct_X10_takesName_1_27 X (by omega) M4 hH4 0 ⟨by omega, by omega⟩).le (by decide)) (fun z10 M12 ⟨hH12, hR12, lz10, uz10, p11⟩ => ?_)
  have hF12 := hF4.tr hR12 (by decide +kernel)
  obtain ⟨z13, k14, lz13, uz13⟩ := hH12.ld (c := 1) (i := 11) (A := 0) (B := 999) (bs_19_7 _ _ (by omega) (by omega))
  refine jz_ne c1 hm 36 rfl rfl (fun h15 => ?_) (fun h15 => ?_)
  ·
   refine jx_load c1 hm rfl rfl rfl rfl ?_
   refine jy_bp c1 hm rfl (by decide) ?_
   refine jy_mul c1 hm (6 * z5) rfl (by omega) ?_
   refine jx_load c1 hm rfl rfl rfl rfl ?_
   refine jx_geti c1 hm rfl sh_1 rfl k14 ?_
   refine jy_add c1 hm (z13 + 6 * z5) rfl (by omega) ?_
   refine jx_stor c1 hm (L' := [some (.inr (.inr (.inl 27))), some (.inr (.inr (.inl 1))), some (.inl z5), some (.inl z8), some (.inl (z13 + 6 * z5))]) rfl rfl rfl rfl rfl ?_
   refine jx_load c1 hm rfl rfl rfl rfl ?_
   refine jx_load c1 hm rfl rfl rfl rfl ?_
   refine jx_geti c1 hm rfl sh_1 rfl k14 ?_
   refine jc_eq c1 hm 68 rfl rfl (fun h16 => ?_) (fun h16 => ?_)
   ·
    refine jx_load c1 hm rfl rfl rfl rfl ?_
    refine jy_ic c1 hm rfl (by decide) ?_
    refine jx_load c1 hm rfl rfl rfl rfl ?_
    refine jv_i c3 hm rfl pj_X10_fails rfl rfl ⟨_, _, _, rfl, sh_1⟩ rfl ((ct_X10_fails_1 X (by omega) M12 hH12 3 ⟨by omega, by omega⟩ z8 ⟨by omega, by omega⟩).le (by decide)) (fun z17 M19 ⟨hH19, hR19, lz17, uz17, p18⟩ => ?_)
    have hF19 := hF12.tr hR19 (by decide +kernel)
    exact jx_retz c2 hm rfl rfl ⟨by omega, by omega⟩ ⟨_, rfl, hH19, hF19, by omega, by omega⟩
   refine jx_load c1 hm rfl rfl rfl rfl ?_
   refine jx_getr c1 hm rfl sh_27 rfl ?_
   refine jx_getr c1 hm rfl sh_34 rfl ?_
   refine jx_load c1 hm rfl rfl rfl rfl ?_
   obtain ⟨z20, k21, lz20, uz20⟩ := hH12.ld (c := 39) (i := ((z13 + 6 * z5)).toNat) (A := (-2147483648)) (B := 2147483647) rfl
   refine jx_iald c1 hm rfl sh_39 ⟨by omega, by omega⟩ k21 ?_
   refine jz_eq c1 hm 75 rfl rfl (fun h22 => ?_) (fun h22 => ?_)
   ·
    refine jx_load c1 hm rfl rfl rfl rfl ?_
    refine jy_ic c1 hm rfl (by decide) ?_
    refine jy_bp c1 hm rfl (by decide) ?_
    refine jv_i c3 hm rfl pj_X10_takesNumber rfl rfl ⟨_, _, _, rfl, sh_1⟩ rfl ((ct_X10_takesNumber_1 X (by omega) M12 hH12 1 ⟨by omega, by omega⟩ 99 ⟨by omega, by omega⟩).le (by decide)) (fun z23 M25 ⟨hH25, hR25, lz23, uz23, p24⟩ => ?_)
    have hF25 := hF12.tr hR25 (by decide +kernel)
    obtain ⟨z26, k27, lz26, uz26⟩ := hH25.ld (c := 1) (i := 11) (A := 0) (B := 999) (bs_19_7 _ _ (by omega) (by omega))
    refine jz_ne c1 hm 87 rfl rfl (fun h28 => ?_) (fun h28 => ?_)
    ·
     refine jx_load c1 hm rfl rfl rfl rfl ?_
     refine jx_getr c1 hm rfl sh_27 rfl ?_
     refine jx_getr c1 hm rfl sh_34 rfl ?_
     refine jx_load c1 hm rfl rfl rfl rfl ?_
     refine jx_load c1 hm rfl rfl rfl rfl ?_
     refine jx_geti c1 hm rfl sh_1 rfl k27 ?_
     obtain ⟨M29, e29, hH29, hF29, k29, n29, _⟩ := mup hH25 hF25 (c := 39) (i := ((z13 + 6 * z5)).toNat) (v := z26) (A := (-2147483648)) (B := 2147483647) rfl ⟨by omega, by omega⟩ (jin_of 8 rfl ⟨by omega, by omega⟩)
     refine jm_iast c1 hm rfl sh_39 ⟨by omega, by omega⟩ e29 ?_
     refine jy_ic c1 hm rfl (by decide) ?_
     exact jx_retz c2 hm rfl rfl ⟨by omega, by omega⟩ ⟨_, rfl, hH29, hF29, by omega, by omega⟩
    refine jy_ic c1 hm rfl (by decide) ?_
    exact jx_retz c2 hm rfl rfl ⟨by omega, by omega⟩ ⟨_, rfl, hH25, hF25, by omega, by omega⟩
   refine jx_load c1 hm rfl rfl rfl rfl ?_
   refine jy_ic c1 hm rfl (by decide) ?_
   refine jx_load c1 hm rfl rfl rfl rfl ?_
   refine jv_i c3 hm rfl pj_X10_fails rfl rfl ⟨_, _, _, rfl, sh_1⟩ rfl ((ct_X10_fails_1 X (by omega) M12 hH12 3 ⟨by omega, by omega⟩ z8 ⟨by omega, by omega⟩).le (by decide)) (fun z30 M32 ⟨hH32, hR32, lz30, uz30, p31⟩ => ?_)
   have hF32 := hF12.tr hR32 (by decide +kernel)
   exact jx_retz c2 hm rfl rfl ⟨by omega, by omega⟩ ⟨_, rfl, hH32, hF32, by omega, by omega⟩
  refine jy_ic c1 hm rfl (by decide) ?_
  exact jx_retz c2 hm rfl rfl ⟨by omega, by omega⟩ ⟨_, rfl, hH12, hF12, by omega, by omega⟩
 refine jy_ic c1 hm rfl (by decide) ?_
 exact jx_retz c2 hm rfl rfl ⟨by omega, by omega⟩ ⟨_, rfl, hH4, hF4, by omega, by omega⟩
def md_X2_readWears_27_1 : List (Nat × (Nat × Nat)) := [(1, (4, 4)), (1, (5, 5)), (1, (6, 6)), (1, (7, 7)), (1, (9, 9)), (1, (11, 11)), (1, (12, 12)), (1, (13, 13)), (27, (6, 6))]
theorem ct_X2_readWears_27_1 (X : Int) (hX : 0 ≤ X ∧ X ≤ 100000000) (M0 : JM) (hH0 : HI X M0)  : JOk shp PJ 4 230 [.inr (.inr (.inl 27)), .inr (.inr (.inl 1))] M0 (jRi (fun v M' => HI X M' ∧ Fr md_X2_readWears_27_1 M0 M' ∧ 0 ≤ v ∧ v ≤ 1 )) := by
 refine ⟨jr_X2_readWears, pj_X2_readWears, fun F c1 c2 c3 => ?_⟩
 have hm := pj_X2_readWears
 change F 0 [some (.inr (.inr (.inl 27))), some (.inr (.inr (.inl 1)))] [] M0
 have hF0 : Fr md_X2_readWears_27_1 M0 M0 := Fr.rf _ _
 refine jx_load c1 hm rfl rfl rfl rfl ?_
 obtain ⟨z1, k2, lz1, uz1⟩ := hH0.ld (c := 27) (i := 6) (A := (-1)) (B := 9) (bs_23_1 _ _ (by omega) (by omega))
 refine jx_geti c1 hm rfl sh_27 rfl k2 ?_
 refine jy_ic c1 hm rfl (by decide) ?_
 refine jc_eq c1 hm 18 rfl rfl (fun h3 => ?_) (fun h3 => ?_)
 ·
  refine jx_load c1 hm rfl rfl rfl rfl ?_
  refine jv_v c3 hm rfl pj_X10_next rfl rfl ⟨_, _, _, rfl, sh_1⟩ rfl ((ct_X10_next_1 X (by omega) M0 hH0 ).le (by decide)) (fun M4 ⟨hH4, hR4⟩ => ?_)
  have hF4 := hF0.tr hR4 (by decide +kernel)
  refine jx_load c1 hm rfl rfl rfl rfl ?_
  refine jy_ic c1 hm rfl (by decide) ?_
  refine jy_bp c1 hm rfl (by decide) ?_
  refine jv_i c3 hm rfl pj_X10_takesNumber rfl rfl ⟨_, _, _, rfl, sh_1⟩ rfl ((ct_X10_takesNumber_1 X (by omega) M4 hH4 0 ⟨by omega, by omega⟩ 9 ⟨by omega, by omega⟩).le (by decide)) (fun z5 M7 ⟨hH7, hR7, lz5, uz5, p6⟩ => ?_)
  have hF7 := hF4.tr hR7 (by decide +kernel)
  obtain ⟨z8, k9, lz8, uz8⟩ := hH7.ld (c := 1) (i := 11) (A := 0) (B := 999) (bs_19_7 _ _ (by omega) (by omega))
  refine jz_ne c1 hm 34 rfl rfl (fun h10 => ?_) (fun h10 => ?_)
  ·
   refine jx_load c1 hm rfl rfl rfl rfl ?_
   refine jx_load c1 hm rfl rfl rfl rfl ?_
   refine jx_geti c1 hm rfl sh_1 rfl k9 ?_
   obtain ⟨M11, e11, hH11, hF11, k11, n11, _⟩ := mup hH7 hF7 (c := 27) (i := 6) (v := z8) (A := (-1)) (B := 9) (bs_23_1 _ _ (by omega) (by omega)) ⟨by omega, by omega⟩ (jin_of 8 rfl ⟨by omega, by omega⟩)
   refine jm_puti c1 hm rfl sh_27 rfl e11 ?_
   refine jy_ic c1 hm rfl (by decide) ?_
   exact jx_retz c2 hm rfl rfl ⟨by omega, by omega⟩ ⟨_, rfl, hH11, hF11, by omega, by omega⟩
  refine jy_ic c1 hm rfl (by decide) ?_
  exact jx_retz c2 hm rfl rfl ⟨by omega, by omega⟩ ⟨_, rfl, hH7, hF7, by omega, by omega⟩
 refine jx_load c1 hm rfl rfl rfl rfl ?_
 refine jy_ic c1 hm rfl (by decide) ?_
 refine jx_load c1 hm rfl rfl rfl rfl ?_
 obtain ⟨z12, k13, lz12, uz12⟩ := hH0.ld (c := 1) (i := 5) (A := 0) (B := 940) (bs_19_3 _ _ (by omega) (by omega))
 refine jx_geti c1 hm rfl sh_1 rfl k13 ?_
 refine jv_i c3 hm rfl pj_X10_fails rfl rfl ⟨_, _, _, rfl, sh_1⟩ rfl ((ct_X10_fails_1 X (by omega) M0 hH0 3 ⟨by omega, by omega⟩ z12 ⟨by omega, by omega⟩).le (by decide)) (fun z14 M16 ⟨hH16, hR16, lz14, uz14, p15⟩ => ?_)
 have hF16 := hF0.tr hR16 (by decide +kernel)
 exact jx_retz c2 hm rfl rfl ⟨by omega, by omega⟩ ⟨_, rfl, hH16, hF16, by omega, by omega⟩
def md_X2_readMends_27_1 : List (Nat × (Nat × Nat)) := [(1, (4, 4)), (1, (5, 5)), (1, (6, 6)), (1, (7, 7)), (1, (9, 9)), (1, (11, 11)), (1, (12, 12)), (1, (13, 13)), (27, (7, 7))]
theorem ct_X2_readMends_27_1 (X : Int) (hX : 0 ≤ X ∧ X ≤ 100000000) (M0 : JM) (hH0 : HI X M0)  : JOk shp PJ 4 227 [.inr (.inr (.inl 27)), .inr (.inr (.inl 1))] M0 (jRi (fun v M' => HI X M' ∧ Fr md_X2_readMends_27_1 M0 M' ∧ 0 ≤ v ∧ v ≤ 1 )) := by
 refine ⟨jr_X2_readMends, pj_X2_readMends, fun F c1 c2 c3 => ?_⟩
 have hm := pj_X2_readMends
 change F 0 [some (.inr (.inr (.inl 27))), some (.inr (.inr (.inl 1)))] [] M0
 have hF0 : Fr md_X2_readMends_27_1 M0 M0 := Fr.rf _ _
 refine jx_load c1 hm rfl rfl rfl rfl ?_
 obtain ⟨z1, k2, lz1, uz1⟩ := hH0.ld (c := 27) (i := 7) (A := (-1)) (B := 9) (bs_23_1 _ _ (by omega) (by omega))
 refine jx_geti c1 hm rfl sh_27 rfl k2 ?_
 refine jy_ic c1 hm rfl (by decide) ?_
 refine jc_eq c1 hm 18 rfl rfl (fun h3 => ?_) (fun h3 => ?_)
 ·
  refine jx_load c1 hm rfl rfl rfl rfl ?_
  refine jv_v c3 hm rfl pj_X10_next rfl rfl ⟨_, _, _, rfl, sh_1⟩ rfl ((ct_X10_next_1 X (by omega) M0 hH0 ).le (by decide)) (fun M4 ⟨hH4, hR4⟩ => ?_)
  have hF4 := hF0.tr hR4 (by decide +kernel)
  refine jx_load c1 hm rfl rfl rfl rfl ?_
  refine jy_ic c1 hm rfl (by decide) ?_
  refine jy_bp c1 hm rfl (by decide) ?_
  refine jv_i c3 hm rfl pj_X10_takesNumber rfl rfl ⟨_, _, _, rfl, sh_1⟩ rfl ((ct_X10_takesNumber_1 X (by omega) M4 hH4 0 ⟨by omega, by omega⟩ 9 ⟨by omega, by omega⟩).le (by decide)) (fun z5 M7 ⟨hH7, hR7, lz5, uz5, p6⟩ => ?_)
  have hF7 := hF4.tr hR7 (by decide +kernel)
  obtain ⟨z8, k9, lz8, uz8⟩ := hH7.ld (c := 1) (i := 11) (A := 0) (B := 999) (bs_19_7 _ _ (by omega) (by omega))
  refine jz_ne c1 hm 34 rfl rfl (fun h10 => ?_) (fun h10 => ?_)
  ·
   refine jx_load c1 hm rfl rfl rfl rfl ?_
   refine jx_load c1 hm rfl rfl rfl rfl ?_
   refine jx_geti c1 hm rfl sh_1 rfl k9 ?_
   obtain ⟨M11, e11, hH11, hF11, k11, n11, _⟩ := mup hH7 hF7 (c := 27) (i := 7) (v := z8) (A := (-1)) (B := 9) (bs_23_1 _ _ (by omega) (by omega)) ⟨by omega, by omega⟩ (jin_of 8 rfl ⟨by omega, by omega⟩)
   refine jm_puti c1 hm rfl sh_27 rfl e11 ?_
   refine jy_ic c1 hm rfl (by decide) ?_
   exact jx_retz c2 hm rfl rfl ⟨by omega, by omega⟩ ⟨_, rfl, hH11, hF11, by omega, by omega⟩
  refine jy_ic c1 hm rfl (by decide) ?_
  exact jx_retz c2 hm rfl rfl ⟨by omega, by omega⟩ ⟨_, rfl, hH7, hF7, by omega, by omega⟩
 refine jx_load c1 hm rfl rfl rfl rfl ?_
 refine jy_ic c1 hm rfl (by decide) ?_
 refine jx_load c1 hm rfl rfl rfl rfl ?_
 obtain ⟨z12, k13, lz12, uz12⟩ := hH0.ld (c := 1) (i := 5) (A := 0) (B := 940) (bs_19_3 _ _ (by omega) (by omega))
 refine jx_geti c1 hm rfl sh_1 rfl k13 ?_
 refine jv_i c3 hm rfl pj_X10_fails rfl rfl ⟨_, _, _, rfl, sh_1⟩ rfl ((ct_X10_fails_1 X (by omega) M0 hH0 3 ⟨by omega, by omega⟩ z12 ⟨by omega, by omega⟩).le (by decide)) (fun z14 M16 ⟨hH16, hR16, lz14, uz14, p15⟩ => ?_)
 have hF16 := hF0.tr hR16 (by decide +kernel)
 exact jx_retz c2 hm rfl rfl ⟨by omega, by omega⟩ ⟨_, rfl, hH16, hF16, by omega, by omega⟩
def md_X2_readLine_27_1 : List (Nat × (Nat × Nat)) := [(1, (4, 4)), (1, (5, 5)), (1, (6, 6)), (1, (7, 7)), (1, (9, 9)), (1, (11, 11)), (1, (12, 12)), (1, (13, 13)), (27, (6, 6)), (27, (7, 7)), (28, (0, 2)), (30, (0, 5)), (31, (0, 5)), (32, (0, 35)), (33, (0, 5)), (35, (0, 5)), (38, (0, 5)), (39, (0, 35))]
theorem ct_X2_readLine_27_1 (X : Int) (hX : 0 ≤ X ∧ X ≤ 100000000) (M0 : JM) (hH0 : HI X M0)  : JOk shp PJ 5 224 [.inr (.inr (.inl 27)), .inr (.inr (.inl 1))] M0 (jRi (fun v M' => HI X M' ∧ Fr md_X2_readLine_27_1 M0 M' ∧ 0 ≤ v ∧ v ≤ 1 )) := by
 refine ⟨jr_X2_readLine, pj_X2_readLine, fun F c1 c2 c3 => ?_⟩
 have hm := pj_X2_readLine
 change F 0 [some (.inr (.inr (.inl 27))), some (.inr (.inr (.inl 1)))] [] M0
 have hF0 : Fr md_X2_readLine_27_1 M0 M0 := Fr.rf _ _
 refine jx_load c1 hm rfl rfl rfl rfl ?_
 obtain ⟨z1, k2, lz1, uz1⟩ := hH0.ld (c := 1) (i := 7) (A := (-1)) (B := 23) (bs_19_5 _ _ (by omega) (by omega))
 refine jx_geti c1 hm rfl sh_1 rfl k2 ?_
 by_cases h3 : z1 = 0
 ·
  refine jx_tswI c1 hm 48 rfl ⟨by omega, by omega⟩ (by rw [h3] <;> rfl) rfl ?_
  refine jx_load c1 hm rfl rfl rfl rfl ?_
  refine jx_load c1 hm rfl rfl rfl rfl ?_
  refine jv_i c3 hm rfl pj_X2_readMan rfl rfl ⟨_, _, _, rfl, sh_27⟩ rfl ((ct_X2_readMan_27_1 X (by omega) M0 hH0 ).le (by decide)) (fun z4 M5 ⟨hH5, hR5, lz4, uz4⟩ => ?_)
  have hF5 := hF0.tr hR5 (by decide +kernel)
  exact jx_retz c2 hm rfl rfl ⟨by omega, by omega⟩ ⟨_, rfl, hH5, hF5, by omega, by omega⟩
 by_cases h6 : z1 = 1
 ·
  refine jx_tswI c1 hm 54 rfl ⟨by omega, by omega⟩ (by rw [h6] <;> rfl) rfl ?_
  refine jx_load c1 hm rfl rfl rfl rfl ?_
  refine jx_load c1 hm rfl rfl rfl rfl ?_
  refine jv_i c3 hm rfl pj_X2_readForfeit rfl rfl ⟨_, _, _, rfl, sh_27⟩ rfl ((ct_X2_readForfeit_27_1 X (by omega) M0 hH0 ).le (by decide)) (fun z7 M8 ⟨hH8, hR8, lz7, uz7⟩ => ?_)
  have hF8 := hF0.tr hR8 (by decide +kernel)
  exact jx_retz c2 hm rfl rfl ⟨by omega, by omega⟩ ⟨_, rfl, hH8, hF8, by omega, by omega⟩
 by_cases h9 : z1 = 2
 ·
  refine jx_tswI c1 hm 60 rfl ⟨by omega, by omega⟩ (by rw [h9] <;> rfl) rfl ?_
  refine jx_load c1 hm rfl rfl rfl rfl ?_
  refine jx_load c1 hm rfl rfl rfl rfl ?_
  refine jv_i c3 hm rfl pj_X2_readMinds rfl rfl ⟨_, _, _, rfl, sh_27⟩ rfl ((ct_X2_readMinds_27_1 X (by omega) M0 hH0 ).le (by decide)) (fun z10 M11 ⟨hH11, hR11, lz10, uz10⟩ => ?_)
  have hF11 := hF0.tr hR11 (by decide +kernel)
  exact jx_retz c2 hm rfl rfl ⟨by omega, by omega⟩ ⟨_, rfl, hH11, hF11, by omega, by omega⟩
 by_cases h12 : z1 = 3
 ·
  refine jx_tswI c1 hm 66 rfl ⟨by omega, by omega⟩ (by rw [h12] <;> rfl) rfl ?_
  refine jx_load c1 hm rfl rfl rfl rfl ?_
  refine jx_load c1 hm rfl rfl rfl rfl ?_
  refine jv_i c3 hm rfl pj_X2_readGood rfl rfl ⟨_, _, _, rfl, sh_27⟩ rfl ((ct_X2_readGood_27_1 X (by omega) M0 hH0 ).le (by decide)) (fun z13 M14 ⟨hH14, hR14, lz13, uz13⟩ => ?_)
  have hF14 := hF0.tr hR14 (by decide +kernel)
  exact jx_retz c2 hm rfl rfl ⟨by omega, by omega⟩ ⟨_, rfl, hH14, hF14, by omega, by omega⟩
 by_cases h15 : z1 = 4
 ·
  refine jx_tswI c1 hm 72 rfl ⟨by omega, by omega⟩ (by rw [h15] <;> rfl) rfl ?_
  refine jx_load c1 hm rfl rfl rfl rfl ?_
  refine jx_load c1 hm rfl rfl rfl rfl ?_
  refine jv_i c3 hm rfl pj_X2_readOwes rfl rfl ⟨_, _, _, rfl, sh_27⟩ rfl ((ct_X2_readOwes_27_1 X (by omega) M0 hH0 ).le (by decide)) (fun z16 M17 ⟨hH17, hR17, lz16, uz16⟩ => ?_)
  have hF17 := hF0.tr hR17 (by decide +kernel)
  exact jx_retz c2 hm rfl rfl ⟨by omega, by omega⟩ ⟨_, rfl, hH17, hF17, by omega, by omega⟩
 by_cases h18 : z1 = 5
 ·
  refine jx_tswI c1 hm 78 rfl ⟨by omega, by omega⟩ (by rw [h18] <;> rfl) rfl ?_
  refine jx_load c1 hm rfl rfl rfl rfl ?_
  refine jx_load c1 hm rfl rfl rfl rfl ?_
  refine jv_i c3 hm rfl pj_X2_readWears rfl rfl ⟨_, _, _, rfl, sh_27⟩ rfl ((ct_X2_readWears_27_1 X (by omega) M0 hH0 ).le (by decide)) (fun z19 M20 ⟨hH20, hR20, lz19, uz19⟩ => ?_)
  have hF20 := hF0.tr hR20 (by decide +kernel)
  exact jx_retz c2 hm rfl rfl ⟨by omega, by omega⟩ ⟨_, rfl, hH20, hF20, by omega, by omega⟩
 by_cases h21 : z1 = 6
 ·
  refine jx_tswI c1 hm 84 rfl ⟨by omega, by omega⟩ (by rw [h21] <;> rfl) rfl ?_
  refine jx_load c1 hm rfl rfl rfl rfl ?_
  refine jx_load c1 hm rfl rfl rfl rfl ?_
  refine jv_i c3 hm rfl pj_X2_readMends rfl rfl ⟨_, _, _, rfl, sh_27⟩ rfl ((ct_X2_readMends_27_1 X (by omega) M0 hH0 ).le (by decide)) (fun z22 M23 ⟨hH23, hR23, lz22, uz22⟩ => ?_)
  have hF23 := hF0.tr hR23 (by decide +kernel)
  exact jx_retz c2 hm rfl rfl ⟨by omega, by omega⟩ ⟨_, rfl, hH23, hF23, by omega, by omega⟩
 refine jx_tswO c1 hm 90 rfl (by omega) rfl ?_
 refine jx_load c1 hm rfl rfl rfl rfl ?_
 refine jy_ic c1 hm rfl (by decide) ?_
 refine jx_load c1 hm rfl rfl rfl rfl ?_
 obtain ⟨z24, k25, lz24, uz24⟩ := hH0.ld (c := 1) (i := 5) (A := 0) (B := 940) (bs_19_3 _ _ (by omega) (by omega))
 refine jx_geti c1 hm rfl sh_1 rfl k25 ?_
 refine jv_i c3 hm rfl pj_X10_fails rfl rfl ⟨_, _, _, rfl, sh_1⟩ rfl ((ct_X10_fails_1 X (by omega) M0 hH0 1 ⟨by omega, by omega⟩ z24 ⟨by omega, by omega⟩).le (by decide)) (fun z26 M28 ⟨hH28, hR28, lz26, uz26, p27⟩ => ?_)
 have hF28 := hF0.tr hR28 (by decide +kernel)
 exact jx_retz c2 hm rfl rfl ⟨by omega, by omega⟩ ⟨_, rfl, hH28, hF28, by omega, by omega⟩
theorem ct_X10_isSign_1 (X : Int) (hX : 0 ≤ X ∧ X ≤ 100000000) (M0 : JM) (hH0 : HI X M0) (a0 : Int) (ha0 : (-2147483648) ≤ a0 ∧ a0 ≤ 2147483647) : JOk shp PJ 1 15 [.inr (.inr (.inl 1)), .inl a0] M0 (jRi (fun v M' => M0 = M' ∧ 0 ≤ v ∧ v ≤ 1 )) := by
 refine ⟨jr_X10_isSign, pj_X10_isSign, fun F c1 c2 c3 => ?_⟩
 have hm := pj_X10_isSign
 change F 0 [some (.inr (.inr (.inl 1))), some (.inl a0)] [] M0
 refine jx_load c1 hm rfl rfl rfl rfl ?_
 obtain ⟨z1, k2, lz1, uz1⟩ := hH0.ld (c := 1) (i := 6) (A := 0) (B := 4) (bs_19_4 _ _ (by omega) (by omega))
 refine jx_geti c1 hm rfl sh_1 rfl k2 ?_
 refine jy_ic c1 hm rfl (by decide) ?_
 refine jc_ne c1 hm 20 rfl rfl (fun h3 => ?_) (fun h3 => ?_)
 ·
  refine jy_ic c1 hm rfl (by decide) ?_
  exact jx_retz c2 hm rfl rfl ⟨by omega, by omega⟩ ⟨_, rfl, rfl, by omega, by omega⟩
 refine jx_load c1 hm rfl rfl rfl rfl ?_
 obtain ⟨z4, k5, lz4, uz4⟩ := hH0.ld (c := 1) (i := 9) (A := (-2147483648)) (B := 2147483647) (bs_19_6 _ _ (by omega) (by omega))
 refine jx_geti c1 hm rfl sh_1 rfl k5 ?_
 refine jx_load c1 hm rfl rfl rfl rfl ?_
 refine jc_ne c1 hm 20 rfl rfl (fun h6 => ?_) (fun h6 => ?_)
 ·
  refine jy_ic c1 hm rfl (by decide) ?_
  exact jx_retz c2 hm rfl rfl ⟨by omega, by omega⟩ ⟨_, rfl, rfl, by omega, by omega⟩
 refine jy_ic c1 hm rfl (by decide) ?_
 refine jx_goto c1 hm 21 rfl rfl ?_
 exact jx_retz c2 hm rfl rfl ⟨by omega, by omega⟩ ⟨_, rfl, rfl, by omega, by omega⟩
def md_X10_takesSign_1 : List (Nat × (Nat × Nat)) := [(1, (4, 4)), (1, (5, 5)), (1, (6, 6)), (1, (7, 7)), (1, (9, 9)), (1, (12, 12)), (1, (13, 13))]
theorem ct_X10_takesSign_1 (X : Int) (hX : 0 ≤ X ∧ X ≤ 100000000) (M0 : JM) (hH0 : HI X M0) (a0 : Int) (ha0 : (-2147483648) ≤ a0 ∧ a0 ≤ 2147483647) : JOk shp PJ 3 24 [.inr (.inr (.inl 1)), .inl a0] M0 (jRi (fun v M' => HI X M' ∧ Fr md_X10_takesSign_1 M0 M' ∧ 0 ≤ v ∧ v ≤ 1 )) := by
 refine ⟨jr_X10_takesSign, pj_X10_takesSign, fun F c1 c2 c3 => ?_⟩
 have hm := pj_X10_takesSign
 change F 0 [some (.inr (.inr (.inl 1))), some (.inl a0)] [] M0
 have hF0 : Fr md_X10_takesSign_1 M0 M0 := Fr.rf _ _
 refine jx_load c1 hm rfl rfl rfl rfl ?_
 refine jx_load c1 hm rfl rfl rfl rfl ?_
 refine jv_i c3 hm rfl pj_X10_isSign rfl rfl ⟨_, _, _, rfl, sh_1⟩ rfl ((ct_X10_isSign_1 X (by omega) M0 hH0 a0 ⟨by omega, by omega⟩).le (by decide)) (fun z1 _ ⟨rfl, lz1, uz1⟩ => ?_)
 refine jz_ne c1 hm 18 rfl rfl (fun h2 => ?_) (fun h2 => ?_)
 ·
  refine jx_load c1 hm rfl rfl rfl rfl ?_
  refine jv_v c3 hm rfl pj_X10_next rfl rfl ⟨_, _, _, rfl, sh_1⟩ rfl ((ct_X10_next_1 X (by omega) M0 hH0 ).le (by decide)) (fun M3 ⟨hH3, hR3⟩ => ?_)
  have hF3 := hF0.tr hR3 (by decide +kernel)
  refine jy_ic c1 hm rfl (by decide) ?_
  exact jx_retz c2 hm rfl rfl ⟨by omega, by omega⟩ ⟨_, rfl, hH3, hF3, by omega, by omega⟩
 refine jx_load c1 hm rfl rfl rfl rfl ?_
 refine jy_ic c1 hm rfl (by decide) ?_
 refine jx_load c1 hm rfl rfl rfl rfl ?_
 obtain ⟨z4, k5, lz4, uz4⟩ := hH0.ld (c := 1) (i := 5) (A := 0) (B := 940) (bs_19_3 _ _ (by omega) (by omega))
 refine jx_geti c1 hm rfl sh_1 rfl k5 ?_
 refine jv_i c3 hm rfl pj_X10_fails rfl rfl ⟨_, _, _, rfl, sh_1⟩ rfl ((ct_X10_fails_1 X (by omega) M0 hH0 1 ⟨by omega, by omega⟩ z4 ⟨by omega, by omega⟩).le (by decide)) (fun z6 M8 ⟨hH8, hR8, lz6, uz6, p7⟩ => ?_)
 have hF8 := hF0.tr hR8 (by decide +kernel)
 exact jx_retz c2 hm rfl rfl ⟨by omega, by omega⟩ ⟨_, rfl, hH8, hF8, by omega, by omega⟩
theorem ct_X2_forfeits_27 (X : Int) (hX : 0 ≤ X ∧ X ≤ 100000000) (M0 : JM) (hH0 : HI X M0)  : JOk shp PJ 1 217 [.inr (.inr (.inl 27))] M0 (jRi (fun v M' => M0 = M' ∧ 0 ≤ v ∧ v ≤ 6 )) := by
 refine ⟨jr_X2_forfeits, pj_X2_forfeits, fun F c1 c2 c3 => ?_⟩
 have hm := pj_X2_forfeits
 change F 0 [some (.inr (.inr (.inl 27)))] [] M0
 refine jx_load c1 hm rfl rfl rfl rfl ?_
 refine jx_getr c1 hm rfl sh_27 rfl ?_
 refine jy_ic c1 hm rfl (by decide) ?_
 obtain ⟨z1, k2, lz1, uz1⟩ := hH0.ld (c := 28) (i := 1) (A := 0) (B := 6) rfl
 refine jx_iald c1 hm rfl sh_28 ⟨by omega, by omega⟩ k2 ?_
 exact jx_reti c2 hm rfl rfl ⟨_, rfl, rfl, by omega, by omega⟩
def md_X2_fillWhatWasNotTold_27 : List (Nat × (Nat × Nat)) := [(27, (6, 6)), (27, (7, 7)), (32, (0, 35))]
theorem ct_X2_fillWhatWasNotTold_27 (X : Int) (hX : 0 ≤ X ∧ X ≤ 100000000) (M0 : JM) (hH0 : HI X M0)  : JOk shp PJ 2 216 [.inr (.inr (.inl 27))] M0 (jRv (fun M' => HI X M' ∧ Fr md_X2_fillWhatWasNotTold_27 M0 M' ∧ (0 ≤ M'.1 27 6 ∧ 0 ≤ M'.1 27 7))) := by
 refine ⟨jr_X2_fillWhatWasNotTold, pj_X2_fillWhatWasNotTold, fun F c1 c2 c3 => ?_⟩
 have hm := pj_X2_fillWhatWasNotTold
 change F 0 [some (.inr (.inr (.inl 27))), none] [] M0
 have hF0 : Fr md_X2_fillWhatWasNotTold_27 M0 M0 := Fr.rf _ _
 refine jx_load c1 hm rfl rfl rfl rfl ?_
 refine jx_load c1 hm rfl rfl rfl rfl ?_
 obtain ⟨z1, k2, lz1, uz1⟩ := hH0.ld (c := 27) (i := 6) (A := (-1)) (B := 9) (bs_23_1 _ _ (by omega) (by omega))
 refine jx_geti c1 hm rfl sh_27 rfl k2 ?_
 refine jy_ic c1 hm rfl (by decide) ?_
 have J5 : ∀ (b4 : Int) (hb4 : 0 ≤ b4 ∧ b4 ≤ 9), F 17 [some (.inr (.inr (.inl 27))), none] [.inl b4, .inr (.inr (.inl 27))] M0 := by
  intro b4 hb4
  obtain ⟨M6, e6, hH6, hF6, k6, n6, _⟩ := mup hH0 hF0 (c := 27) (i := 6) (v := b4) (A := (-1)) (B := 9) (bs_23_1 _ _ (by omega) (by omega)) ⟨by omega, by omega⟩ (jin_of 0 rfl ⟨by omega, by omega⟩)
  refine jm_puti c1 hm rfl sh_27 rfl e6 ?_
  refine jx_load c1 hm rfl rfl rfl rfl ?_
  refine jx_load c1 hm rfl rfl rfl rfl ?_
  obtain ⟨z7, k8, lz7, uz7⟩ := hH6.ld (c := 27) (i := 7) (A := (-1)) (B := 9) (bs_23_1 _ _ (by omega) (by omega))
  refine jx_geti c1 hm rfl sh_27 rfl k8 ?_
  refine jy_ic c1 hm rfl (by decide) ?_
  have J11 : ∀ (b10 : Int) (hb10 : 0 ≤ b10 ∧ b10 ≤ 9), F 37 [some (.inr (.inr (.inl 27))), none] [.inl b10, .inr (.inr (.inl 27))] M6 := by
   intro b10 hb10
   obtain ⟨M12, e12, hH12, hF12, k12, n12, _⟩ := mup hH6 hF6 (c := 27) (i := 7) (v := b10) (A := (-1)) (B := 9) (bs_23_1 _ _ (by omega) (by omega)) ⟨by omega, by omega⟩ (jin_of 1 rfl ⟨by omega, by omega⟩)
   refine jm_puti c1 hm rfl sh_27 rfl e12 ?_
   refine jy_ic c1 hm rfl (by decide) ?_
   refine jx_stor c1 hm (L' := [some (.inr (.inr (.inl 27))), some (.inl 0)]) rfl rfl rfl rfl rfl ?_
   have W18 : ∀ (n19 : Nat) (b13 : Int) (hb13 : 0 ≤ b13 ∧ b13 ≤ 36) (M14 : JM) (hH14 : HI (X) M14) (hF14 : Fr md_X2_fillWhatWasNotTold_27 M0 M14) (k16 : M14.1 27 6 = b4) (k17 : M14.1 27 7 = b10), (-b13 + 36) < (n19 : Int) → F 42 [some (.inr (.inr (.inl 27))), some (.inl b13)] [] M14 := by
    intro n19
    induction n19 with
    | zero => intros; omega
    | succ n19 ihW18 =>
     intro b13 hb13 M14 hH14 hF14 k16 k17 hrW18
     refine jx_load c1 hm rfl rfl rfl rfl ?_
     refine jy_bp c1 hm rfl (by decide) ?_
     refine jc_ge c1 hm 94 rfl rfl (fun h20 => ?_) (fun h20 => ?_)
     ·
      exact jx_retv c2 hm rfl rfl ⟨rfl, hH14, hF14, (by omega)⟩
     refine jx_load c1 hm rfl rfl rfl rfl ?_
     refine jx_getr c1 hm rfl sh_27 rfl ?_
     refine jx_load c1 hm rfl rfl rfl rfl ?_
     obtain ⟨z21, k22, lz21, uz21⟩ := hH14.ld (c := 32) (i := (b13).toNat) (A := (-1)) (B := 20) rfl
     refine jx_iald c1 hm rfl sh_32 ⟨by omega, by omega⟩ k22 ?_
     refine jy_ic c1 hm rfl (by decide) ?_
     have J38 : ∀ (M33 : JM) (hH33 : HI (X) M33) (hF33 : Fr md_X2_fillWhatWasNotTold_27 M0 M33) (k35 : M33.1 27 6 = b4) (k37 : M33.1 27 7 = b10), F 88 [some (.inr (.inr (.inl 27))), some (.inl b13)] [] M33 := by
      intro M33 hH33 hF33 k35 k37
      refine jx_iinc c1 hm (v := (b13 + 1)) (L' := [some (.inr (.inr (.inl 27))), some (.inl (b13 + 1))]) rfl rfl (by omega) (by omega) rfl ?_
      refine jx_goto c1 hm 42 rfl rfl ?_
      exact ihW18 (b13 + 1) (by omega) M33 hH33 hF33 k35 k37 (by omega)
     refine jc_ne c1 hm 88 rfl rfl (fun h23 => ?_) (fun h23 => ?_)
     ·
      exact J38 M14 hH14 hF14 k16 k17
     refine jx_load c1 hm rfl rfl rfl rfl ?_
     refine jx_getr c1 hm rfl sh_27 rfl ?_
     refine jx_load c1 hm rfl rfl rfl rfl ?_
     refine jx_load c1 hm rfl rfl rfl rfl ?_
     refine jy_bp c1 hm rfl (by decide) ?_
     refine jy_rem c1 hm rfl ⟨by omega, by omega, by omega, by omega⟩ (fun z24 ez24 lz24 uz24 => ?_)
     refine jx_load c1 hm rfl rfl rfl rfl ?_
     refine jv_i c3 hm rfl pj_X2_forfeits rfl rfl ⟨_, _, _, rfl, sh_27⟩ rfl ((ct_X2_forfeits_27 X (by omega) M14 hH14 ).le (by decide)) (fun z25 _ ⟨rfl, lz25, uz25⟩ => ?_)
     have J31 : ∀ (b30 : Int) (hb30 : 0 ≤ b30 ∧ b30 ≤ 20), F 87 [some (.inr (.inr (.inl 27))), some (.inl b13)] [.inl b30, .inl b13, .inr (.inr (.inl 32))] M14 := by
      intro b30 hb30
      obtain ⟨M32, e32, hH32, hF32, k32, n32, _⟩ := mup hH14 hF14 (c := 32) (i := (b13).toNat) (v := b30) (A := (-1)) (B := 20) rfl ⟨by omega, by omega⟩ (jin_of 2 rfl ⟨by omega, by omega⟩)
      refine jm_iast c1 hm rfl sh_32 ⟨by omega, by omega⟩ e32 ?_
      have k34 : M32.1 27 6 = b4 := (n32 27 6 (fun h => absurd h.1 (by decide))).trans k16
      have k36 : M32.1 27 7 = b10 := (n32 27 7 (fun h => absurd h.1 (by decide))).trans k17
      exact J38 M32 hH32 hF32 k34 k36
     refine jc_ge c1 hm 86 rfl rfl (fun h26 => ?_) (fun h26 => ?_)
     ·
      refine jy_ic c1 hm rfl (by decide) ?_
      exact J31 0 (by omega)
     refine jx_load c1 hm rfl rfl rfl rfl ?_
     refine jx_getr c1 hm rfl sh_27 rfl ?_
     refine jx_load c1 hm rfl rfl rfl rfl ?_
     refine jy_bp c1 hm rfl (by decide) ?_
     refine jy_rem c1 hm rfl ⟨by omega, by omega, by omega, by omega⟩ (fun z27 ez27 lz27 uz27 => ?_)
     obtain ⟨z28, k29, lz28, uz28⟩ := hH14.ld (c := 31) (i := (z27).toNat) (A := 0) (B := 20) rfl
     refine jx_iald c1 hm rfl sh_31 ⟨by omega, by omega⟩ k29 ?_
     refine jx_goto c1 hm 87 rfl rfl ?_
     exact J31 z28 (by omega)
   have k15 : M12.1 27 6 = b4 := (n12 27 6 (by decide)).trans k6
   exact W18 (36 + 1 : Int).toNat 0 (by omega) M12 hH12 hF12 k15 k12 (by omega)
  refine jc_ne c1 hm 33 rfl rfl (fun h9 => ?_) (fun h9 => ?_)
  ·
   refine jx_load c1 hm rfl rfl rfl rfl ?_
   refine jx_geti c1 hm rfl sh_27 rfl k8 ?_
   exact J11 z7 (by omega)
  refine jy_ic c1 hm rfl (by decide) ?_
  refine jx_goto c1 hm 37 rfl rfl ?_
  exact J11 1 (by omega)
 refine jc_ne c1 hm 13 rfl rfl (fun h3 => ?_) (fun h3 => ?_)
 ·
  refine jx_load c1 hm rfl rfl rfl rfl ?_
  refine jx_geti c1 hm rfl sh_27 rfl k2 ?_
  exact J5 z1 (by omega)
 refine jy_ic c1 hm rfl (by decide) ?_
 refine jx_goto c1 hm 17 rfl rfl ?_
 exact J5 1 (by omega)
def md_X2_readLines_27_1 : List (Nat × (Nat × Nat)) := [(1, (4, 4)), (1, (5, 5)), (1, (6, 6)), (1, (7, 7)), (1, (9, 9)), (1, (11, 11)), (1, (12, 12)), (1, (13, 13)), (27, (6, 6)), (27, (7, 7)), (28, (0, 2)), (30, (0, 5)), (31, (0, 5)), (32, (0, 35)), (33, (0, 5)), (34, (7, 7)), (35, (0, 5)), (36, (0, 5)), (37, (0, 5)), (38, (0, 5)), (39, (0, 35)), (40, (0, 35)), (41, (0, 35)), (42, (2, 2)), (42, (3, 3))]
theorem ct_X2_readLines_27_1 (X : Int) (hX : 0 ≤ X ∧ X ≤ 100000000) (M0 : JM) (hH0 : HI X M0)  : JOk shp PJ 6 225 [.inr (.inr (.inl 27)), .inr (.inr (.inl 1))] M0 (jRi (fun v M' => HI X M' ∧ Fr md_X2_readLines_27_1 M0 M' ∧ 0 ≤ v ∧ v ≤ 900 ∧ (0 ≤ M'.1 27 6 ∧ 0 ≤ M'.1 27 7))) := by
 refine ⟨jr_X2_readLines, pj_X2_readLines, fun F c1 c2 c3 => ?_⟩
 have hm := pj_X2_readLines
 change F 0 [some (.inr (.inr (.inl 27))), some (.inr (.inr (.inl 1))), none, none] [] M0
 have hF0 : Fr md_X2_readLines_27_1 M0 M0 := Fr.rf _ _
 refine jx_load c1 hm rfl rfl rfl rfl ?_
 refine jv_v c3 hm rfl pj_X2_clear rfl rfl ⟨_, _, _, rfl, sh_27⟩ rfl ((ct_X2_clear_27 X (by omega) M0 hH0 ).le (by decide)) (fun M1 ⟨hH1, hR1⟩ => ?_)
 have hF1 := hF0.tr hR1 (by decide +kernel)
 refine jy_ic c1 hm rfl (by decide) ?_
 refine jx_stor c1 hm (L' := [some (.inr (.inr (.inl 27))), some (.inr (.inr (.inl 1))), some (.inl 0), none]) rfl rfl rfl rfl rfl ?_
 refine jy_ic c1 hm rfl (by decide) ?_
 refine jx_stor c1 hm (L' := [some (.inr (.inr (.inl 27))), some (.inr (.inr (.inl 1))), some (.inl 0), some (.inl 0)]) rfl rfl rfl rfl rfl ?_
 have W6 : ∀ (n7 : Nat) (b2 : Int) (hb2 : 0 ≤ b2 ∧ b2 ≤ 2147483647) (b3 : Int) (hb3 : 0 ≤ b3 ∧ b3 ≤ 900) (M4 : JM) (hH4 : HI (X) M4) (hF4 : Fr md_X2_readLines_27_1 M0 M4) (h5 : b2 ≤ b3), (-b3 + 900) < (n7 : Int) → F 8 [some (.inr (.inr (.inl 27))), some (.inr (.inr (.inl 1))), some (.inl b2), some (.inl b3)] [] M4 := by
  intro n7
  induction n7 with
  | zero => intros; omega
  | succ n7 ihW6 =>
   intro b2 hb2 b3 hb3 M4 hH4 hF4 h5 hrW6
   refine jx_load c1 hm rfl rfl rfl rfl ?_
   refine jy_sp c1 hm rfl (by decide) ?_
   have J25 : F 55 [some (.inr (.inr (.inl 27))), some (.inr (.inr (.inl 1))), some (.inl b2), some (.inl b3)] [] M4 := by
    refine jx_load c1 hm rfl rfl rfl rfl ?_
    refine jv_v c3 hm rfl pj_X2_fillWhatWasNotTold rfl rfl ⟨_, _, _, rfl, sh_27⟩ rfl ((ct_X2_fillWhatWasNotTold_27 X (by omega) M4 hH4 ).le (by decide)) (fun M27 ⟨hH27, hR27, p26⟩ => ?_)
    have hF27 := hF4.tr hR27 (by decide +kernel)
    obtain ⟨z28, k29, lz28, uz28⟩ := hH27.ld (c := 27) (i := 6) (A := (-1)) (B := 9) (bs_23_1 _ _ (by omega) (by omega))
    obtain ⟨z30, k31, lz30, uz30⟩ := hH27.ld (c := 27) (i := 7) (A := (-1)) (B := 9) (bs_23_1 _ _ (by omega) (by omega))
    refine jx_load c1 hm rfl rfl rfl rfl ?_
    exact jx_reti c2 hm rfl rfl ⟨_, rfl, hH27, hF27, by omega, by omega, (by omega)⟩
   refine jc_ge c1 hm 55 rfl rfl (fun h8 => ?_) (fun h8 => ?_)
   ·
    exact J25 
   refine jx_load c1 hm rfl rfl rfl rfl ?_
   obtain ⟨z9, k10, lz9, uz9⟩ := hH4.ld (c := 1) (i := 12) (A := 0) (B := 4) (bs_19_8 _ _ (by omega) (by omega))
   refine jx_geti c1 hm rfl sh_1 rfl k10 ?_
   refine jz_ne c1 hm 55 rfl rfl (fun h11 => ?_) (fun h11 => ?_)
   ·
    exact J25 
   refine jx_load c1 hm rfl rfl rfl rfl ?_
   obtain ⟨z12, k13, lz12, uz12⟩ := hH4.ld (c := 1) (i := 6) (A := 0) (B := 4) (bs_19_4 _ _ (by omega) (by omega))
   refine jx_geti c1 hm rfl sh_1 rfl k13 ?_
   refine jz_eq c1 hm 55 rfl rfl (fun h14 => ?_) (fun h14 => ?_)
   ·
    exact J25 
   refine jx_load c1 hm rfl rfl rfl rfl ?_
   refine jx_load c1 hm rfl rfl rfl rfl ?_
   refine jv_i c3 hm rfl pj_X2_readLine rfl rfl ⟨_, _, _, rfl, sh_27⟩ rfl ((ct_X2_readLine_27_1 X (by omega) M4 hH4 ).le (by decide)) (fun z15 M16 ⟨hH16, hR16, lz15, uz15⟩ => ?_)
   have hF16 := hF4.tr hR16 (by decide +kernel)
   have J24 : ∀ (b21 : Int) (hb21 : 0 ≤ b21 ∧ b21 ≤ 901) (M22 : JM) (hH22 : HI (X) M22) (hF22 : Fr md_X2_readLines_27_1 M0 M22) (h23 : b21 ≤ b3 + 1), F 49 [some (.inr (.inr (.inl 27))), some (.inr (.inr (.inl 1))), some (.inl b21), some (.inl b3)] [] M22 := by
    intro b21 hb21 M22 hH22 hF22 h23
    refine jx_iinc c1 hm (v := (b3 + 1)) (L' := [some (.inr (.inr (.inl 27))), some (.inr (.inr (.inl 1))), some (.inl b21), some (.inl (b3 + 1))]) rfl rfl (by omega) (by omega) rfl ?_
    refine jx_goto c1 hm 8 rfl rfl ?_
    exact ihW6 b21 (by omega) (b3 + 1) (by omega) M22 hH22 hF22 (by omega) (by omega)
   refine jz_eq c1 hm 49 rfl rfl (fun h17 => ?_) (fun h17 => ?_)
   ·
    exact J24 b2 (by omega) M16 hH16 hF16 (by omega)
   refine jx_load c1 hm rfl rfl rfl rfl ?_
   refine jy_bp c1 hm rfl (by decide) ?_
   refine jv_i c3 hm rfl pj_X10_takesSign rfl rfl ⟨_, _, _, rfl, sh_1⟩ rfl ((ct_X10_takesSign_1 X (by omega) M16 hH16 59 ⟨by omega, by omega⟩).le (by decide)) (fun z18 M19 ⟨hH19, hR19, lz18, uz18⟩ => ?_)
   have hF19 := hF16.tr hR19 (by decide +kernel)
   refine jz_eq c1 hm 49 rfl rfl (fun h20 => ?_) (fun h20 => ?_)
   ·
    exact J24 b2 (by omega) M19 hH19 hF19 (by omega)
   refine jx_iinc c1 hm (v := (b2 + 1)) (L' := [some (.inr (.inr (.inl 27))), some (.inr (.inr (.inl 1))), some (.inl (b2 + 1)), some (.inl b3)]) rfl rfl (by omega) (by omega) rfl ?_
   exact J24 (b2 + 1) (by omega) M19 hH19 hF19 (by omega)
 exact W6 (900 + 1 : Int).toNat 0 (by omega) 0 (by omega) M1 hH1 hF1 (by omega) (by omega)
def md_X11_copyRow_28_6 : List (Nat × (Nat × Nat)) := [(6, (0, 2))]
theorem ct_X11_copyRow_28_6 (X : Int) (hX : 0 ≤ X ∧ X ≤ 100000000) (M0 : JM) (hH0 : HI X M0)  : JOk shp PJ 1 29 [.inr (.inr (.inl 28)), .inr (.inr (.inl 6))] M0 (jRv (fun M' => HI X M' ∧ Fr md_X11_copyRow_28_6 M0 M' )) := by
 refine ⟨jr_X11_copyRow, pj_X11_copyRow, fun F c1 c2 c3 => ?_⟩
 have hm := pj_X11_copyRow
 change F 0 [some (.inr (.inr (.inl 28))), some (.inr (.inr (.inl 6)))] [] M0
 have hF0 : Fr md_X11_copyRow_28_6 M0 M0 := Fr.rf _ _
 refine jx_load c1 hm rfl rfl rfl rfl ?_
 refine jy_ic c1 hm rfl (by decide) ?_
 refine jx_load c1 hm rfl rfl rfl rfl ?_
 refine jy_ic c1 hm rfl (by decide) ?_
 refine jx_load c1 hm rfl rfl rfl rfl ?_
 refine jx_alen c1 hm (v := 3) rfl sh_28 rfl rfl ?_
 refine jx_load c1 hm rfl rfl rfl rfl ?_
 refine jx_alen c1 hm (v := 3) rfl sh_6 rfl rfl ?_
 refine jx_min c1 hm rfl rfl (fun z1 lz1 uz1 ez1 => ?_)
 obtain ⟨M2, e2, hH2, hF2, n2, _⟩ := mcp hH0 hF0 (c1 := 28) (c2 := 6) (n := z1) (fun _ _ => rfl) (fun j hj => jin_of 0 rfl ⟨by omega, by omega⟩)
 refine jm_acpi c1 hm rfl rfl sh_28 sh_6 ⟨by omega, by omega, by omega⟩ e2 ?_
 exact jx_retv c2 hm rfl rfl ⟨rfl, hH2, hF2⟩
def md_X11_copyRow_30_8 : List (Nat × (Nat × Nat)) := [(8, (0, 5))]
theorem ct_X11_copyRow_30_8 (X : Int) (hX : 0 ≤ X ∧ X ≤ 100000000) (M0 : JM) (hH0 : HI X M0)  : JOk shp PJ 1 29 [.inr (.inr (.inl 30)), .inr (.inr (.inl 8))] M0 (jRv (fun M' => HI X M' ∧ Fr md_X11_copyRow_30_8 M0 M' )) := by
 refine ⟨jr_X11_copyRow, pj_X11_copyRow, fun F c1 c2 c3 => ?_⟩
 have hm := pj_X11_copyRow
 change F 0 [some (.inr (.inr (.inl 30))), some (.inr (.inr (.inl 8)))] [] M0
 have hF0 : Fr md_X11_copyRow_30_8 M0 M0 := Fr.rf _ _
 refine jx_load c1 hm rfl rfl rfl rfl ?_
 refine jy_ic c1 hm rfl (by decide) ?_
 refine jx_load c1 hm rfl rfl rfl rfl ?_
 refine jy_ic c1 hm rfl (by decide) ?_
 refine jx_load c1 hm rfl rfl rfl rfl ?_
 refine jx_alen c1 hm (v := 6) rfl sh_30 rfl rfl ?_
 refine jx_load c1 hm rfl rfl rfl rfl ?_
 refine jx_alen c1 hm (v := 6) rfl sh_8 rfl rfl ?_
 refine jx_min c1 hm rfl rfl (fun z1 lz1 uz1 ez1 => ?_)
 obtain ⟨M2, e2, hH2, hF2, n2, _⟩ := mcp hH0 hF0 (c1 := 30) (c2 := 8) (n := z1) (fun _ _ => rfl) (fun j hj => jin_of 0 rfl ⟨by omega, by omega⟩)
 refine jm_acpi c1 hm rfl rfl sh_30 sh_8 ⟨by omega, by omega, by omega⟩ e2 ?_
 exact jx_retv c2 hm rfl rfl ⟨rfl, hH2, hF2⟩
def md_X11_copyRow_32_10 : List (Nat × (Nat × Nat)) := [(10, (0, 35))]
theorem ct_X11_copyRow_32_10 (X : Int) (hX : 0 ≤ X ∧ X ≤ 100000000) (M0 : JM) (hH0 : HI X M0)  : JOk shp PJ 1 29 [.inr (.inr (.inl 32)), .inr (.inr (.inl 10))] M0 (jRv (fun M' => HI X M' ∧ Fr md_X11_copyRow_32_10 M0 M' )) := by
 refine ⟨jr_X11_copyRow, pj_X11_copyRow, fun F c1 c2 c3 => ?_⟩
 have hm := pj_X11_copyRow
 change F 0 [some (.inr (.inr (.inl 32))), some (.inr (.inr (.inl 10)))] [] M0
 have hF0 : Fr md_X11_copyRow_32_10 M0 M0 := Fr.rf _ _
 refine jx_load c1 hm rfl rfl rfl rfl ?_
 refine jy_ic c1 hm rfl (by decide) ?_
 refine jx_load c1 hm rfl rfl rfl rfl ?_
 refine jy_ic c1 hm rfl (by decide) ?_
 refine jx_load c1 hm rfl rfl rfl rfl ?_
 refine jx_alen c1 hm (v := 36) rfl sh_32 rfl rfl ?_
 refine jx_load c1 hm rfl rfl rfl rfl ?_
 refine jx_alen c1 hm (v := 36) rfl sh_10 rfl rfl ?_
 refine jx_min c1 hm rfl rfl (fun z1 lz1 uz1 ez1 => ?_)
 obtain ⟨M2, e2, hH2, hF2, n2, _⟩ := mcp hH0 hF0 (c1 := 32) (c2 := 10) (n := z1) (fun _ _ => rfl) (fun j hj => jin_of 0 rfl ⟨by omega, by omega⟩)
 refine jm_acpi c1 hm rfl rfl sh_32 sh_10 ⟨by omega, by omega, by omega⟩ e2 ?_
 exact jx_retv c2 hm rfl rfl ⟨rfl, hH2, hF2⟩
def md_X11_copyRow_33_11 : List (Nat × (Nat × Nat)) := [(11, (0, 5))]
theorem ct_X11_copyRow_33_11 (X : Int) (hX : 0 ≤ X ∧ X ≤ 100000000) (M0 : JM) (hH0 : HI X M0)  : JOk shp PJ 1 29 [.inr (.inr (.inl 33)), .inr (.inr (.inl 11))] M0 (jRv (fun M' => HI X M' ∧ Fr md_X11_copyRow_33_11 M0 M' )) := by
 refine ⟨jr_X11_copyRow, pj_X11_copyRow, fun F c1 c2 c3 => ?_⟩
 have hm := pj_X11_copyRow
 change F 0 [some (.inr (.inr (.inl 33))), some (.inr (.inr (.inl 11)))] [] M0
 have hF0 : Fr md_X11_copyRow_33_11 M0 M0 := Fr.rf _ _
 refine jx_load c1 hm rfl rfl rfl rfl ?_
 refine jy_ic c1 hm rfl (by decide) ?_
 refine jx_load c1 hm rfl rfl rfl rfl ?_
 refine jy_ic c1 hm rfl (by decide) ?_
 refine jx_load c1 hm rfl rfl rfl rfl ?_
 refine jx_alen c1 hm (v := 6) rfl sh_33 rfl rfl ?_
 refine jx_load c1 hm rfl rfl rfl rfl ?_
 refine jx_alen c1 hm (v := 6) rfl sh_11 rfl rfl ?_
 refine jx_min c1 hm rfl rfl (fun z1 lz1 uz1 ez1 => ?_)
 obtain ⟨M2, e2, hH2, hF2, n2, _⟩ := mcp hH0 hF0 (c1 := 33) (c2 := 11) (n := z1) (fun _ _ => rfl) (fun j hj => jin_of 0 rfl ⟨by omega, by omega⟩)
 refine jm_acpi c1 hm rfl rfl sh_33 sh_11 ⟨by omega, by omega, by omega⟩ e2 ?_
 exact jx_retv c2 hm rfl rfl ⟨rfl, hH2, hF2⟩
def md_X11_copyRow_35_13 : List (Nat × (Nat × Nat)) := [(13, (0, 5))]
theorem ct_X11_copyRow_35_13 (X : Int) (hX : 0 ≤ X ∧ X ≤ 100000000) (M0 : JM) (hH0 : HI X M0)  : JOk shp PJ 1 29 [.inr (.inr (.inl 35)), .inr (.inr (.inl 13))] M0 (jRv (fun M' => HI X M' ∧ Fr md_X11_copyRow_35_13 M0 M' )) := by
 refine ⟨jr_X11_copyRow, pj_X11_copyRow, fun F c1 c2 c3 => ?_⟩
 have hm := pj_X11_copyRow
 change F 0 [some (.inr (.inr (.inl 35))), some (.inr (.inr (.inl 13)))] [] M0
 have hF0 : Fr md_X11_copyRow_35_13 M0 M0 := Fr.rf _ _
 refine jx_load c1 hm rfl rfl rfl rfl ?_
 refine jy_ic c1 hm rfl (by decide) ?_
 refine jx_load c1 hm rfl rfl rfl rfl ?_
 refine jy_ic c1 hm rfl (by decide) ?_
 refine jx_load c1 hm rfl rfl rfl rfl ?_
 refine jx_alen c1 hm (v := 6) rfl sh_35 rfl rfl ?_
 refine jx_load c1 hm rfl rfl rfl rfl ?_
 refine jx_alen c1 hm (v := 6) rfl sh_13 rfl rfl ?_
 refine jx_min c1 hm rfl rfl (fun z1 lz1 uz1 ez1 => ?_)
 obtain ⟨M2, e2, hH2, hF2, n2, _⟩ := mcp hH0 hF0 (c1 := 35) (c2 := 13) (n := z1) (fun _ _ => rfl) (fun j hj => jin_of 0 rfl ⟨by omega, by omega⟩)
 refine jm_acpi c1 hm rfl rfl sh_35 sh_13 ⟨by omega, by omega, by omega⟩ e2 ?_
 exact jx_retv c2 hm rfl rfl ⟨rfl, hH2, hF2⟩
def md_X11_copyRow_36_14 : List (Nat × (Nat × Nat)) := [(14, (0, 5))]
theorem ct_X11_copyRow_36_14 (X : Int) (hX : 0 ≤ X ∧ X ≤ 100000000) (M0 : JM) (hH0 : HI X M0)  : JOk shp PJ 1 29 [.inr (.inr (.inl 36)), .inr (.inr (.inl 14))] M0 (jRv (fun M' => HI X M' ∧ Fr md_X11_copyRow_36_14 M0 M' )) := by
 refine ⟨jr_X11_copyRow, pj_X11_copyRow, fun F c1 c2 c3 => ?_⟩
 have hm := pj_X11_copyRow
 change F 0 [some (.inr (.inr (.inl 36))), some (.inr (.inr (.inl 14)))] [] M0
 have hF0 : Fr md_X11_copyRow_36_14 M0 M0 := Fr.rf _ _
 refine jx_load c1 hm rfl rfl rfl rfl ?_
 refine jy_ic c1 hm rfl (by decide) ?_
 refine jx_load c1 hm rfl rfl rfl rfl ?_
 refine jy_ic c1 hm rfl (by decide) ?_
 refine jx_load c1 hm rfl rfl rfl rfl ?_
 refine jx_alen c1 hm (v := 6) rfl sh_36 rfl rfl ?_
 refine jx_load c1 hm rfl rfl rfl rfl ?_
 refine jx_alen c1 hm (v := 6) rfl sh_14 rfl rfl ?_
 refine jx_min c1 hm rfl rfl (fun z1 lz1 uz1 ez1 => ?_)
 obtain ⟨M2, e2, hH2, hF2, n2, _⟩ := mcp hH0 hF0 (c1 := 36) (c2 := 14) (n := z1) (fun _ _ => rfl) (fun j hj => jin_of 0 rfl ⟨by omega, by omega⟩)
 refine jm_acpi c1 hm rfl rfl sh_36 sh_14 ⟨by omega, by omega, by omega⟩ e2 ?_
 exact jx_retv c2 hm rfl rfl ⟨rfl, hH2, hF2⟩
def md_X11_copyRow_37_15 : List (Nat × (Nat × Nat)) := [(15, (0, 5))]
theorem ct_X11_copyRow_37_15 (X : Int) (hX : 0 ≤ X ∧ X ≤ 100000000) (M0 : JM) (hH0 : HI X M0)  : JOk shp PJ 1 29 [.inr (.inr (.inl 37)), .inr (.inr (.inl 15))] M0 (jRv (fun M' => HI X M' ∧ Fr md_X11_copyRow_37_15 M0 M' )) := by
 refine ⟨jr_X11_copyRow, pj_X11_copyRow, fun F c1 c2 c3 => ?_⟩
 have hm := pj_X11_copyRow
 change F 0 [some (.inr (.inr (.inl 37))), some (.inr (.inr (.inl 15)))] [] M0
 have hF0 : Fr md_X11_copyRow_37_15 M0 M0 := Fr.rf _ _
 refine jx_load c1 hm rfl rfl rfl rfl ?_
 refine jy_ic c1 hm rfl (by decide) ?_
 refine jx_load c1 hm rfl rfl rfl rfl ?_
 refine jy_ic c1 hm rfl (by decide) ?_
 refine jx_load c1 hm rfl rfl rfl rfl ?_
 refine jx_alen c1 hm (v := 6) rfl sh_37 rfl rfl ?_
 refine jx_load c1 hm rfl rfl rfl rfl ?_
 refine jx_alen c1 hm (v := 6) rfl sh_15 rfl rfl ?_
 refine jx_min c1 hm rfl rfl (fun z1 lz1 uz1 ez1 => ?_)
 obtain ⟨M2, e2, hH2, hF2, n2, _⟩ := mcp hH0 hF0 (c1 := 37) (c2 := 15) (n := z1) (fun _ _ => rfl) (fun j hj => jin_of 0 rfl ⟨by omega, by omega⟩)
 refine jm_acpi c1 hm rfl rfl sh_37 sh_15 ⟨by omega, by omega, by omega⟩ e2 ?_
 exact jx_retv c2 hm rfl rfl ⟨rfl, hH2, hF2⟩
def md_X11_copyRow_38_16 : List (Nat × (Nat × Nat)) := [(16, (0, 5))]
theorem ct_X11_copyRow_38_16 (X : Int) (hX : 0 ≤ X ∧ X ≤ 100000000) (M0 : JM) (hH0 : HI X M0)  : JOk shp PJ 1 29 [.inr (.inr (.inl 38)), .inr (.inr (.inl 16))] M0 (jRv (fun M' => HI X M' ∧ Fr md_X11_copyRow_38_16 M0 M' )) := by
 refine ⟨jr_X11_copyRow, pj_X11_copyRow, fun F c1 c2 c3 => ?_⟩
 have hm := pj_X11_copyRow
 change F 0 [some (.inr (.inr (.inl 38))), some (.inr (.inr (.inl 16)))] [] M0
 have hF0 : Fr md_X11_copyRow_38_16 M0 M0 := Fr.rf _ _
 refine jx_load c1 hm rfl rfl rfl rfl ?_
 refine jy_ic c1 hm rfl (by decide) ?_
 refine jx_load c1 hm rfl rfl rfl rfl ?_
 refine jy_ic c1 hm rfl (by decide) ?_
 refine jx_load c1 hm rfl rfl rfl rfl ?_
 refine jx_alen c1 hm (v := 6) rfl sh_38 rfl rfl ?_
 refine jx_load c1 hm rfl rfl rfl rfl ?_
 refine jx_alen c1 hm (v := 6) rfl sh_16 rfl rfl ?_
 refine jx_min c1 hm rfl rfl (fun z1 lz1 uz1 ez1 => ?_)
 obtain ⟨M2, e2, hH2, hF2, n2, _⟩ := mcp hH0 hF0 (c1 := 38) (c2 := 16) (n := z1) (fun _ _ => rfl) (fun j hj => jin_of 0 rfl ⟨by omega, by omega⟩)
 refine jm_acpi c1 hm rfl rfl sh_38 sh_16 ⟨by omega, by omega, by omega⟩ e2 ?_
 exact jx_retv c2 hm rfl rfl ⟨rfl, hH2, hF2⟩
def md_X11_copyRow_39_17 : List (Nat × (Nat × Nat)) := [(17, (0, 35))]
theorem ct_X11_copyRow_39_17 (X : Int) (hX : 0 ≤ X ∧ X ≤ 100000000) (M0 : JM) (hH0 : HI X M0)  : JOk shp PJ 1 29 [.inr (.inr (.inl 39)), .inr (.inr (.inl 17))] M0 (jRv (fun M' => HI X M' ∧ Fr md_X11_copyRow_39_17 M0 M' )) := by
 refine ⟨jr_X11_copyRow, pj_X11_copyRow, fun F c1 c2 c3 => ?_⟩
 have hm := pj_X11_copyRow
 change F 0 [some (.inr (.inr (.inl 39))), some (.inr (.inr (.inl 17)))] [] M0
 have hF0 : Fr md_X11_copyRow_39_17 M0 M0 := Fr.rf _ _
 refine jx_load c1 hm rfl rfl rfl rfl ?_
 refine jy_ic c1 hm rfl (by decide) ?_
 refine jx_load c1 hm rfl rfl rfl rfl ?_
 refine jy_ic c1 hm rfl (by decide) ?_
 refine jx_load c1 hm rfl rfl rfl rfl ?_
 refine jx_alen c1 hm (v := 36) rfl sh_39 rfl rfl ?_
 refine jx_load c1 hm rfl rfl rfl rfl ?_
 refine jx_alen c1 hm (v := 36) rfl sh_17 rfl rfl ?_
 refine jx_min c1 hm rfl rfl (fun z1 lz1 uz1 ez1 => ?_)
 obtain ⟨M2, e2, hH2, hF2, n2, _⟩ := mcp hH0 hF0 (c1 := 39) (c2 := 17) (n := z1) (fun _ _ => rfl) (fun j hj => jin_of 0 rfl ⟨by omega, by omega⟩)
 refine jm_acpi c1 hm rfl rfl sh_39 sh_17 ⟨by omega, by omega, by omega⟩ e2 ?_
 exact jx_retv c2 hm rfl rfl ⟨rfl, hH2, hF2⟩
def md_X11_copyRow_40_18 : List (Nat × (Nat × Nat)) := [(18, (0, 35))]
theorem ct_X11_copyRow_40_18 (X : Int) (hX : 0 ≤ X ∧ X ≤ 100000000) (M0 : JM) (hH0 : HI X M0)  : JOk shp PJ 1 29 [.inr (.inr (.inl 40)), .inr (.inr (.inl 18))] M0 (jRv (fun M' => HI X M' ∧ Fr md_X11_copyRow_40_18 M0 M' )) := by
 refine ⟨jr_X11_copyRow, pj_X11_copyRow, fun F c1 c2 c3 => ?_⟩
 have hm := pj_X11_copyRow
 change F 0 [some (.inr (.inr (.inl 40))), some (.inr (.inr (.inl 18)))] [] M0
 have hF0 : Fr md_X11_copyRow_40_18 M0 M0 := Fr.rf _ _
 refine jx_load c1 hm rfl rfl rfl rfl ?_
 refine jy_ic c1 hm rfl (by decide) ?_
 refine jx_load c1 hm rfl rfl rfl rfl ?_
 refine jy_ic c1 hm rfl (by decide) ?_
 refine jx_load c1 hm rfl rfl rfl rfl ?_
 refine jx_alen c1 hm (v := 36) rfl sh_40 rfl rfl ?_
 refine jx_load c1 hm rfl rfl rfl rfl ?_
 refine jx_alen c1 hm (v := 36) rfl sh_18 rfl rfl ?_
 refine jx_min c1 hm rfl rfl (fun z1 lz1 uz1 ez1 => ?_)
 obtain ⟨M2, e2, hH2, hF2, n2, _⟩ := mcp hH0 hF0 (c1 := 40) (c2 := 18) (n := z1) (fun _ _ => rfl) (fun j hj => jin_of 0 rfl ⟨by omega, by omega⟩)
 refine jm_acpi c1 hm rfl rfl sh_40 sh_18 ⟨by omega, by omega, by omega⟩ e2 ?_
 exact jx_retv c2 hm rfl rfl ⟨rfl, hH2, hF2⟩
def md_X11_copyRow_41_19 : List (Nat × (Nat × Nat)) := [(19, (0, 35))]
theorem ct_X11_copyRow_41_19 (X : Int) (hX : 0 ≤ X ∧ X ≤ 100000000) (M0 : JM) (hH0 : HI X M0)  : JOk shp PJ 1 29 [.inr (.inr (.inl 41)), .inr (.inr (.inl 19))] M0 (jRv (fun M' => HI X M' ∧ Fr md_X11_copyRow_41_19 M0 M' )) := by
 refine ⟨jr_X11_copyRow, pj_X11_copyRow, fun F c1 c2 c3 => ?_⟩
 have hm := pj_X11_copyRow
 change F 0 [some (.inr (.inr (.inl 41))), some (.inr (.inr (.inl 19)))] [] M0
 have hF0 : Fr md_X11_copyRow_41_19 M0 M0 := Fr.rf _ _
 refine jx_load c1 hm rfl rfl rfl rfl ?_
 refine jy_ic c1 hm rfl (by decide) ?_
 refine jx_load c1 hm rfl rfl rfl rfl ?_
 refine jy_ic c1 hm rfl (by decide) ?_
 refine jx_load c1 hm rfl rfl rfl rfl ?_
 refine jx_alen c1 hm (v := 36) rfl sh_41 rfl rfl ?_
 refine jx_load c1 hm rfl rfl rfl rfl ?_
 refine jx_alen c1 hm (v := 36) rfl sh_19 rfl rfl ?_
 refine jx_min c1 hm rfl rfl (fun z1 lz1 uz1 ez1 => ?_)
 obtain ⟨M2, e2, hH2, hF2, n2, _⟩ := mcp hH0 hF0 (c1 := 41) (c2 := 19) (n := z1) (fun _ _ => rfl) (fun j hj => jin_of 0 rfl ⟨by omega, by omega⟩)
 refine jm_acpi c1 hm rfl rfl sh_41 sh_19 ⟨by omega, by omega, by omega⟩ e2 ?_
 exact jx_retv c2 hm rfl rfl ⟨rfl, hH2, hF2⟩
def md_X8_takeAll_12_34 : List (Nat × (Nat × Nat)) := [(12, (7, 7)), (13, (0, 5)), (14, (0, 5)), (15, (0, 5)), (16, (0, 5)), (17, (0, 35)), (18, (0, 35)), (19, (0, 35))]
theorem ct_X8_takeAll_12_34 (X : Int) (hX : 0 ≤ X ∧ X ≤ 100000000) (M0 : JM) (hH0 : HI X M0)  : JOk shp PJ 2 264 [.inr (.inr (.inl 12)), .inr (.inr (.inl 34))] M0 (jRv (fun M' => HI X M' ∧ Fr md_X8_takeAll_12_34 M0 M' )) := by
 refine ⟨jr_X8_takeAll, pj_X8_takeAll, fun F c1 c2 c3 => ?_⟩
 have hm := pj_X8_takeAll
 change F 0 [some (.inr (.inr (.inl 12))), some (.inr (.inr (.inl 34)))] [] M0
 have hF0 : Fr md_X8_takeAll_12_34 M0 M0 := Fr.rf _ _
 refine jx_load c1 hm rfl rfl rfl rfl ?_
 refine jx_getr c1 hm rfl sh_34 rfl ?_
 refine jx_load c1 hm rfl rfl rfl rfl ?_
 refine jx_getr c1 hm rfl sh_12 rfl ?_
 refine jt_v c3 hm rfl rfl pj_X11_copyRow rfl rfl rfl ((ct_X11_copyRow_35_13 X (by omega) M0 hH0 ).le (by decide)) (fun M1 ⟨hH1, hR1⟩ => ?_)
 have hF1 := hF0.tr hR1 (by decide +kernel)
 refine jx_load c1 hm rfl rfl rfl rfl ?_
 refine jx_getr c1 hm rfl sh_34 rfl ?_
 refine jx_load c1 hm rfl rfl rfl rfl ?_
 refine jx_getr c1 hm rfl sh_12 rfl ?_
 refine jt_v c3 hm rfl rfl pj_X11_copyRow rfl rfl rfl ((ct_X11_copyRow_36_14 X (by omega) M1 hH1 ).le (by decide)) (fun M2 ⟨hH2, hR2⟩ => ?_)
 have hF2 := hF1.tr hR2 (by decide +kernel)
 refine jx_load c1 hm rfl rfl rfl rfl ?_
 refine jx_getr c1 hm rfl sh_34 rfl ?_
 refine jx_load c1 hm rfl rfl rfl rfl ?_
 refine jx_getr c1 hm rfl sh_12 rfl ?_
 refine jt_v c3 hm rfl rfl pj_X11_copyRow rfl rfl rfl ((ct_X11_copyRow_37_15 X (by omega) M2 hH2 ).le (by decide)) (fun M3 ⟨hH3, hR3⟩ => ?_)
 have hF3 := hF2.tr hR3 (by decide +kernel)
 refine jx_load c1 hm rfl rfl rfl rfl ?_
 refine jx_getr c1 hm rfl sh_34 rfl ?_
 refine jx_load c1 hm rfl rfl rfl rfl ?_
 refine jx_getr c1 hm rfl sh_12 rfl ?_
 refine jt_v c3 hm rfl rfl pj_X11_copyRow rfl rfl rfl ((ct_X11_copyRow_38_16 X (by omega) M3 hH3 ).le (by decide)) (fun M4 ⟨hH4, hR4⟩ => ?_)
 have hF4 := hF3.tr hR4 (by decide +kernel)
 refine jx_load c1 hm rfl rfl rfl rfl ?_
 refine jx_getr c1 hm rfl sh_34 rfl ?_
 refine jx_load c1 hm rfl rfl rfl rfl ?_
 refine jx_getr c1 hm rfl sh_12 rfl ?_
 refine jt_v c3 hm rfl rfl pj_X11_copyRow rfl rfl rfl ((ct_X11_copyRow_39_17 X (by omega) M4 hH4 ).le (by decide)) (fun M5 ⟨hH5, hR5⟩ => ?_)
 have hF5 := hF4.tr hR5 (by decide +kernel)
 refine jx_load c1 hm rfl rfl rfl rfl ?_
 refine jx_getr c1 hm rfl sh_34 rfl ?_
 refine jx_load c1 hm rfl rfl rfl rfl ?_
 refine jx_getr c1 hm rfl sh_12 rfl ?_
 refine jt_v c3 hm rfl rfl pj_X11_copyRow rfl rfl rfl ((ct_X11_copyRow_40_18 X (by omega) M5 hH5 ).le (by decide)) (fun M6 ⟨hH6, hR6⟩ => ?_)
 have hF6 := hF5.tr hR6 (by decide +kernel)
 refine jx_load c1 hm rfl rfl rfl rfl ?_
 refine jx_getr c1 hm rfl sh_34 rfl ?_
 refine jx_load c1 hm rfl rfl rfl rfl ?_
 refine jx_getr c1 hm rfl sh_12 rfl ?_
 refine jt_v c3 hm rfl rfl pj_X11_copyRow rfl rfl rfl ((ct_X11_copyRow_41_19 X (by omega) M6 hH6 ).le (by decide)) (fun M7 ⟨hH7, hR7⟩ => ?_)
 have hF7 := hF6.tr hR7 (by decide +kernel)
 refine jx_load c1 hm rfl rfl rfl rfl ?_
 refine jx_load c1 hm rfl rfl rfl rfl ?_
 obtain ⟨z8, k9, lz8, uz8⟩ := hH7.ld (c := 34) (i := 7) (A := (-2147483648)) (B := 2147483647) rfl
 refine jx_geti c1 hm rfl sh_34 rfl k9 ?_
 obtain ⟨M10, e10, hH10, hF10, k10, n10, _⟩ := mup hH7 hF7 (c := 12) (i := 7) (v := z8) (A := (-2147483648)) (B := 2147483647) rfl ⟨by omega, by omega⟩ (jin_of 0 rfl ⟨by omega, by omega⟩)
 refine jm_puti c1 hm rfl sh_12 rfl e10 ?_
 exact jx_retv c2 hm rfl rfl ⟨rfl, hH10, hF10⟩
def md_X11_copyRow_43_21 : List (Nat × (Nat × Nat)) := [(21, (0, 39))]
theorem ct_X11_copyRow_43_21 (X : Int) (hX : 0 ≤ X ∧ X ≤ 100000000) (M0 : JM) (hH0 : HI X M0)  : JOk shp PJ 1 29 [.inr (.inr (.inl 43)), .inr (.inr (.inl 21))] M0 (jRv (fun M' => HI X M' ∧ Fr md_X11_copyRow_43_21 M0 M' )) := by
 refine ⟨jr_X11_copyRow, pj_X11_copyRow, fun F c1 c2 c3 => ?_⟩
 have hm := pj_X11_copyRow
 change F 0 [some (.inr (.inr (.inl 43))), some (.inr (.inr (.inl 21)))] [] M0
 have hF0 : Fr md_X11_copyRow_43_21 M0 M0 := Fr.rf _ _
 refine jx_load c1 hm rfl rfl rfl rfl ?_
 refine jy_ic c1 hm rfl (by decide) ?_
 refine jx_load c1 hm rfl rfl rfl rfl ?_
 refine jy_ic c1 hm rfl (by decide) ?_
 refine jx_load c1 hm rfl rfl rfl rfl ?_
 refine jx_alen c1 hm (v := 40) rfl sh_43 rfl rfl ?_
 refine jx_load c1 hm rfl rfl rfl rfl ?_
 refine jx_alen c1 hm (v := 40) rfl sh_21 rfl rfl ?_
 refine jx_min c1 hm rfl rfl (fun z1 lz1 uz1 ez1 => ?_)
 obtain ⟨M2, e2, hH2, hF2, n2, _⟩ := mcp hH0 hF0 (c1 := 43) (c2 := 21) (n := z1) (fun _ _ => rfl) (fun j hj => jin_of 0 rfl ⟨by omega, by omega⟩)
 refine jm_acpi c1 hm rfl rfl sh_43 sh_21 ⟨by omega, by omega, by omega⟩ e2 ?_
 exact jx_retv c2 hm rfl rfl ⟨rfl, hH2, hF2⟩
def md_X7_takeAll_20_42 : List (Nat × (Nat × Nat)) := [(20, (2, 2)), (20, (3, 3)), (21, (0, 39))]
theorem ct_X7_takeAll_20_42 (X : Int) (hX : 0 ≤ X ∧ X ≤ 100000000) (M0 : JM) (hH0 : HI X M0)  : JOk shp PJ 2 260 [.inr (.inr (.inl 20)), .inr (.inr (.inl 42))] M0 (jRv (fun M' => HI X M' ∧ Fr md_X7_takeAll_20_42 M0 M' )) := by
 refine ⟨jr_X7_takeAll, pj_X7_takeAll, fun F c1 c2 c3 => ?_⟩
 have hm := pj_X7_takeAll
 change F 0 [some (.inr (.inr (.inl 20))), some (.inr (.inr (.inl 42)))] [] M0
 have hF0 : Fr md_X7_takeAll_20_42 M0 M0 := Fr.rf _ _
 refine jx_load c1 hm rfl rfl rfl rfl ?_
 refine jx_getr c1 hm rfl sh_42 rfl ?_
 refine jx_load c1 hm rfl rfl rfl rfl ?_
 refine jx_getr c1 hm rfl sh_20 rfl ?_
 refine jt_v c3 hm rfl rfl pj_X11_copyRow rfl rfl rfl ((ct_X11_copyRow_43_21 X (by omega) M0 hH0 ).le (by decide)) (fun M1 ⟨hH1, hR1⟩ => ?_)
 have hF1 := hF0.tr hR1 (by decide +kernel)
 refine jx_load c1 hm rfl rfl rfl rfl ?_
 refine jx_load c1 hm rfl rfl rfl rfl ?_
 obtain ⟨z2, k3, lz2, uz2⟩ := hH1.ld (c := 42) (i := 2) (A := 0) (B := 40) (bs_21_1 _ _ (by omega) (by omega))
 refine jx_geti c1 hm rfl sh_42 rfl k3 ?_
 obtain ⟨M4, e4, hH4, hF4, k4, n4, _⟩ := mup hH1 hF1 (c := 20) (i := 2) (v := z2) (A := 0) (B := 40) (bs_21_1 _ _ (by omega) (by omega)) ⟨by omega, by omega⟩ (jin_of 0 rfl ⟨by omega, by omega⟩)
 refine jm_puti c1 hm rfl sh_20 rfl e4 ?_
 refine jx_load c1 hm rfl rfl rfl rfl ?_
 refine jx_load c1 hm rfl rfl rfl rfl ?_
 obtain ⟨z5, k6, lz5, uz5⟩ := hH4.ld (c := 42) (i := 3) (A := 0) (B := 20) (bs_21_2 _ _ (by omega) (by omega))
 refine jx_geti c1 hm rfl sh_42 rfl k6 ?_
 obtain ⟨M7, e7, hH7, hF7, k7, n7, _⟩ := mup hH4 hF4 (c := 20) (i := 3) (v := z5) (A := 0) (B := 20) (bs_21_2 _ _ (by omega) (by omega)) ⟨by omega, by omega⟩ (jin_of 1 rfl ⟨by omega, by omega⟩)
 refine jm_puti c1 hm rfl sh_20 rfl e7 ?_
 exact jx_retv c2 hm rfl rfl ⟨rfl, hH7, hF7⟩
def md_X2_takeAll_5_27 : List (Nat × (Nat × Nat)) := [(5, (6, 6)), (5, (7, 7)), (6, (0, 2)), (7, (0, 17)), (8, (0, 5)), (10, (0, 35)), (11, (0, 5)), (12, (7, 7)), (13, (0, 5)), (14, (0, 5)), (15, (0, 5)), (16, (0, 5)), (17, (0, 35)), (18, (0, 35)), (19, (0, 35)), (20, (2, 2)), (20, (3, 3)), (21, (0, 39))]
theorem ct_X2_takeAll_5_27 (X : Int) (hX : 0 ≤ X ∧ X ≤ 100000000) (M0 : JM) (hH0 : HI X M0) (hp0 : 0 ≤ M0.1 27 6 ∧ 0 ≤ M0.1 27 7) : JOk shp PJ 3 231 [.inr (.inr (.inl 5)), .inr (.inr (.inl 27))] M0 (jRv (fun M' => HI X M' ∧ Fr md_X2_takeAll_5_27 M0 M' )) := by
 refine ⟨jr_X2_takeAll, pj_X2_takeAll, fun F c1 c2 c3 => ?_⟩
 have hm := pj_X2_takeAll
 change F 0 [some (.inr (.inr (.inl 5))), some (.inr (.inr (.inl 27)))] [] M0
 have hF0 : Fr md_X2_takeAll_5_27 M0 M0 := Fr.rf _ _
 obtain ⟨z1, k2, lz1, uz1⟩ := hH0.ld (c := 27) (i := 6) (A := (-1)) (B := 9) (bs_23_1 _ _ (by omega) (by omega))
 obtain ⟨z3, k4, lz3, uz3⟩ := hH0.ld (c := 27) (i := 7) (A := (-1)) (B := 9) (bs_23_1 _ _ (by omega) (by omega))
 refine jx_load c1 hm rfl rfl rfl rfl ?_
 refine jx_getr c1 hm rfl sh_27 rfl ?_
 refine jx_load c1 hm rfl rfl rfl rfl ?_
 refine jx_getr c1 hm rfl sh_5 rfl ?_
 refine jt_v c3 hm rfl rfl pj_X11_copyRow rfl rfl rfl ((ct_X11_copyRow_28_6 X (by omega) M0 hH0 ).le (by decide)) (fun M5 ⟨hH5, hR5⟩ => ?_)
 have hF5 := hF0.tr hR5 (by decide +kernel)
 refine jx_load c1 hm rfl rfl rfl rfl ?_
 refine jx_getr c1 hm rfl sh_27 rfl ?_
 refine jy_ic c1 hm rfl (by decide) ?_
 refine jx_load c1 hm rfl rfl rfl rfl ?_
 refine jx_getr c1 hm rfl sh_5 rfl ?_
 refine jy_ic c1 hm rfl (by decide) ?_
 refine jy_bp c1 hm rfl (by decide) ?_
 obtain ⟨M6, e6, hH6, hF6, n6⟩ := mcl hH5 hF5 (c1 := 29) (c2 := 7) (n := 18) rfl
 refine jm_acpl c1 hm rfl rfl sh_29 sh_7 ⟨by omega, by omega, by omega⟩ e6 ?_
 refine jx_load c1 hm rfl rfl rfl rfl ?_
 refine jx_getr c1 hm rfl sh_27 rfl ?_
 refine jx_load c1 hm rfl rfl rfl rfl ?_
 refine jx_getr c1 hm rfl sh_5 rfl ?_
 refine jt_v c3 hm rfl rfl pj_X11_copyRow rfl rfl rfl ((ct_X11_copyRow_30_8 X (by omega) M6 hH6 ).le (by decide)) (fun M7 ⟨hH7, hR7⟩ => ?_)
 have hF7 := hF6.tr hR7 (by decide +kernel)
 refine jx_load c1 hm rfl rfl rfl rfl ?_
 refine jx_getr c1 hm rfl sh_27 rfl ?_
 refine jx_load c1 hm rfl rfl rfl rfl ?_
 refine jx_getr c1 hm rfl sh_5 rfl ?_
 refine jt_v c3 hm rfl rfl pj_X11_copyRow rfl rfl rfl ((ct_X11_copyRow_32_10 X (by omega) M7 hH7 ).le (by decide)) (fun M8 ⟨hH8, hR8⟩ => ?_)
 have hF8 := hF7.tr hR8 (by decide +kernel)
 refine jx_load c1 hm rfl rfl rfl rfl ?_
 refine jx_getr c1 hm rfl sh_27 rfl ?_
 refine jx_load c1 hm rfl rfl rfl rfl ?_
 refine jx_getr c1 hm rfl sh_5 rfl ?_
 refine jt_v c3 hm rfl rfl pj_X11_copyRow rfl rfl rfl ((ct_X11_copyRow_33_11 X (by omega) M8 hH8 ).le (by decide)) (fun M9 ⟨hH9, hR9⟩ => ?_)
 have hF9 := hF8.tr hR9 (by decide +kernel)
 refine jx_load c1 hm rfl rfl rfl rfl ?_
 refine jx_load c1 hm rfl rfl rfl rfl ?_
 have k10 : M9.1 27 6 = z1 := (hR9 27 6 (by decide +kernel)).trans ((hR8 27 6 (by decide +kernel)).trans ((hR7 27 6 (by decide +kernel)).trans ((n6 27 6).trans ((hR5 27 6 (by decide +kernel)).trans k2))))
 refine jx_geti c1 hm rfl sh_27 rfl k10 ?_
 obtain ⟨M11, e11, hH11, hF11, k11, n11, _⟩ := mup hH9 hF9 (c := 5) (i := 6) (v := z1) (A := 0) (B := 9) (bs_20_1 _ _ (by omega) (by omega)) ⟨by omega, by omega⟩ (jin_of 0 rfl ⟨by omega, by omega⟩)
 refine jm_puti c1 hm rfl sh_5 rfl e11 ?_
 refine jx_load c1 hm rfl rfl rfl rfl ?_
 refine jx_load c1 hm rfl rfl rfl rfl ?_
 have k12 : M11.1 27 7 = z3 := (n11 27 7 (fun h => absurd h.1 (by decide))).trans ((hR9 27 7 (by decide +kernel)).trans ((hR8 27 7 (by decide +kernel)).trans ((hR7 27 7 (by decide +kernel)).trans ((n6 27 7).trans ((hR5 27 7 (by decide +kernel)).trans k4)))))
 refine jx_geti c1 hm rfl sh_27 rfl k12 ?_
 obtain ⟨M13, e13, hH13, hF13, k13, n13, _⟩ := mup hH11 hF11 (c := 5) (i := 7) (v := z3) (A := 0) (B := 9) (bs_20_1 _ _ (by omega) (by omega)) ⟨by omega, by omega⟩ (jin_of 1 rfl ⟨by omega, by omega⟩)
 refine jm_puti c1 hm rfl sh_5 rfl e13 ?_
 refine jx_load c1 hm rfl rfl rfl rfl ?_
 refine jx_getr c1 hm rfl sh_5 rfl ?_
 refine jx_load c1 hm rfl rfl rfl rfl ?_
 refine jx_getr c1 hm rfl sh_27 rfl ?_
 refine jv_v c3 hm rfl pj_X8_takeAll rfl rfl ⟨_, _, _, rfl, sh_12⟩ rfl ((ct_X8_takeAll_12_34 X (by omega) M13 hH13 ).le (by decide)) (fun M14 ⟨hH14, hR14⟩ => ?_)
 have hF14 := hF13.tr hR14 (by decide +kernel)
 refine jx_load c1 hm rfl rfl rfl rfl ?_
 refine jx_getr c1 hm rfl sh_5 rfl ?_
 refine jx_load c1 hm rfl rfl rfl rfl ?_
 refine jx_getr c1 hm rfl sh_27 rfl ?_
 refine jv_v c3 hm rfl pj_X7_takeAll rfl rfl ⟨_, _, _, rfl, sh_20⟩ rfl ((ct_X7_takeAll_20_42 X (by omega) M14 hH14 ).le (by decide)) (fun M15 ⟨hH15, hR15⟩ => ?_)
 have hF15 := hF14.tr hR15 (by decide +kernel)
 exact jx_retv c2 hm rfl rfl ⟨rfl, hH15, hF15⟩
def md_X4_forget_55 : List (Nat × (Nat × Nat)) := [(55, (2, 2))]
theorem ct_X4_forget_55 (X : Int) (hX : 0 ≤ X ∧ X ≤ 100000000) (M0 : JM) (hH0 : HI X M0)  : JOk shp PJ 1 238 [.inr (.inr (.inl 55))] M0 (jRv (fun M' => HI X M' ∧ Fr md_X4_forget_55 M0 M' )) := by
 refine ⟨jr_X4_forget, pj_X4_forget, fun F c1 c2 c3 => ?_⟩
 have hm := pj_X4_forget
 change F 0 [some (.inr (.inr (.inl 55)))] [] M0
 have hF0 : Fr md_X4_forget_55 M0 M0 := Fr.rf _ _
 refine jx_load c1 hm rfl rfl rfl rfl ?_
 refine jy_ic c1 hm rfl (by decide) ?_
 obtain ⟨M1, e1, hH1, hF1, k1, n1, _⟩ := mup hH0 hF0 (c := 55) (i := 2) (v := 0) (A := 0) (B := 8) (bs_24_2 _ _ (by omega) (by omega)) ⟨by omega, by omega⟩ (jin_of 0 rfl ⟨by omega, by omega⟩)
 refine jm_puti c1 hm rfl sh_55 rfl e1 ?_
 exact jx_retv c2 hm rfl rfl ⟨rfl, hH1, hF1⟩
def md_X11_duchy_0 : List (Nat × (Nat × Nat)) := [(0, (2, 2)), (0, (3, 3)), (1, (2, 2)), (1, (3, 3)), (1, (4, 4)), (1, (5, 5)), (1, (6, 6)), (1, (7, 7)), (1, (9, 9)), (1, (11, 11)), (1, (12, 12)), (1, (13, 13)), (5, (6, 6)), (5, (7, 7)), (6, (0, 2)), (7, (0, 17)), (8, (0, 5)), (10, (0, 35)), (11, (0, 5)), (12, (7, 7)), (13, (0, 5)), (14, (0, 5)), (15, (0, 5)), (16, (0, 5)), (17, (0, 35)), (18, (0, 35)), (19, (0, 35)), (20, (2, 2)), (20, (3, 3)), (21, (0, 39)), (27, (6, 6)), (27, (7, 7)), (28, (0, 2)), (30, (0, 5)), (31, (0, 5)), (32, (0, 35)), (33, (0, 5)), (34, (7, 7)), (35, (0, 5)), (36, (0, 5)), (37, (0, 5)), (38, (0, 5)), (39, (0, 35)), (40, (0, 35)), (41, (0, 35)), (42, (2, 2)), (42, (3, 3)), (55, (2, 2))]
theorem ct_X11_duchy_0 (X : Int) (hX : 0 ≤ X ∧ X ≤ 100000000) (M0 : JM) (hH0 : HI X M0)  : JOk shp PJ 7 34 [.inr (.inr (.inl 0))] M0 (jRi (fun v M' => HI X M' ∧ Fr md_X11_duchy_0 M0 M' ∧ (-941) ≤ v ∧ v ≤ 900 )) := by
 refine ⟨jr_X11_duchy, pj_X11_duchy, fun F c1 c2 c3 => ?_⟩
 have hm := pj_X11_duchy
 change F 0 [some (.inr (.inr (.inl 0))), none] [] M0
 have hF0 : Fr md_X11_duchy_0 M0 M0 := Fr.rf _ _
 refine jx_load c1 hm rfl rfl rfl rfl ?_
 refine jy_sp c1 hm rfl (by decide) ?_
 refine jv_v c3 hm rfl pj_X11_startTokens rfl rfl ⟨_, _, _, rfl, sh_0⟩ rfl ((ct_X11_startTokens_0 X (by omega) M0 hH0 900 ⟨by omega, by omega⟩).le (by decide)) (fun M1 ⟨hH1, hR1⟩ => ?_)
 have hF1 := hF0.tr hR1 (by decide +kernel)
 refine jx_load c1 hm rfl rfl rfl rfl ?_
 refine jx_getr c1 hm rfl sh_0 rfl ?_
 refine jx_load c1 hm rfl rfl rfl rfl ?_
 refine jx_getr c1 hm rfl sh_0 rfl ?_
 refine jv_i c3 hm rfl pj_X2_readLines rfl rfl ⟨_, _, _, rfl, sh_27⟩ rfl ((ct_X2_readLines_27_1 X (by omega) M1 hH1 ).le (by decide)) (fun z2 M4 ⟨hH4, hR4, lz2, uz2, p3⟩ => ?_)
 have hF4 := hF1.tr hR4 (by decide +kernel)
 obtain ⟨z5, k6, lz5, uz5⟩ := hH4.ld (c := 27) (i := 6) (A := (-1)) (B := 9) (bs_23_1 _ _ (by omega) (by omega))
 obtain ⟨z7, k8, lz7, uz7⟩ := hH4.ld (c := 27) (i := 7) (A := (-1)) (B := 9) (bs_23_1 _ _ (by omega) (by omega))
 refine jx_stor c1 hm (L' := [some (.inr (.inr (.inl 0))), some (.inl z2)]) rfl rfl rfl rfl rfl ?_
 refine jx_load c1 hm rfl rfl rfl rfl ?_
 refine jx_load c1 hm rfl rfl rfl rfl ?_
 refine jx_getr c1 hm rfl sh_0 rfl ?_
 obtain ⟨z9, k10, lz9, uz9⟩ := hH4.ld (c := 1) (i := 12) (A := 0) (B := 4) (bs_19_8 _ _ (by omega) (by omega))
 refine jx_geti c1 hm rfl sh_1 rfl k10 ?_
 obtain ⟨M11, e11, hH11, hF11, k11, n11, _⟩ := mup hH4 hF4 (c := 0) (i := 3) (v := z9) (A := (-2147483648)) (B := 2147483647) (bs_18_2 _ _ (by omega) (by omega)) ⟨by omega, by omega⟩ (jin_of 1 rfl ⟨by omega, by omega⟩)
 refine jm_puti c1 hm rfl sh_0 rfl e11 ?_
 refine jx_load c1 hm rfl rfl rfl rfl ?_
 refine jx_getr c1 hm rfl sh_0 rfl ?_
 have k12 : M11.1 1 12 = z9 := (n11 1 12 (fun h => absurd h.1 (by decide))).trans k10
 refine jx_geti c1 hm rfl sh_1 rfl k12 ?_
 refine jz_eq c1 hm 50 rfl rfl (fun h13 => ?_) (fun h13 => ?_)
 ·
  refine jx_load c1 hm rfl rfl rfl rfl ?_
  refine jx_getr c1 hm rfl sh_0 rfl ?_
  refine jx_load c1 hm rfl rfl rfl rfl ?_
  refine jx_getr c1 hm rfl sh_0 rfl ?_
  have k14 : M11.1 27 6 = z5 := (n11 27 6 (fun h => absurd h.1 (by decide))).trans k6
  have k15 : M11.1 27 7 = z7 := (n11 27 7 (fun h => absurd h.1 (by decide))).trans k8
  refine jv_v c3 hm rfl pj_X2_takeAll rfl rfl ⟨_, _, _, rfl, sh_5⟩ rfl ((ct_X2_takeAll_5_27 X (by omega) M11 hH11 (by omega)).le (by decide)) (fun M16 ⟨hH16, hR16⟩ => ?_)
  have hF16 := hF11.tr hR16 (by decide +kernel)
  refine jx_load c1 hm rfl rfl rfl rfl ?_
  refine jx_getr c1 hm rfl sh_0 rfl ?_
  refine jv_v c3 hm rfl pj_X4_forget rfl rfl ⟨_, _, _, rfl, sh_55⟩ rfl ((ct_X4_forget_55 X (by omega) M16 hH16 ).le (by decide)) (fun M17 ⟨hH17, hR17⟩ => ?_)
  have hF17 := hF16.tr hR17 (by decide +kernel)
  refine jx_load c1 hm rfl rfl rfl rfl ?_
  exact jx_reti c2 hm rfl rfl ⟨_, rfl, hH17, hF17, by omega, by omega⟩
 refine jy_ic c1 hm rfl (by decide) ?_
 refine jx_load c1 hm rfl rfl rfl rfl ?_
 refine jx_getr c1 hm rfl sh_0 rfl ?_
 obtain ⟨z18, k19, lz18, uz18⟩ := hH11.ld (c := 1) (i := 13) (A := 0) (B := 940) (bs_19_9 _ _ (by omega) (by omega))
 refine jx_geti c1 hm rfl sh_1 rfl k19 ?_
 refine jy_sub c1 hm (-z18 - 1) rfl (by omega) ?_
 exact jx_reti c2 hm rfl rfl ⟨_, rfl, hH11, hF11, by omega, by omega⟩
theorem ct_X11_fault_0 (X : Int) (hX : 0 ≤ X ∧ X ≤ 100000000) (M0 : JM) (hH0 : HI X M0)  : JOk shp PJ 1 37 [.inr (.inr (.inl 0))] M0 (jRi (fun v M' => M0 = M' ∧ (-2147483648) ≤ v ∧ v ≤ 2147483647 )) := by
 refine ⟨jr_X11_fault, pj_X11_fault, fun F c1 c2 c3 => ?_⟩
 have hm := pj_X11_fault
 change F 0 [some (.inr (.inr (.inl 0)))] [] M0
 refine jx_load c1 hm rfl rfl rfl rfl ?_
 obtain ⟨z1, k2, lz1, uz1⟩ := hH0.ld (c := 0) (i := 3) (A := (-2147483648)) (B := 2147483647) (bs_18_2 _ _ (by omega) (by omega))
 refine jx_geti c1 hm rfl sh_0 rfl k2 ?_
 exact jx_reti c2 hm rfl rfl ⟨_, rfl, rfl, by omega, by omega⟩
theorem ct_X2_has_5 (X : Int) (hX : 0 ≤ X ∧ X ≤ 100000000) (M0 : JM) (hH0 : HI X M0) (a0 : Int) (ha0 : 0 ≤ a0 ∧ a0 ≤ 2) (a1 : Int) (ha1 : (-2147483648) ≤ a1 ∧ a1 ≤ 2147483647) : JOk shp PJ 1 219 [.inr (.inr (.inl 5)), .inl a0, .inl a1] M0 (jRi (fun v M' => M0 = M' ∧ 0 ≤ v ∧ v ≤ 1 ∧ (v = 1 → 0 ≤ a1 ∧ a1 ≤ 5))) := by
 refine ⟨jr_X2_has, pj_X2_has, fun F c1 c2 c3 => ?_⟩
 have hm := pj_X2_has
 change F 0 [some (.inr (.inr (.inl 5))), some (.inl a0), some (.inl a1)] [] M0
 refine jx_load c1 hm rfl rfl rfl rfl ?_
 refine jz_lt c1 hm 18 rfl rfl (fun h1 => ?_) (fun h1 => ?_)
 ·
  refine jy_ic c1 hm rfl (by decide) ?_
  exact jx_retz c2 hm rfl rfl ⟨by omega, by omega⟩ ⟨_, rfl, rfl, by omega, by omega, (by omega)⟩
 refine jx_load c1 hm rfl rfl rfl rfl ?_
 refine jx_load c1 hm rfl rfl rfl rfl ?_
 refine jx_getr c1 hm rfl sh_5 rfl ?_
 refine jx_load c1 hm rfl rfl rfl rfl ?_
 obtain ⟨z2, k3, lz2, uz2⟩ := hH0.ld (c := 6) (i := (a0).toNat) (A := 0) (B := 6) rfl
 refine jx_iald c1 hm rfl sh_6 ⟨by omega, by omega⟩ k3 ?_
 refine jc_ge c1 hm 18 rfl rfl (fun h4 => ?_) (fun h4 => ?_)
 ·
  refine jy_ic c1 hm rfl (by decide) ?_
  exact jx_retz c2 hm rfl rfl ⟨by omega, by omega⟩ ⟨_, rfl, rfl, by omega, by omega, (by omega)⟩
 refine jy_ic c1 hm rfl (by decide) ?_
 refine jx_goto c1 hm 19 rfl rfl ?_
 exact jx_retz c2 hm rfl rfl ⟨by omega, by omega⟩ ⟨_, rfl, rfl, by omega, by omega, (by omega)⟩
theorem ct_X2_costAfter_5 (X : Int) (hX : 0 ≤ X ∧ X ≤ 100000000) (M0 : JM) (hH0 : HI X M0) (a0 : Int) (ha0 : 0 ≤ a0 ∧ a0 ≤ 5) (a1 : Int) (ha1 : 0 ≤ a1 ∧ a1 ≤ 5) (a2 : Int) (ha2 : (-2147483648) ≤ a2 ∧ a2 ≤ 2147483647) : JOk shp PJ 1 214 [.inr (.inr (.inl 5)), .inl a0, .inl a1, .inl a2] M0 (jRi (fun v M' => M0 = M' ∧ 0 ≤ v ∧ v ≤ 2147483647 ∧ (a2 < 0 ∨ 200000000 < a2 ∨ v ≤ 20))) := by
 refine ⟨jr_X2_costAfter, pj_X2_costAfter, fun F c1 c2 c3 => ?_⟩
 have hm := pj_X2_costAfter
 change F 0 [some (.inr (.inr (.inl 5))), some (.inl a0), some (.inl a1), some (.inl a2), none, none] [] M0
 rcases (show (0 ≤ a2 ∧ a2 ≤ 200000000) ∨ (a2 < 0) ∨ (200000000 < a2) by omega) with hs | hs | hs
 ·
  refine jx_load c1 hm rfl rfl rfl rfl ?_
  refine jx_getr c1 hm rfl sh_5 rfl ?_
  refine jx_load c1 hm rfl rfl rfl rfl ?_
  refine jy_bp c1 hm rfl (by decide) ?_
  refine jy_mul c1 hm (6 * a0) rfl (by omega) ?_
  refine jx_load c1 hm rfl rfl rfl rfl ?_
  refine jy_add c1 hm (6 * a0 + a1) rfl (by omega) ?_
  obtain ⟨z1, k2, lz1, uz1⟩ := hH0.ld (c := 10) (i := ((6 * a0 + a1)).toNat) (A := (-1)) (B := 20) rfl
  refine jx_iald c1 hm rfl sh_10 ⟨by omega, by omega⟩ k2 ?_
  refine jx_stor c1 hm (L' := [some (.inr (.inr (.inl 5))), some (.inl a0), some (.inl a1), some (.inl a2), some (.inl z1), none]) rfl rfl rfl rfl rfl ?_
  refine jx_load c1 hm rfl rfl rfl rfl ?_
  refine jx_load c1 hm rfl rfl rfl rfl ?_
  obtain ⟨z3, k4, lz3, uz3⟩ := hH0.ld (c := 5) (i := 6) (A := 0) (B := 9) (bs_20_1 _ _ (by omega) (by omega))
  refine jx_geti c1 hm rfl sh_5 rfl k4 ?_
  refine jx_load c1 hm rfl rfl rfl rfl ?_
  refine jy_mup c1 hm 9 200000000 1800000000 rfl ⟨by omega, by omega, by omega, by omega⟩ (by decide) (fun z5 lz5 uz5 => ?_)
  refine jy_sub c1 hm (z1 - z5) rfl (by omega) ?_
  refine jx_stor c1 hm (L' := [some (.inr (.inr (.inl 5))), some (.inl a0), some (.inl a1), some (.inl a2), some (.inl z1), some (.inl (z1 - z5))]) rfl rfl rfl rfl rfl ?_
  refine jx_load c1 hm rfl rfl rfl rfl ?_
  refine jz_ne c1 hm 33 rfl rfl (fun h6 => ?_) (fun h6 => ?_)
  ·
   refine jx_load c1 hm rfl rfl rfl rfl ?_
   refine jy_ic c1 hm rfl (by decide) ?_
   refine jc_ge c1 hm 43 rfl rfl (fun h7 => ?_) (fun h7 => ?_)
   ·
    refine jx_load c1 hm rfl rfl rfl rfl ?_
    exact jx_reti c2 hm rfl rfl ⟨_, rfl, rfl, by omega, by omega, (by omega)⟩
   refine jy_ic c1 hm rfl (by decide) ?_
   refine jx_goto c1 hm 45 rfl rfl ?_
   exact jx_reti c2 hm rfl rfl ⟨_, rfl, rfl, by omega, by omega, (by omega)⟩
  refine jy_ic c1 hm rfl (by decide) ?_
  refine jx_goto c1 hm 45 rfl rfl ?_
  exact jx_reti c2 hm rfl rfl ⟨_, rfl, rfl, by omega, by omega, (by omega)⟩
 ·
  refine jx_load c1 hm rfl rfl rfl rfl ?_
  refine jx_getr c1 hm rfl sh_5 rfl ?_
  refine jx_load c1 hm rfl rfl rfl rfl ?_
  refine jy_bp c1 hm rfl (by decide) ?_
  refine jy_mul c1 hm (6 * a0) rfl (by omega) ?_
  refine jx_load c1 hm rfl rfl rfl rfl ?_
  refine jy_add c1 hm (6 * a0 + a1) rfl (by omega) ?_
  obtain ⟨z8, k9, lz8, uz8⟩ := hH0.ld (c := 10) (i := ((6 * a0 + a1)).toNat) (A := (-1)) (B := 20) rfl
  refine jx_iald c1 hm rfl sh_10 ⟨by omega, by omega⟩ k9 ?_
  refine jx_stor c1 hm (L' := [some (.inr (.inr (.inl 5))), some (.inl a0), some (.inl a1), some (.inl a2), some (.inl z8), none]) rfl rfl rfl rfl rfl ?_
  refine jx_load c1 hm rfl rfl rfl rfl ?_
  refine jx_load c1 hm rfl rfl rfl rfl ?_
  obtain ⟨z10, k11, lz10, uz10⟩ := hH0.ld (c := 5) (i := 6) (A := 0) (B := 9) (bs_20_1 _ _ (by omega) (by omega))
  refine jx_geti c1 hm rfl sh_5 rfl k11 ?_
  refine jx_load c1 hm rfl rfl rfl rfl ?_
  refine jx_iopw c1 hm rfl rfl (fun z12 lz12 uz12 => ?_)
  refine jx_iopw c1 hm rfl rfl (fun z13 lz13 uz13 => ?_)
  refine jx_stor c1 hm (L' := [some (.inr (.inr (.inl 5))), some (.inl a0), some (.inl a1), some (.inl a2), some (.inl z8), some (.inl z13)]) rfl rfl rfl rfl rfl ?_
  refine jx_load c1 hm rfl rfl rfl rfl ?_
  refine jz_ne c1 hm 33 rfl rfl (fun h14 => ?_) (fun h14 => ?_)
  ·
   refine jx_load c1 hm rfl rfl rfl rfl ?_
   refine jy_ic c1 hm rfl (by decide) ?_
   refine jc_ge c1 hm 43 rfl rfl (fun h15 => ?_) (fun h15 => ?_)
   ·
    refine jx_load c1 hm rfl rfl rfl rfl ?_
    exact jx_reti c2 hm rfl rfl ⟨_, rfl, rfl, by omega, by omega, (by omega)⟩
   refine jy_ic c1 hm rfl (by decide) ?_
   refine jx_goto c1 hm 45 rfl rfl ?_
   exact jx_reti c2 hm rfl rfl ⟨_, rfl, rfl, by omega, by omega, (by omega)⟩
  refine jy_ic c1 hm rfl (by decide) ?_
  refine jx_goto c1 hm 45 rfl rfl ?_
  exact jx_reti c2 hm rfl rfl ⟨_, rfl, rfl, by omega, by omega, (by omega)⟩
 ·
  refine jx_load c1 hm rfl rfl rfl rfl ?_
  refine jx_getr c1 hm rfl sh_5 rfl ?_
  refine jx_load c1 hm rfl rfl rfl rfl ?_
  refine jy_bp c1 hm rfl (by decide) ?_
  refine jy_mul c1 hm (6 * a0) rfl (by omega) ?_
  refine jx_load c1 hm rfl rfl rfl rfl ?_
  refine jy_add c1 hm (6 * a0 + a1) rfl (by omega) ?_
  obtain ⟨z16, k17, lz16, uz16⟩ := hH0.ld (c := 10) (i := ((6 * a0 + a1)).toNat) (A := (-1)) (B := 20) rfl
  refine jx_iald c1 hm rfl sh_10 ⟨by omega, by omega⟩ k17 ?_
  refine jx_stor c1 hm (L' := [some (.inr (.inr (.inl 5))), some (.inl a0), some (.inl a1), some (.inl a2), some (.inl z16), none]) rfl rfl rfl rfl rfl ?_
  refine jx_load c1 hm rfl rfl rfl rfl ?_
  refine jx_load c1 hm rfl rfl rfl rfl ?_
  obtain ⟨z18, k19, lz18, uz18⟩ := hH0.ld (c := 5) (i := 6) (A := 0) (B := 9) (bs_20_1 _ _ (by omega) (by omega))
  refine jx_geti c1 hm rfl sh_5 rfl k19 ?_
  refine jx_load c1 hm rfl rfl rfl rfl ?_
  refine jx_iopw c1 hm rfl rfl (fun z20 lz20 uz20 => ?_)
  refine jx_iopw c1 hm rfl rfl (fun z21 lz21 uz21 => ?_)
  refine jx_stor c1 hm (L' := [some (.inr (.inr (.inl 5))), some (.inl a0), some (.inl a1), some (.inl a2), some (.inl z16), some (.inl z21)]) rfl rfl rfl rfl rfl ?_
  refine jx_load c1 hm rfl rfl rfl rfl ?_
  refine jz_ne c1 hm 33 rfl rfl (fun h22 => ?_) (fun h22 => ?_)
  ·
   refine jx_load c1 hm rfl rfl rfl rfl ?_
   refine jy_ic c1 hm rfl (by decide) ?_
   refine jc_ge c1 hm 43 rfl rfl (fun h23 => ?_) (fun h23 => ?_)
   ·
    refine jx_load c1 hm rfl rfl rfl rfl ?_
    exact jx_reti c2 hm rfl rfl ⟨_, rfl, rfl, by omega, by omega, (by omega)⟩
   refine jy_ic c1 hm rfl (by decide) ?_
   refine jx_goto c1 hm 45 rfl rfl ?_
   exact jx_reti c2 hm rfl rfl ⟨_, rfl, rfl, by omega, by omega, (by omega)⟩
  refine jy_ic c1 hm rfl (by decide) ?_
  refine jx_goto c1 hm 45 rfl rfl ?_
  exact jx_reti c2 hm rfl rfl ⟨_, rfl, rfl, by omega, by omega, (by omega)⟩
theorem ct_X2_costNow_5_12 (X : Int) (hX : 0 ≤ X ∧ X ≤ 100000000) (M0 : JM) (hH0 : HI X M0) (a0 : Int) (ha0 : 0 ≤ a0 ∧ a0 ≤ 5) (a1 : Int) (ha1 : 0 ≤ a1 ∧ a1 ≤ 5) : JOk shp PJ 2 215 [.inr (.inr (.inl 5)), .inr (.inr (.inl 12)), .inl a0, .inl a1] M0 (jRi (fun v M' => M0 = M' ∧ 0 ≤ v ∧ v ≤ 20 )) := by
 refine ⟨jr_X2_costNow, pj_X2_costNow, fun F c1 c2 c3 => ?_⟩
 have hm := pj_X2_costNow
 change F 0 [some (.inr (.inr (.inl 5))), some (.inr (.inr (.inl 12))), some (.inl a0), some (.inl a1)] [] M0
 refine jx_load c1 hm rfl rfl rfl rfl ?_
 refine jx_load c1 hm rfl rfl rfl rfl ?_
 refine jx_load c1 hm rfl rfl rfl rfl ?_
 refine jx_load c1 hm rfl rfl rfl rfl ?_
 refine jx_getr c1 hm rfl sh_12 rfl ?_
 refine jx_load c1 hm rfl rfl rfl rfl ?_
 refine jy_bp c1 hm rfl (by decide) ?_
 refine jy_mul c1 hm (6 * a0) rfl (by omega) ?_
 refine jx_load c1 hm rfl rfl rfl rfl ?_
 refine jy_add c1 hm (6 * a0 + a1) rfl (by omega) ?_
 obtain ⟨z1, k2, lz1, uz1⟩ := hH0.ld (c := 18) (i := ((6 * a0 + a1)).toNat) (A := 0) (B := 1 * X) rfl
 refine jx_iald c1 hm rfl sh_18 ⟨by omega, by omega⟩ k2 ?_
 refine jv_i c3 hm rfl pj_X2_costAfter rfl rfl ⟨_, _, _, rfl, sh_5⟩ rfl ((ct_X2_costAfter_5 X (by omega) M0 hH0 a0 ⟨by omega, by omega⟩ a1 ⟨by omega, by omega⟩ z1 ⟨by omega, by omega⟩).le (by decide)) (fun z3 _ ⟨rfl, lz3, uz3, p4⟩ => ?_)
 exact jx_reti c2 hm rfl rfl ⟨_, rfl, rfl, by omega, by omega⟩
theorem ct_X11_cost_0 (X : Int) (hX : 0 ≤ X ∧ X ≤ 100000000) (M0 : JM) (hH0 : HI X M0) (a0 : Int) (ha0 : (-2147483648) ≤ a0 ∧ a0 ≤ 2147483647) (a1 : Int) (ha1 : (-2147483648) ≤ a1 ∧ a1 ≤ 2147483647) : JOk shp PJ 3 30 [.inr (.inr (.inl 0)), .inl a0, .inl a1] M0 (jRi (fun v M' => M0 = M' ∧ (-1) ≤ v ∧ v ≤ 20 )) := by
 refine ⟨jr_X11_cost, pj_X11_cost, fun F c1 c2 c3 => ?_⟩
 have hm := pj_X11_cost
 change F 0 [some (.inr (.inr (.inl 0))), some (.inl a0), some (.inl a1)] [] M0
 refine jx_load c1 hm rfl rfl rfl rfl ?_
 refine jx_getr c1 hm rfl sh_0 rfl ?_
 refine jy_ic c1 hm rfl (by decide) ?_
 refine jx_load c1 hm rfl rfl rfl rfl ?_
 refine jv_i c3 hm rfl pj_X2_has rfl rfl ⟨_, _, _, rfl, sh_5⟩ rfl ((ct_X2_has_5 X (by omega) M0 hH0 0 ⟨by omega, by omega⟩ a0 ⟨by omega, by omega⟩).le (by decide)) (fun z1 _ ⟨rfl, lz1, uz1, p2⟩ => ?_)
 refine jz_eq c1 hm 43 rfl rfl (fun h3 => ?_) (fun h3 => ?_)
 ·
  refine jy_ic c1 hm rfl (by decide) ?_
  exact jx_reti c2 hm rfl rfl ⟨_, rfl, rfl, by omega, by omega⟩
 refine jx_load c1 hm rfl rfl rfl rfl ?_
 refine jx_getr c1 hm rfl sh_0 rfl ?_
 refine jy_ic c1 hm rfl (by decide) ?_
 refine jx_load c1 hm rfl rfl rfl rfl ?_
 refine jv_i c3 hm rfl pj_X2_has rfl rfl ⟨_, _, _, rfl, sh_5⟩ rfl ((ct_X2_has_5 X (by omega) M0 hH0 1 ⟨by omega, by omega⟩ a1 ⟨by omega, by omega⟩).le (by decide)) (fun z4 _ ⟨rfl, lz4, uz4, p5⟩ => ?_)
 refine jz_eq c1 hm 43 rfl rfl (fun h6 => ?_) (fun h6 => ?_)
 ·
  refine jy_ic c1 hm rfl (by decide) ?_
  exact jx_reti c2 hm rfl rfl ⟨_, rfl, rfl, by omega, by omega⟩
 refine jx_load c1 hm rfl rfl rfl rfl ?_
 refine jx_getr c1 hm rfl sh_0 rfl ?_
 refine jx_load c1 hm rfl rfl rfl rfl ?_
 refine jx_getr c1 hm rfl sh_0 rfl ?_
 refine jx_getr c1 hm rfl sh_5 rfl ?_
 refine jx_load c1 hm rfl rfl rfl rfl ?_
 refine jx_load c1 hm rfl rfl rfl rfl ?_
 refine jv_i c3 hm rfl pj_X2_costNow rfl rfl ⟨_, _, _, rfl, sh_5⟩ rfl ((ct_X2_costNow_5_12 X (by omega) M0 hH0 a0 ⟨by omega, by omega⟩ a1 ⟨by omega, by omega⟩).le (by decide)) (fun z7 _ ⟨rfl, lz7, uz7⟩ => ?_)
 refine jx_goto c1 hm 44 rfl rfl ?_
 exact jx_reti c2 hm rfl rfl ⟨_, rfl, rfl, by omega, by omega⟩
theorem ct_X11_times_0 (X : Int) (hX : 0 ≤ X ∧ X ≤ 100000000) (M0 : JM) (hH0 : HI X M0) (a0 : Int) (ha0 : (-2147483648) ≤ a0 ∧ a0 ≤ 2147483647) (a1 : Int) (ha1 : (-2147483648) ≤ a1 ∧ a1 ≤ 2147483647) : JOk shp PJ 2 72 [.inr (.inr (.inl 0)), .inl a0, .inl a1] M0 (jRi (fun v M' => M0 = M' ∧ (-1) ≤ v ∧ v ≤ 100000000 )) := by
 refine ⟨jr_X11_times, pj_X11_times, fun F c1 c2 c3 => ?_⟩
 have hm := pj_X11_times
 change F 0 [some (.inr (.inr (.inl 0))), some (.inl a0), some (.inl a1)] [] M0
 refine jx_load c1 hm rfl rfl rfl rfl ?_
 refine jx_getr c1 hm rfl sh_0 rfl ?_
 refine jy_ic c1 hm rfl (by decide) ?_
 refine jx_load c1 hm rfl rfl rfl rfl ?_
 refine jv_i c3 hm rfl pj_X2_has rfl rfl ⟨_, _, _, rfl, sh_5⟩ rfl ((ct_X2_has_5 X (by omega) M0 hH0 0 ⟨by omega, by omega⟩ a0 ⟨by omega, by omega⟩).le (by decide)) (fun z1 _ ⟨rfl, lz1, uz1, p2⟩ => ?_)
 refine jz_eq c1 hm 44 rfl rfl (fun h3 => ?_) (fun h3 => ?_)
 ·
  refine jy_ic c1 hm rfl (by decide) ?_
  exact jx_reti c2 hm rfl rfl ⟨_, rfl, rfl, by omega, by omega⟩
 refine jx_load c1 hm rfl rfl rfl rfl ?_
 refine jx_getr c1 hm rfl sh_0 rfl ?_
 refine jy_ic c1 hm rfl (by decide) ?_
 refine jx_load c1 hm rfl rfl rfl rfl ?_
 refine jv_i c3 hm rfl pj_X2_has rfl rfl ⟨_, _, _, rfl, sh_5⟩ rfl ((ct_X2_has_5 X (by omega) M0 hH0 1 ⟨by omega, by omega⟩ a1 ⟨by omega, by omega⟩).le (by decide)) (fun z4 _ ⟨rfl, lz4, uz4, p5⟩ => ?_)
 refine jz_eq c1 hm 44 rfl rfl (fun h6 => ?_) (fun h6 => ?_)
 ·
  refine jy_ic c1 hm rfl (by decide) ?_
  exact jx_reti c2 hm rfl rfl ⟨_, rfl, rfl, by omega, by omega⟩
 refine jx_load c1 hm rfl rfl rfl rfl ?_
 refine jx_getr c1 hm rfl sh_0 rfl ?_
 refine jx_getr c1 hm rfl sh_5 rfl ?_
 refine jx_getr c1 hm rfl sh_12 rfl ?_
 refine jx_load c1 hm rfl rfl rfl rfl ?_
 refine jy_bp c1 hm rfl (by decide) ?_
 refine jy_mul c1 hm (6 * a0) rfl (by omega) ?_
 refine jx_load c1 hm rfl rfl rfl rfl ?_
 refine jy_add c1 hm (6 * a0 + a1) rfl (by omega) ?_
 obtain ⟨z7, k8, lz7, uz7⟩ := hH0.ld (c := 18) (i := ((6 * a0 + a1)).toNat) (A := 0) (B := 1 * X) rfl
 refine jx_iald c1 hm rfl sh_18 ⟨by omega, by omega⟩ k8 ?_
 refine jx_goto c1 hm 45 rfl rfl ?_
 exact jx_reti c2 hm rfl rfl ⟨_, rfl, rfl, by omega, by omega⟩
theorem ct_X11_bought_0 (X : Int) (hX : 0 ≤ X ∧ X ≤ 100000000) (M0 : JM) (hH0 : HI X M0) (a0 : Int) (ha0 : (-2147483648) ≤ a0 ∧ a0 ≤ 2147483647) (a1 : Int) (ha1 : (-2147483648) ≤ a1 ∧ a1 ≤ 2147483647) : JOk shp PJ 2 26 [.inr (.inr (.inl 0)), .inl a0, .inl a1] M0 (jRi (fun v M' => M0 = M' ∧ (-2147483648) ≤ v ∧ v ≤ 2147483647 )) := by
 refine ⟨jr_X11_bought, pj_X11_bought, fun F c1 c2 c3 => ?_⟩
 have hm := pj_X11_bought
 change F 0 [some (.inr (.inr (.inl 0))), some (.inl a0), some (.inl a1)] [] M0
 refine jx_load c1 hm rfl rfl rfl rfl ?_
 refine jx_getr c1 hm rfl sh_0 rfl ?_
 refine jy_ic c1 hm rfl (by decide) ?_
 refine jx_load c1 hm rfl rfl rfl rfl ?_
 refine jv_i c3 hm rfl pj_X2_has rfl rfl ⟨_, _, _, rfl, sh_5⟩ rfl ((ct_X2_has_5 X (by omega) M0 hH0 0 ⟨by omega, by omega⟩ a0 ⟨by omega, by omega⟩).le (by decide)) (fun z1 _ ⟨rfl, lz1, uz1, p2⟩ => ?_)
 refine jz_eq c1 hm 44 rfl rfl (fun h3 => ?_) (fun h3 => ?_)
 ·
  refine jy_ic c1 hm rfl (by decide) ?_
  exact jx_reti c2 hm rfl rfl ⟨_, rfl, rfl, by omega, by omega⟩
 refine jx_load c1 hm rfl rfl rfl rfl ?_
 refine jx_getr c1 hm rfl sh_0 rfl ?_
 refine jy_ic c1 hm rfl (by decide) ?_
 refine jx_load c1 hm rfl rfl rfl rfl ?_
 refine jv_i c3 hm rfl pj_X2_has rfl rfl ⟨_, _, _, rfl, sh_5⟩ rfl ((ct_X2_has_5 X (by omega) M0 hH0 2 ⟨by omega, by omega⟩ a1 ⟨by omega, by omega⟩).le (by decide)) (fun z4 _ ⟨rfl, lz4, uz4, p5⟩ => ?_)
 refine jz_eq c1 hm 44 rfl rfl (fun h6 => ?_) (fun h6 => ?_)
 ·
  refine jy_ic c1 hm rfl (by decide) ?_
  exact jx_reti c2 hm rfl rfl ⟨_, rfl, rfl, by omega, by omega⟩
 refine jx_load c1 hm rfl rfl rfl rfl ?_
 refine jx_getr c1 hm rfl sh_0 rfl ?_
 refine jx_getr c1 hm rfl sh_5 rfl ?_
 refine jx_getr c1 hm rfl sh_12 rfl ?_
 refine jx_load c1 hm rfl rfl rfl rfl ?_
 refine jy_bp c1 hm rfl (by decide) ?_
 refine jy_mul c1 hm (6 * a0) rfl (by omega) ?_
 refine jx_load c1 hm rfl rfl rfl rfl ?_
 refine jy_add c1 hm (6 * a0 + a1) rfl (by omega) ?_
 obtain ⟨z7, k8, lz7, uz7⟩ := hH0.ld (c := 19) (i := ((6 * a0 + a1)).toNat) (A := (-2147483648)) (B := 2147483647) rfl
 refine jx_iald c1 hm rfl sh_19 ⟨by omega, by omega⟩ k8 ?_
 refine jx_goto c1 hm 45 rfl rfl ?_
 exact jx_reti c2 hm rfl rfl ⟨_, rfl, rfl, by omega, by omega⟩
theorem ct_X11_good_0 (X : Int) (hX : 0 ≤ X ∧ X ≤ 100000000) (M0 : JM) (hH0 : HI X M0) (a0 : Int) (ha0 : (-2147483648) ≤ a0 ∧ a0 ≤ 2147483647) (a1 : Int) (ha1 : (-2147483648) ≤ a1 ∧ a1 ≤ 2147483647) : JOk shp PJ 2 42 [.inr (.inr (.inl 0)), .inl a0, .inl a1] M0 (jRi (fun v M' => M0 = M' ∧ (-2147483648) ≤ v ∧ v ≤ 2147483647 )) := by
 refine ⟨jr_X11_good, pj_X11_good, fun F c1 c2 c3 => ?_⟩
 have hm := pj_X11_good
 change F 0 [some (.inr (.inr (.inl 0))), some (.inl a0), some (.inl a1)] [] M0
 refine jx_load c1 hm rfl rfl rfl rfl ?_
 refine jx_getr c1 hm rfl sh_0 rfl ?_
 refine jy_ic c1 hm rfl (by decide) ?_
 refine jx_load c1 hm rfl rfl rfl rfl ?_
 refine jv_i c3 hm rfl pj_X2_has rfl rfl ⟨_, _, _, rfl, sh_5⟩ rfl ((ct_X2_has_5 X (by omega) M0 hH0 2 ⟨by omega, by omega⟩ a0 ⟨by omega, by omega⟩).le (by decide)) (fun z1 _ ⟨rfl, lz1, uz1, p2⟩ => ?_)
 refine jz_ne c1 hm 14 rfl rfl (fun h3 => ?_) (fun h3 => ?_)
 ·
  refine jx_load c1 hm rfl rfl rfl rfl ?_
  by_cases h4 : a1 = 0
  ·
   refine jx_lsw c1 hm 40 rfl rfl (by rw [h4] <;> rfl) rfl ?_
   refine jx_load c1 hm rfl rfl rfl rfl ?_
   refine jx_getr c1 hm rfl sh_0 rfl ?_
   refine jx_getr c1 hm rfl sh_5 rfl ?_
   refine jx_load c1 hm rfl rfl rfl rfl ?_
   obtain ⟨z5, k6, lz5, uz5⟩ := hH0.ld (c := 11) (i := (a0).toNat) (A := 0) (B := 99) rfl
   refine jx_iald c1 hm rfl sh_11 ⟨by omega, by omega⟩ k6 ?_
   exact jx_reti c2 hm rfl rfl ⟨_, rfl, rfl, by omega, by omega⟩
  by_cases h7 : a1 = 1
  ·
   refine jx_lsw c1 hm 50 rfl rfl (by rw [h7] <;> rfl) rfl ?_
   refine jx_load c1 hm rfl rfl rfl rfl ?_
   refine jx_getr c1 hm rfl sh_0 rfl ?_
   refine jx_getr c1 hm rfl sh_5 rfl ?_
   refine jx_getr c1 hm rfl sh_12 rfl ?_
   refine jx_load c1 hm rfl rfl rfl rfl ?_
   obtain ⟨z8, k9, lz8, uz8⟩ := hH0.ld (c := 16) (i := (a0).toNat) (A := (-2147483648)) (B := 2147483647) rfl
   refine jx_iald c1 hm rfl sh_16 ⟨by omega, by omega⟩ k9 ?_
   exact jx_reti c2 hm rfl rfl ⟨_, rfl, rfl, by omega, by omega⟩
  refine jx_lsw c1 hm 63 rfl rfl (jlsd ⟨by omega, by omega, trivial⟩) rfl ?_
  refine jy_ic c1 hm rfl (by decide) ?_
  exact jx_reti c2 hm rfl rfl ⟨_, rfl, rfl, by omega, by omega⟩
 refine jy_ic c1 hm rfl (by decide) ?_
 exact jx_reti c2 hm rfl rfl ⟨_, rfl, rfl, by omega, by omega⟩
theorem ct_X11_owes_0 (X : Int) (hX : 0 ≤ X ∧ X ≤ 100000000) (M0 : JM) (hH0 : HI X M0) (a0 : Int) (ha0 : (-2147483648) ≤ a0 ∧ a0 ≤ 2147483647) (a1 : Int) (ha1 : (-2147483648) ≤ a1 ∧ a1 ≤ 2147483647) : JOk shp PJ 2 54 [.inr (.inr (.inl 0)), .inl a0, .inl a1] M0 (jRi (fun v M' => M0 = M' ∧ (-2147483648) ≤ v ∧ v ≤ 2147483647 )) := by
 refine ⟨jr_X11_owes, pj_X11_owes, fun F c1 c2 c3 => ?_⟩
 have hm := pj_X11_owes
 change F 0 [some (.inr (.inr (.inl 0))), some (.inl a0), some (.inl a1)] [] M0
 refine jx_load c1 hm rfl rfl rfl rfl ?_
 refine jx_getr c1 hm rfl sh_0 rfl ?_
 refine jy_ic c1 hm rfl (by decide) ?_
 refine jx_load c1 hm rfl rfl rfl rfl ?_
 refine jv_i c3 hm rfl pj_X2_has rfl rfl ⟨_, _, _, rfl, sh_5⟩ rfl ((ct_X2_has_5 X (by omega) M0 hH0 0 ⟨by omega, by omega⟩ a0 ⟨by omega, by omega⟩).le (by decide)) (fun z1 _ ⟨rfl, lz1, uz1, p2⟩ => ?_)
 refine jz_eq c1 hm 44 rfl rfl (fun h3 => ?_) (fun h3 => ?_)
 ·
  refine jy_ic c1 hm rfl (by decide) ?_
  exact jx_reti c2 hm rfl rfl ⟨_, rfl, rfl, by omega, by omega⟩
 refine jx_load c1 hm rfl rfl rfl rfl ?_
 refine jx_getr c1 hm rfl sh_0 rfl ?_
 refine jy_ic c1 hm rfl (by decide) ?_
 refine jx_load c1 hm rfl rfl rfl rfl ?_
 refine jv_i c3 hm rfl pj_X2_has rfl rfl ⟨_, _, _, rfl, sh_5⟩ rfl ((ct_X2_has_5 X (by omega) M0 hH0 0 ⟨by omega, by omega⟩ a1 ⟨by omega, by omega⟩).le (by decide)) (fun z4 _ ⟨rfl, lz4, uz4, p5⟩ => ?_)
 refine jz_eq c1 hm 44 rfl rfl (fun h6 => ?_) (fun h6 => ?_)
 ·
  refine jy_ic c1 hm rfl (by decide) ?_
  exact jx_reti c2 hm rfl rfl ⟨_, rfl, rfl, by omega, by omega⟩
 refine jx_load c1 hm rfl rfl rfl rfl ?_
 refine jx_getr c1 hm rfl sh_0 rfl ?_
 refine jx_getr c1 hm rfl sh_5 rfl ?_
 refine jx_getr c1 hm rfl sh_12 rfl ?_
 refine jx_load c1 hm rfl rfl rfl rfl ?_
 refine jy_bp c1 hm rfl (by decide) ?_
 refine jy_mul c1 hm (6 * a0) rfl (by omega) ?_
 refine jx_load c1 hm rfl rfl rfl rfl ?_
 refine jy_add c1 hm (6 * a0 + a1) rfl (by omega) ?_
 obtain ⟨z7, k8, lz7, uz7⟩ := hH0.ld (c := 17) (i := ((6 * a0 + a1)).toNat) (A := (-2147483648)) (B := 2147483647) rfl
 refine jx_iald c1 hm rfl sh_17 ⟨by omega, by omega⟩ k8 ?_
 refine jx_goto c1 hm 45 rfl rfl ?_
 exact jx_reti c2 hm rfl rfl ⟨_, rfl, rfl, by omega, by omega⟩
theorem ct_X11_sum_13 (X : Int) (hX : 0 ≤ X ∧ X ≤ 100000000) (M0 : JM) (hH0 : HI X M0) (a0 : Int) (ha0 : 0 ≤ a0 ∧ a0 ≤ 36) (a1 : Int) (ha1 : 1 ≤ a1 ∧ a1 ≤ 6) (a2 : Int) (ha2 : 6 ≤ a2 ∧ a2 ≤ 36) : JOk shp PJ 1 68 [.inr (.inr (.inl 13)), .inl a0, .inl a1, .inl a2] M0 (jRi (fun v M' => M0 = M' ∧ (-2147483648) ≤ v ∧ v ≤ 2147483647 )) := by
 refine ⟨jr_X11_sum, pj_X11_sum, fun F c1 c2 c3 => ?_⟩
 have hm := pj_X11_sum
 change F 0 [some (.inr (.inr (.inl 13))), some (.inl a0), some (.inl a1), some (.inl a2), none, none, none] [] M0
 refine jy_ic c1 hm rfl (by decide) ?_
 refine jx_stor c1 hm (L' := [some (.inr (.inr (.inl 13))), some (.inl a0), some (.inl a1), some (.inl a2), some (.inl 0), none, none]) rfl rfl rfl rfl rfl ?_
 refine jy_ic c1 hm rfl (by decide) ?_
 refine jx_stor c1 hm (L' := [some (.inr (.inr (.inl 13))), some (.inl a0), some (.inl a1), some (.inl a2), some (.inl 0), some (.inl 0), none]) rfl rfl rfl rfl rfl ?_
 refine jx_load c1 hm rfl rfl rfl rfl ?_
 refine jx_stor c1 hm (L' := [some (.inr (.inr (.inl 13))), some (.inl a0), some (.inl a1), some (.inl a2), some (.inl 0), some (.inl 0), some (.inl a0)]) rfl rfl rfl rfl rfl ?_
 have W4 : ∀ (n5 : Nat) (b1 : Int) (hb1 : (-2147483648) ≤ b1 ∧ b1 ≤ 2147483647) (b2 : Int) (hb2 : 0 ≤ b2 ∧ b2 ≤ 36) (b3 : Int) (hb3 : 0 ≤ b3 ∧ b3 ≤ 36), (-b2 + 36) < (n5 : Int) → F 9 [some (.inr (.inr (.inl 13))), some (.inl a0), some (.inl a1), some (.inl a2), some (.inl b1), some (.inl b2), some (.inl b3)] [] M0 := by
  intro n5
  induction n5 with
  | zero => intros; omega
  | succ n5 ihW4 =>
   intro b1 hb1 b2 hb2 b3 hb3 hrW4
   refine jx_load c1 hm rfl rfl rfl rfl ?_
   refine jx_load c1 hm rfl rfl rfl rfl ?_
   refine jc_ge c1 hm 48 rfl rfl (fun h6 => ?_) (fun h6 => ?_)
   ·
    refine jx_load c1 hm rfl rfl rfl rfl ?_
    exact jx_reti c2 hm rfl rfl ⟨_, rfl, rfl, by omega, by omega⟩
   refine jx_load c1 hm rfl rfl rfl rfl ?_
   refine jz_lt c1 hm 48 rfl rfl (fun h7 => ?_) (fun h7 => ?_)
   ·
    exfalso; omega
   refine jx_load c1 hm rfl rfl rfl rfl ?_
   refine jx_load c1 hm rfl rfl rfl rfl ?_
   refine jx_alen c1 hm (v := 6) rfl sh_13 rfl rfl ?_
   refine jc_ge c1 hm 48 rfl rfl (fun h8 => ?_) (fun h8 => ?_)
   ·
    refine jx_load c1 hm rfl rfl rfl rfl ?_
    exact jx_reti c2 hm rfl rfl ⟨_, rfl, rfl, by omega, by omega⟩
   refine jx_load c1 hm rfl rfl rfl rfl ?_
   refine jx_load c1 hm rfl rfl rfl rfl ?_
   refine jx_load c1 hm rfl rfl rfl rfl ?_
   obtain ⟨z9, k10, lz9, uz9⟩ := hH0.ld (c := 13) (i := (b3).toNat) (A := (-2147483648)) (B := 2147483647) rfl
   refine jx_iald c1 hm rfl sh_13 ⟨by omega, by omega⟩ k10 ?_
   refine jx_iopw c1 hm rfl rfl (fun z11 lz11 uz11 => ?_)
   refine jx_stor c1 hm (L' := [some (.inr (.inr (.inl 13))), some (.inl a0), some (.inl a1), some (.inl a2), some (.inl z11), some (.inl b2), some (.inl b3)]) rfl rfl rfl rfl rfl ?_
   refine jx_iinc c1 hm (v := (b2 + 1)) (L' := [some (.inr (.inr (.inl 13))), some (.inl a0), some (.inl a1), some (.inl a2), some (.inl z11), some (.inl (b2 + 1)), some (.inl b3)]) rfl rfl (by omega) (by omega) rfl ?_
   refine jx_load c1 hm rfl rfl rfl rfl ?_
   refine jx_load c1 hm rfl rfl rfl rfl ?_
   refine jy_add c1 hm (a1 + b3) rfl (by omega) ?_
   refine jx_stor c1 hm (L' := [some (.inr (.inr (.inl 13))), some (.inl a0), some (.inl a1), some (.inl a2), some (.inl z11), some (.inl (b2 + 1)), some (.inl (a1 + b3))]) rfl rfl rfl rfl rfl ?_
   refine jx_goto c1 hm 9 rfl rfl ?_
   exact ihW4 z11 (by omega) (b2 + 1) (by omega) (a1 + b3) (by omega) (by omega)
 exact W4 (36 + 1 : Int).toNat 0 (by omega) 0 (by omega) a0 (by omega) (by omega)
theorem ct_X11_sum_14 (X : Int) (hX : 0 ≤ X ∧ X ≤ 100000000) (M0 : JM) (hH0 : HI X M0) (a0 : Int) (ha0 : 0 ≤ a0 ∧ a0 ≤ 36) (a1 : Int) (ha1 : 1 ≤ a1 ∧ a1 ≤ 6) (a2 : Int) (ha2 : 6 ≤ a2 ∧ a2 ≤ 36) : JOk shp PJ 1 68 [.inr (.inr (.inl 14)), .inl a0, .inl a1, .inl a2] M0 (jRi (fun v M' => M0 = M' ∧ (-2147483648) ≤ v ∧ v ≤ 2147483647 )) := by
 refine ⟨jr_X11_sum, pj_X11_sum, fun F c1 c2 c3 => ?_⟩
 have hm := pj_X11_sum
 change F 0 [some (.inr (.inr (.inl 14))), some (.inl a0), some (.inl a1), some (.inl a2), none, none, none] [] M0
 refine jy_ic c1 hm rfl (by decide) ?_
 refine jx_stor c1 hm (L' := [some (.inr (.inr (.inl 14))), some (.inl a0), some (.inl a1), some (.inl a2), some (.inl 0), none, none]) rfl rfl rfl rfl rfl ?_
 refine jy_ic c1 hm rfl (by decide) ?_
 refine jx_stor c1 hm (L' := [some (.inr (.inr (.inl 14))), some (.inl a0), some (.inl a1), some (.inl a2), some (.inl 0), some (.inl 0), none]) rfl rfl rfl rfl rfl ?_
 refine jx_load c1 hm rfl rfl rfl rfl ?_
 refine jx_stor c1 hm (L' := [some (.inr (.inr (.inl 14))), some (.inl a0), some (.inl a1), some (.inl a2), some (.inl 0), some (.inl 0), some (.inl a0)]) rfl rfl rfl rfl rfl ?_
 have W4 : ∀ (n5 : Nat) (b1 : Int) (hb1 : (-2147483648) ≤ b1 ∧ b1 ≤ 2147483647) (b2 : Int) (hb2 : 0 ≤ b2 ∧ b2 ≤ 36) (b3 : Int) (hb3 : 0 ≤ b3 ∧ b3 ≤ 36), (-b2 + 36) < (n5 : Int) → F 9 [some (.inr (.inr (.inl 14))), some (.inl a0), some (.inl a1), some (.inl a2), some (.inl b1), some (.inl b2), some (.inl b3)] [] M0 := by
  intro n5
  induction n5 with
  | zero => intros; omega
  | succ n5 ihW4 =>
   intro b1 hb1 b2 hb2 b3 hb3 hrW4
   refine jx_load c1 hm rfl rfl rfl rfl ?_
   refine jx_load c1 hm rfl rfl rfl rfl ?_
   refine jc_ge c1 hm 48 rfl rfl (fun h6 => ?_) (fun h6 => ?_)
   ·
    refine jx_load c1 hm rfl rfl rfl rfl ?_
    exact jx_reti c2 hm rfl rfl ⟨_, rfl, rfl, by omega, by omega⟩
   refine jx_load c1 hm rfl rfl rfl rfl ?_
   refine jz_lt c1 hm 48 rfl rfl (fun h7 => ?_) (fun h7 => ?_)
   ·
    exfalso; omega
   refine jx_load c1 hm rfl rfl rfl rfl ?_
   refine jx_load c1 hm rfl rfl rfl rfl ?_
   refine jx_alen c1 hm (v := 6) rfl sh_14 rfl rfl ?_
   refine jc_ge c1 hm 48 rfl rfl (fun h8 => ?_) (fun h8 => ?_)
   ·
    refine jx_load c1 hm rfl rfl rfl rfl ?_
    exact jx_reti c2 hm rfl rfl ⟨_, rfl, rfl, by omega, by omega⟩
   refine jx_load c1 hm rfl rfl rfl rfl ?_
   refine jx_load c1 hm rfl rfl rfl rfl ?_
   refine jx_load c1 hm rfl rfl rfl rfl ?_
   obtain ⟨z9, k10, lz9, uz9⟩ := hH0.ld (c := 14) (i := (b3).toNat) (A := (-2147483648)) (B := 2147483647) rfl
   refine jx_iald c1 hm rfl sh_14 ⟨by omega, by omega⟩ k10 ?_
   refine jx_iopw c1 hm rfl rfl (fun z11 lz11 uz11 => ?_)
   refine jx_stor c1 hm (L' := [some (.inr (.inr (.inl 14))), some (.inl a0), some (.inl a1), some (.inl a2), some (.inl z11), some (.inl b2), some (.inl b3)]) rfl rfl rfl rfl rfl ?_
   refine jx_iinc c1 hm (v := (b2 + 1)) (L' := [some (.inr (.inr (.inl 14))), some (.inl a0), some (.inl a1), some (.inl a2), some (.inl z11), some (.inl (b2 + 1)), some (.inl b3)]) rfl rfl (by omega) (by omega) rfl ?_
   refine jx_load c1 hm rfl rfl rfl rfl ?_
   refine jx_load c1 hm rfl rfl rfl rfl ?_
   refine jy_add c1 hm (a1 + b3) rfl (by omega) ?_
   refine jx_stor c1 hm (L' := [some (.inr (.inr (.inl 14))), some (.inl a0), some (.inl a1), some (.inl a2), some (.inl z11), some (.inl (b2 + 1)), some (.inl (a1 + b3))]) rfl rfl rfl rfl rfl ?_
   refine jx_goto c1 hm 9 rfl rfl ?_
   exact ihW4 z11 (by omega) (b2 + 1) (by omega) (a1 + b3) (by omega) (by omega)
 exact W4 (36 + 1 : Int).toNat 0 (by omega) 0 (by omega) a0 (by omega) (by omega)
theorem ct_X8_allCredit_12 (X : Int) (hX : 0 ≤ X ∧ X ≤ 100000000) (M0 : JM) (hH0 : HI X M0)  : JOk shp PJ 2 261 [.inr (.inr (.inl 12))] M0 (jRi (fun v M' => M0 = M' ∧ (-2147483648) ≤ v ∧ v ≤ 2147483647 )) := by
 refine ⟨jr_X8_allCredit, pj_X8_allCredit, fun F c1 c2 c3 => ?_⟩
 have hm := pj_X8_allCredit
 change F 0 [some (.inr (.inr (.inl 12)))] [] M0
 refine jx_load c1 hm rfl rfl rfl rfl ?_
 refine jx_getr c1 hm rfl sh_12 rfl ?_
 refine jy_ic c1 hm rfl (by decide) ?_
 refine jy_ic c1 hm rfl (by decide) ?_
 refine jy_bp c1 hm rfl (by decide) ?_
 refine jt_i c3 hm rfl rfl pj_X11_sum rfl rfl rfl ((ct_X11_sum_14 X (by omega) M0 hH0 0 ⟨by omega, by omega⟩ 1 ⟨by omega, by omega⟩ 6 ⟨by omega, by omega⟩).le (by decide)) (fun z1 _ ⟨rfl, lz1, uz1⟩ => ?_)
 exact jx_reti c2 hm rfl rfl ⟨_, rfl, rfl, by omega, by omega⟩
theorem ct_X11_sum_17 (X : Int) (hX : 0 ≤ X ∧ X ≤ 100000000) (M0 : JM) (hH0 : HI X M0) (a0 : Int) (ha0 : 0 ≤ a0 ∧ a0 ≤ 36) (a1 : Int) (ha1 : 1 ≤ a1 ∧ a1 ≤ 6) (a2 : Int) (ha2 : 6 ≤ a2 ∧ a2 ≤ 36) : JOk shp PJ 1 68 [.inr (.inr (.inl 17)), .inl a0, .inl a1, .inl a2] M0 (jRi (fun v M' => M0 = M' ∧ (-2147483648) ≤ v ∧ v ≤ 2147483647 )) := by
 refine ⟨jr_X11_sum, pj_X11_sum, fun F c1 c2 c3 => ?_⟩
 have hm := pj_X11_sum
 change F 0 [some (.inr (.inr (.inl 17))), some (.inl a0), some (.inl a1), some (.inl a2), none, none, none] [] M0
 refine jy_ic c1 hm rfl (by decide) ?_
 refine jx_stor c1 hm (L' := [some (.inr (.inr (.inl 17))), some (.inl a0), some (.inl a1), some (.inl a2), some (.inl 0), none, none]) rfl rfl rfl rfl rfl ?_
 refine jy_ic c1 hm rfl (by decide) ?_
 refine jx_stor c1 hm (L' := [some (.inr (.inr (.inl 17))), some (.inl a0), some (.inl a1), some (.inl a2), some (.inl 0), some (.inl 0), none]) rfl rfl rfl rfl rfl ?_
 refine jx_load c1 hm rfl rfl rfl rfl ?_
 refine jx_stor c1 hm (L' := [some (.inr (.inr (.inl 17))), some (.inl a0), some (.inl a1), some (.inl a2), some (.inl 0), some (.inl 0), some (.inl a0)]) rfl rfl rfl rfl rfl ?_
 have W4 : ∀ (n5 : Nat) (b1 : Int) (hb1 : (-2147483648) ≤ b1 ∧ b1 ≤ 2147483647) (b2 : Int) (hb2 : 0 ≤ b2 ∧ b2 ≤ 36) (b3 : Int) (hb3 : 0 ≤ b3 ∧ b3 ≤ 41), (-b2 + 36) < (n5 : Int) → F 9 [some (.inr (.inr (.inl 17))), some (.inl a0), some (.inl a1), some (.inl a2), some (.inl b1), some (.inl b2), some (.inl b3)] [] M0 := by
  intro n5
  induction n5 with
  | zero => intros; omega
  | succ n5 ihW4 =>
   intro b1 hb1 b2 hb2 b3 hb3 hrW4
   refine jx_load c1 hm rfl rfl rfl rfl ?_
   refine jx_load c1 hm rfl rfl rfl rfl ?_
   refine jc_ge c1 hm 48 rfl rfl (fun h6 => ?_) (fun h6 => ?_)
   ·
    refine jx_load c1 hm rfl rfl rfl rfl ?_
    exact jx_reti c2 hm rfl rfl ⟨_, rfl, rfl, by omega, by omega⟩
   refine jx_load c1 hm rfl rfl rfl rfl ?_
   refine jz_lt c1 hm 48 rfl rfl (fun h7 => ?_) (fun h7 => ?_)
   ·
    exfalso; omega
   refine jx_load c1 hm rfl rfl rfl rfl ?_
   refine jx_load c1 hm rfl rfl rfl rfl ?_
   refine jx_alen c1 hm (v := 36) rfl sh_17 rfl rfl ?_
   refine jc_ge c1 hm 48 rfl rfl (fun h8 => ?_) (fun h8 => ?_)
   ·
    refine jx_load c1 hm rfl rfl rfl rfl ?_
    exact jx_reti c2 hm rfl rfl ⟨_, rfl, rfl, by omega, by omega⟩
   refine jx_load c1 hm rfl rfl rfl rfl ?_
   refine jx_load c1 hm rfl rfl rfl rfl ?_
   refine jx_load c1 hm rfl rfl rfl rfl ?_
   obtain ⟨z9, k10, lz9, uz9⟩ := hH0.ld (c := 17) (i := (b3).toNat) (A := (-2147483648)) (B := 2147483647) rfl
   refine jx_iald c1 hm rfl sh_17 ⟨by omega, by omega⟩ k10 ?_
   refine jx_iopw c1 hm rfl rfl (fun z11 lz11 uz11 => ?_)
   refine jx_stor c1 hm (L' := [some (.inr (.inr (.inl 17))), some (.inl a0), some (.inl a1), some (.inl a2), some (.inl z11), some (.inl b2), some (.inl b3)]) rfl rfl rfl rfl rfl ?_
   refine jx_iinc c1 hm (v := (b2 + 1)) (L' := [some (.inr (.inr (.inl 17))), some (.inl a0), some (.inl a1), some (.inl a2), some (.inl z11), some (.inl (b2 + 1)), some (.inl b3)]) rfl rfl (by omega) (by omega) rfl ?_
   refine jx_load c1 hm rfl rfl rfl rfl ?_
   refine jx_load c1 hm rfl rfl rfl rfl ?_
   refine jy_add c1 hm (a1 + b3) rfl (by omega) ?_
   refine jx_stor c1 hm (L' := [some (.inr (.inr (.inl 17))), some (.inl a0), some (.inl a1), some (.inl a2), some (.inl z11), some (.inl (b2 + 1)), some (.inl (a1 + b3))]) rfl rfl rfl rfl rfl ?_
   refine jx_goto c1 hm 9 rfl rfl ?_
   exact ihW4 z11 (by omega) (b2 + 1) (by omega) (a1 + b3) (by omega) (by omega)
 exact W4 (36 + 1 : Int).toNat 0 (by omega) 0 (by omega) a0 (by omega) (by omega)
theorem ct_X11_sum_18 (X : Int) (hX : 0 ≤ X ∧ X ≤ 100000000) (M0 : JM) (hH0 : HI X M0) (a0 : Int) (ha0 : 0 ≤ a0 ∧ a0 ≤ 36) (a1 : Int) (ha1 : 1 ≤ a1 ∧ a1 ≤ 6) (a2 : Int) (ha2 : 6 ≤ a2 ∧ a2 ≤ 36) : JOk shp PJ 1 68 [.inr (.inr (.inl 18)), .inl a0, .inl a1, .inl a2] M0 (jRi (fun v M' => M0 = M' ∧ (-2147483648) ≤ v ∧ v ≤ 2147483647 )) := by
 refine ⟨jr_X11_sum, pj_X11_sum, fun F c1 c2 c3 => ?_⟩
 have hm := pj_X11_sum
 change F 0 [some (.inr (.inr (.inl 18))), some (.inl a0), some (.inl a1), some (.inl a2), none, none, none] [] M0
 refine jy_ic c1 hm rfl (by decide) ?_
 refine jx_stor c1 hm (L' := [some (.inr (.inr (.inl 18))), some (.inl a0), some (.inl a1), some (.inl a2), some (.inl 0), none, none]) rfl rfl rfl rfl rfl ?_
 refine jy_ic c1 hm rfl (by decide) ?_
 refine jx_stor c1 hm (L' := [some (.inr (.inr (.inl 18))), some (.inl a0), some (.inl a1), some (.inl a2), some (.inl 0), some (.inl 0), none]) rfl rfl rfl rfl rfl ?_
 refine jx_load c1 hm rfl rfl rfl rfl ?_
 refine jx_stor c1 hm (L' := [some (.inr (.inr (.inl 18))), some (.inl a0), some (.inl a1), some (.inl a2), some (.inl 0), some (.inl 0), some (.inl a0)]) rfl rfl rfl rfl rfl ?_
 have W4 : ∀ (n5 : Nat) (b1 : Int) (hb1 : (-2147483648) ≤ b1 ∧ b1 ≤ 2147483647) (b2 : Int) (hb2 : 0 ≤ b2 ∧ b2 ≤ 36) (b3 : Int) (hb3 : 0 ≤ b3 ∧ b3 ≤ 41), (-b2 + 36) < (n5 : Int) → F 9 [some (.inr (.inr (.inl 18))), some (.inl a0), some (.inl a1), some (.inl a2), some (.inl b1), some (.inl b2), some (.inl b3)] [] M0 := by
  intro n5
  induction n5 with
  | zero => intros; omega
  | succ n5 ihW4 =>
   intro b1 hb1 b2 hb2 b3 hb3 hrW4
   refine jx_load c1 hm rfl rfl rfl rfl ?_
   refine jx_load c1 hm rfl rfl rfl rfl ?_
   refine jc_ge c1 hm 48 rfl rfl (fun h6 => ?_) (fun h6 => ?_)
   ·
    refine jx_load c1 hm rfl rfl rfl rfl ?_
    exact jx_reti c2 hm rfl rfl ⟨_, rfl, rfl, by omega, by omega⟩
   refine jx_load c1 hm rfl rfl rfl rfl ?_
   refine jz_lt c1 hm 48 rfl rfl (fun h7 => ?_) (fun h7 => ?_)
   ·
    exfalso; omega
   refine jx_load c1 hm rfl rfl rfl rfl ?_
   refine jx_load c1 hm rfl rfl rfl rfl ?_
   refine jx_alen c1 hm (v := 36) rfl sh_18 rfl rfl ?_
   refine jc_ge c1 hm 48 rfl rfl (fun h8 => ?_) (fun h8 => ?_)
   ·
    refine jx_load c1 hm rfl rfl rfl rfl ?_
    exact jx_reti c2 hm rfl rfl ⟨_, rfl, rfl, by omega, by omega⟩
   refine jx_load c1 hm rfl rfl rfl rfl ?_
   refine jx_load c1 hm rfl rfl rfl rfl ?_
   refine jx_load c1 hm rfl rfl rfl rfl ?_
   obtain ⟨z9, k10, lz9, uz9⟩ := hH0.ld (c := 18) (i := (b3).toNat) (A := 0) (B := 1 * X) rfl
   refine jx_iald c1 hm rfl sh_18 ⟨by omega, by omega⟩ k10 ?_
   refine jx_iopw c1 hm rfl rfl (fun z11 lz11 uz11 => ?_)
   refine jx_stor c1 hm (L' := [some (.inr (.inr (.inl 18))), some (.inl a0), some (.inl a1), some (.inl a2), some (.inl z11), some (.inl b2), some (.inl b3)]) rfl rfl rfl rfl rfl ?_
   refine jx_iinc c1 hm (v := (b2 + 1)) (L' := [some (.inr (.inr (.inl 18))), some (.inl a0), some (.inl a1), some (.inl a2), some (.inl z11), some (.inl (b2 + 1)), some (.inl b3)]) rfl rfl (by omega) (by omega) rfl ?_
   refine jx_load c1 hm rfl rfl rfl rfl ?_
   refine jx_load c1 hm rfl rfl rfl rfl ?_
   refine jy_add c1 hm (a1 + b3) rfl (by omega) ?_
   refine jx_stor c1 hm (L' := [some (.inr (.inr (.inl 18))), some (.inl a0), some (.inl a1), some (.inl a2), some (.inl z11), some (.inl (b2 + 1)), some (.inl (a1 + b3))]) rfl rfl rfl rfl rfl ?_
   refine jx_goto c1 hm 9 rfl rfl ?_
   exact ihW4 z11 (by omega) (b2 + 1) (by omega) (a1 + b3) (by omega) (by omega)
 exact W4 (36 + 1 : Int).toNat 0 (by omega) 0 (by omega) a0 (by omega) (by omega)
theorem ct_X11_sum_19 (X : Int) (hX : 0 ≤ X ∧ X ≤ 100000000) (M0 : JM) (hH0 : HI X M0) (a0 : Int) (ha0 : 0 ≤ a0 ∧ a0 ≤ 36) (a1 : Int) (ha1 : 1 ≤ a1 ∧ a1 ≤ 6) (a2 : Int) (ha2 : 6 ≤ a2 ∧ a2 ≤ 36) : JOk shp PJ 1 68 [.inr (.inr (.inl 19)), .inl a0, .inl a1, .inl a2] M0 (jRi (fun v M' => M0 = M' ∧ (-2147483648) ≤ v ∧ v ≤ 2147483647 )) := by
 refine ⟨jr_X11_sum, pj_X11_sum, fun F c1 c2 c3 => ?_⟩
 have hm := pj_X11_sum
 change F 0 [some (.inr (.inr (.inl 19))), some (.inl a0), some (.inl a1), some (.inl a2), none, none, none] [] M0
 refine jy_ic c1 hm rfl (by decide) ?_
 refine jx_stor c1 hm (L' := [some (.inr (.inr (.inl 19))), some (.inl a0), some (.inl a1), some (.inl a2), some (.inl 0), none, none]) rfl rfl rfl rfl rfl ?_
 refine jy_ic c1 hm rfl (by decide) ?_
 refine jx_stor c1 hm (L' := [some (.inr (.inr (.inl 19))), some (.inl a0), some (.inl a1), some (.inl a2), some (.inl 0), some (.inl 0), none]) rfl rfl rfl rfl rfl ?_
 refine jx_load c1 hm rfl rfl rfl rfl ?_
 refine jx_stor c1 hm (L' := [some (.inr (.inr (.inl 19))), some (.inl a0), some (.inl a1), some (.inl a2), some (.inl 0), some (.inl 0), some (.inl a0)]) rfl rfl rfl rfl rfl ?_
 have W4 : ∀ (n5 : Nat) (b1 : Int) (hb1 : (-2147483648) ≤ b1 ∧ b1 ≤ 2147483647) (b2 : Int) (hb2 : 0 ≤ b2 ∧ b2 ≤ 36) (b3 : Int) (hb3 : 0 ≤ b3 ∧ b3 ≤ 41), (-b2 + 36) < (n5 : Int) → F 9 [some (.inr (.inr (.inl 19))), some (.inl a0), some (.inl a1), some (.inl a2), some (.inl b1), some (.inl b2), some (.inl b3)] [] M0 := by
  intro n5
  induction n5 with
  | zero => intros; omega
  | succ n5 ihW4 =>
   intro b1 hb1 b2 hb2 b3 hb3 hrW4
   refine jx_load c1 hm rfl rfl rfl rfl ?_
   refine jx_load c1 hm rfl rfl rfl rfl ?_
   refine jc_ge c1 hm 48 rfl rfl (fun h6 => ?_) (fun h6 => ?_)
   ·
    refine jx_load c1 hm rfl rfl rfl rfl ?_
    exact jx_reti c2 hm rfl rfl ⟨_, rfl, rfl, by omega, by omega⟩
   refine jx_load c1 hm rfl rfl rfl rfl ?_
   refine jz_lt c1 hm 48 rfl rfl (fun h7 => ?_) (fun h7 => ?_)
   ·
    exfalso; omega
   refine jx_load c1 hm rfl rfl rfl rfl ?_
   refine jx_load c1 hm rfl rfl rfl rfl ?_
   refine jx_alen c1 hm (v := 36) rfl sh_19 rfl rfl ?_
   refine jc_ge c1 hm 48 rfl rfl (fun h8 => ?_) (fun h8 => ?_)
   ·
    refine jx_load c1 hm rfl rfl rfl rfl ?_
    exact jx_reti c2 hm rfl rfl ⟨_, rfl, rfl, by omega, by omega⟩
   refine jx_load c1 hm rfl rfl rfl rfl ?_
   refine jx_load c1 hm rfl rfl rfl rfl ?_
   refine jx_load c1 hm rfl rfl rfl rfl ?_
   obtain ⟨z9, k10, lz9, uz9⟩ := hH0.ld (c := 19) (i := (b3).toNat) (A := (-2147483648)) (B := 2147483647) rfl
   refine jx_iald c1 hm rfl sh_19 ⟨by omega, by omega⟩ k10 ?_
   refine jx_iopw c1 hm rfl rfl (fun z11 lz11 uz11 => ?_)
   refine jx_stor c1 hm (L' := [some (.inr (.inr (.inl 19))), some (.inl a0), some (.inl a1), some (.inl a2), some (.inl z11), some (.inl b2), some (.inl b3)]) rfl rfl rfl rfl rfl ?_
   refine jx_iinc c1 hm (v := (b2 + 1)) (L' := [some (.inr (.inr (.inl 19))), some (.inl a0), some (.inl a1), some (.inl a2), some (.inl z11), some (.inl (b2 + 1)), some (.inl b3)]) rfl rfl (by omega) (by omega) rfl ?_
   refine jx_load c1 hm rfl rfl rfl rfl ?_
   refine jx_load c1 hm rfl rfl rfl rfl ?_
   refine jy_add c1 hm (a1 + b3) rfl (by omega) ?_
   refine jx_stor c1 hm (L' := [some (.inr (.inr (.inl 19))), some (.inl a0), some (.inl a1), some (.inl a2), some (.inl z11), some (.inl (b2 + 1)), some (.inl (a1 + b3))]) rfl rfl rfl rfl rfl ?_
   refine jx_goto c1 hm 9 rfl rfl ?_
   exact ihW4 z11 (by omega) (b2 + 1) (by omega) (a1 + b3) (by omega) (by omega)
 exact W4 (36 + 1 : Int).toNat 0 (by omega) 0 (by omega) a0 (by omega) (by omega)
theorem ct_X11_now_0 (X : Int) (hX : 0 ≤ X ∧ X ≤ 100000000) (M0 : JM) (hH0 : HI X M0) (a0 : Int) (ha0 : (-2147483648) ≤ a0 ∧ a0 ≤ 2147483647) : JOk shp PJ 3 52 [.inr (.inr (.inl 0)), .inl a0] M0 (jRi (fun v M' => M0 = M' ∧ (-2147483648) ≤ v ∧ v ≤ 2147483647 )) := by
 refine ⟨jr_X11_now, pj_X11_now, fun F c1 c2 c3 => ?_⟩
 have hm := pj_X11_now
 change F 0 [some (.inr (.inr (.inl 0))), some (.inl a0), none] [] M0
 refine jx_load c1 hm rfl rfl rfl rfl ?_
 refine jx_getr c1 hm rfl sh_0 rfl ?_
 refine jx_getr c1 hm rfl sh_5 rfl ?_
 refine jx_stor c1 hm (L' := [some (.inr (.inr (.inl 0))), some (.inl a0), some (.inr (.inr (.inl 12)))]) rfl rfl rfl rfl rfl ?_
 refine jx_load c1 hm rfl rfl rfl rfl ?_
 by_cases h1 : a0 = 0
 ·
  refine jx_tswI c1 hm 48 rfl ⟨by omega, by omega⟩ (by rw [h1] <;> rfl) rfl ?_
  refine jx_load c1 hm rfl rfl rfl rfl ?_
  obtain ⟨z2, k3, lz2, uz2⟩ := hH0.ld (c := 12) (i := 7) (A := (-2147483648)) (B := 2147483647) rfl
  refine jx_geti c1 hm rfl sh_12 rfl k3 ?_
  exact jx_reti c2 hm rfl rfl ⟨_, rfl, rfl, by omega, by omega⟩
 by_cases h4 : a0 = 1
 ·
  refine jx_tswI c1 hm 53 rfl ⟨by omega, by omega⟩ (by rw [h4] <;> rfl) rfl ?_
  refine jx_load c1 hm rfl rfl rfl rfl ?_
  refine jx_getr c1 hm rfl sh_12 rfl ?_
  refine jy_ic c1 hm rfl (by decide) ?_
  refine jy_ic c1 hm rfl (by decide) ?_
  refine jy_bp c1 hm rfl (by decide) ?_
  refine jt_i c3 hm rfl rfl pj_X11_sum rfl rfl rfl ((ct_X11_sum_13 X (by omega) M0 hH0 0 ⟨by omega, by omega⟩ 1 ⟨by omega, by omega⟩ 6 ⟨by omega, by omega⟩).le (by decide)) (fun z5 _ ⟨rfl, lz5, uz5⟩ => ?_)
  exact jx_reti c2 hm rfl rfl ⟨_, rfl, rfl, by omega, by omega⟩
 by_cases h6 : a0 = 2
 ·
  refine jx_tswI c1 hm 65 rfl ⟨by omega, by omega⟩ (by rw [h6] <;> rfl) rfl ?_
  refine jx_load c1 hm rfl rfl rfl rfl ?_
  refine jv_i c3 hm rfl pj_X8_allCredit rfl rfl ⟨_, _, _, rfl, sh_12⟩ rfl ((ct_X8_allCredit_12 X (by omega) M0 hH0 ).le (by decide)) (fun z7 _ ⟨rfl, lz7, uz7⟩ => ?_)
  exact jx_reti c2 hm rfl rfl ⟨_, rfl, rfl, by omega, by omega⟩
 by_cases h8 : a0 = 3
 ·
  refine jx_tswI c1 hm 70 rfl ⟨by omega, by omega⟩ (by rw [h8] <;> rfl) rfl ?_
  refine jx_load c1 hm rfl rfl rfl rfl ?_
  refine jx_getr c1 hm rfl sh_12 rfl ?_
  refine jy_ic c1 hm rfl (by decide) ?_
  refine jy_ic c1 hm rfl (by decide) ?_
  refine jy_bp c1 hm rfl (by decide) ?_
  refine jt_i c3 hm rfl rfl pj_X11_sum rfl rfl rfl ((ct_X11_sum_17 X (by omega) M0 hH0 0 ⟨by omega, by omega⟩ 1 ⟨by omega, by omega⟩ 36 ⟨by omega, by omega⟩).le (by decide)) (fun z9 _ ⟨rfl, lz9, uz9⟩ => ?_)
  exact jx_reti c2 hm rfl rfl ⟨_, rfl, rfl, by omega, by omega⟩
 by_cases h10 : a0 = 4
 ·
  refine jx_tswI c1 hm 82 rfl ⟨by omega, by omega⟩ (by rw [h10] <;> rfl) rfl ?_
  refine jx_load c1 hm rfl rfl rfl rfl ?_
  refine jx_getr c1 hm rfl sh_12 rfl ?_
  refine jy_ic c1 hm rfl (by decide) ?_
  refine jy_ic c1 hm rfl (by decide) ?_
  refine jy_bp c1 hm rfl (by decide) ?_
  refine jt_i c3 hm rfl rfl pj_X11_sum rfl rfl rfl ((ct_X11_sum_18 X (by omega) M0 hH0 0 ⟨by omega, by omega⟩ 1 ⟨by omega, by omega⟩ 36 ⟨by omega, by omega⟩).le (by decide)) (fun z11 _ ⟨rfl, lz11, uz11⟩ => ?_)
  exact jx_reti c2 hm rfl rfl ⟨_, rfl, rfl, by omega, by omega⟩
 by_cases h12 : a0 = 5
 ·
  refine jx_tswI c1 hm 94 rfl ⟨by omega, by omega⟩ (by rw [h12] <;> rfl) rfl ?_
  refine jx_load c1 hm rfl rfl rfl rfl ?_
  refine jx_getr c1 hm rfl sh_12 rfl ?_
  refine jy_ic c1 hm rfl (by decide) ?_
  refine jy_ic c1 hm rfl (by decide) ?_
  refine jy_bp c1 hm rfl (by decide) ?_
  refine jt_i c3 hm rfl rfl pj_X11_sum rfl rfl rfl ((ct_X11_sum_19 X (by omega) M0 hH0 0 ⟨by omega, by omega⟩ 1 ⟨by omega, by omega⟩ 36 ⟨by omega, by omega⟩).le (by decide)) (fun z13 _ ⟨rfl, lz13, uz13⟩ => ?_)
  exact jx_reti c2 hm rfl rfl ⟨_, rfl, rfl, by omega, by omega⟩
 refine jx_tswO c1 hm 106 rfl (by omega) rfl ?_
 refine jy_ic c1 hm rfl (by decide) ?_
 exact jx_reti c2 hm rfl rfl ⟨_, rfl, rfl, by omega, by omega⟩
theorem ct_X2_men_5 (X : Int) (hX : 0 ≤ X ∧ X ≤ 100000000) (M0 : JM) (hH0 : HI X M0)  : JOk shp PJ 1 220 [.inr (.inr (.inl 5))] M0 (jRi (fun v M' => M0 = M' ∧ 0 ≤ v ∧ v ≤ 6 )) := by
 refine ⟨jr_X2_men, pj_X2_men, fun F c1 c2 c3 => ?_⟩
 have hm := pj_X2_men
 change F 0 [some (.inr (.inr (.inl 5)))] [] M0
 refine jx_load c1 hm rfl rfl rfl rfl ?_
 refine jx_getr c1 hm rfl sh_5 rfl ?_
 refine jy_ic c1 hm rfl (by decide) ?_
 obtain ⟨z1, k2, lz1, uz1⟩ := hH0.ld (c := 6) (i := 0) (A := 0) (B := 6) rfl
 refine jx_iald c1 hm rfl sh_6 ⟨by omega, by omega⟩ k2 ?_
 exact jx_reti c2 hm rfl rfl ⟨_, rfl, rfl, by omega, by omega⟩
def md_X6_closes_23_12 : List (Nat × (Nat × Nat)) := [(24, (0, 5))]
def ST_X6_closes_23_12 (n : Nat) : Prop := ∀ (X : Int) (hX : 0 ≤ X ∧ X ≤ 100000000) (M0 : JM) (hH0 : HI X M0) (a0 : Int) (ha0 : 0 ≤ a0 ∧ a0 ≤ 6) (a1 : Int) (ha1 : 1 ≤ a1 ∧ a1 ≤ 7) (a2 : Int) (ha2 : (-2147483648) ≤ a2 ∧ a2 ≤ 2147483647) (hr : 7 - a1 < (n : Int)), JOk shp PJ (1 * n + 1) 245 [.inr (.inr (.inl 23)), .inr (.inr (.inl 12)), .inl a0, .inl a1, .inl a2] M0 (jRi (fun v M' => HI X M' ∧ Fr md_X6_closes_23_12 M0 M' ∧ 0 ≤ v ∧ v ≤ 1 ))
theorem ct_X6_closes_23_12 : ∀ n : Nat, ST_X6_closes_23_12 n := by
 intro n
 induction n with
 | zero =>
  unfold ST_X6_closes_23_12
  intros; omega
 | succ n ih =>
  unfold ST_X6_closes_23_12
  intro X hX M0 hH0 a0 ha0 a1 ha1 a2 ha2 hr
  refine ⟨jr_X6_closes, pj_X6_closes, fun F c1 c2 c3 => ?_⟩
  have hm := pj_X6_closes
  change F 0 [some (.inr (.inr (.inl 23))), some (.inr (.inr (.inl 12))), some (.inl a0), some (.inl a1), some (.inl a2), none, none] [] M0
  have hF0 : Fr md_X6_closes_23_12 M0 M0 := Fr.rf _ _
  refine jx_load c1 hm rfl rfl rfl rfl ?_
  refine jy_ic c1 hm rfl (by decide) ?_
  refine jc_lt c1 hm 19 rfl rfl (fun h1 => ?_) (fun h1 => ?_)
  ·
   exfalso; omega
  refine jx_load c1 hm rfl rfl rfl rfl ?_
  refine jx_load c1 hm rfl rfl rfl rfl ?_
  obtain ⟨z2, k3, lz2, uz2⟩ := hH0.ld (c := 23) (i := 1) (A := 0) (B := 6) (bs_22_1 _ _ (by omega) (by omega))
  refine jx_geti c1 hm rfl sh_23 rfl k3 ?_
  refine jc_gt c1 hm 19 rfl rfl (fun h4 => ?_) (fun h4 => ?_)
  ·
   refine jy_ic c1 hm rfl (by decide) ?_
   exact jx_retz c2 hm rfl rfl ⟨by omega, by omega⟩ ⟨_, rfl, hH0, hF0, by omega, by omega⟩
  refine jx_load c1 hm rfl rfl rfl rfl ?_
  refine jy_bp c1 hm rfl (by decide) ?_
  refine jc_le c1 hm 21 rfl rfl (fun h5 => ?_) (fun h5 => ?_)
  ·
   refine jx_load c1 hm rfl rfl rfl rfl ?_
   refine jx_getr c1 hm rfl sh_23 rfl ?_
   refine jx_load c1 hm rfl rfl rfl rfl ?_
   refine jy_ic c1 hm rfl (by decide) ?_
   refine jy_sub c1 hm (a1 - 1) rfl (by omega) ?_
   obtain ⟨z6, k7, lz6, uz6⟩ := hH0.ld (c := 24) (i := ((a1 - 1)).toNat) (A := 0) (B := 5) rfl
   refine jx_iald c1 hm rfl sh_24 ⟨by omega, by omega⟩ k7 ?_
   refine jx_stor c1 hm (L' := [some (.inr (.inr (.inl 23))), some (.inr (.inr (.inl 12))), some (.inl a0), some (.inl a1), some (.inl a2), some (.inl z6), none]) rfl rfl rfl rfl rfl ?_
   refine jx_load c1 hm rfl rfl rfl rfl ?_
   refine jx_load c1 hm rfl rfl rfl rfl ?_
   refine jx_geti c1 hm rfl sh_23 rfl k3 ?_
   refine jc_ne c1 hm 65 rfl rfl (fun h8 => ?_) (fun h8 => ?_)
   ·
    refine jx_load c1 hm rfl rfl rfl rfl ?_
    refine jx_getr c1 hm rfl sh_23 rfl ?_
    refine jy_ic c1 hm rfl (by decide) ?_
    obtain ⟨z9, k10, lz9, uz9⟩ := hH0.ld (c := 24) (i := 0) (A := 0) (B := 5) rfl
    refine jx_iald c1 hm rfl sh_24 ⟨by omega, by omega⟩ k10 ?_
    refine jy_ic c1 hm rfl (by decide) ?_
    refine jy_add c1 hm (z9 + 1) rfl (by omega) ?_
    refine jx_stor c1 hm (L' := [some (.inr (.inr (.inl 23))), some (.inr (.inr (.inl 12))), some (.inl a0), some (.inl a1), some (.inl a2), some (.inl z6), some (.inl (z9 + 1))]) rfl rfl rfl rfl rfl ?_
    have W13 : ∀ (n14 : Nat) (b11 : Int) (hb11 : 1 ≤ b11 ∧ b11 ≤ 6) (M12 : JM) (hH12 : HI (X) M12) (hF12 : Fr md_X6_closes_23_12 M0 M12), (-b11 + 6) < (n14 : Int) → F 75 [some (.inr (.inr (.inl 23))), some (.inr (.inr (.inl 12))), some (.inl a0), some (.inl a1), some (.inl a2), some (.inl z6), some (.inl b11)] [] M12 := by
     intro n14
     induction n14 with
     | zero => intros; omega
     | succ n14 ihW13 =>
      intro b11 hb11 M12 hH12 hF12 hrW13
      refine jx_load c1 hm rfl rfl rfl rfl ?_
      refine jx_load c1 hm rfl rfl rfl rfl ?_
      refine jc_ge c1 hm 142 rfl rfl (fun h15 => ?_) (fun h15 => ?_)
      ·
       refine jy_ic c1 hm rfl (by decide) ?_
       exact jx_retz c2 hm rfl rfl ⟨by omega, by omega⟩ ⟨_, rfl, hH12, hF12, by omega, by omega⟩
      refine jx_load c1 hm rfl rfl rfl rfl ?_
      refine jx_load c1 hm rfl rfl rfl rfl ?_
      refine jx_iopw c1 hm rfl rfl (fun z16 lz16 uz16 => ?_)
      refine jy_ic c1 hm rfl (by decide) ?_
      refine jy_anr c1 hm rfl ⟨by omega, by omega⟩ (fun z17 lz17 uz17 => ?_)
      refine jz_ne c1 hm 136 rfl rfl (fun h18 => ?_) (fun h18 => ?_)
      ·
       refine jx_iinc c1 hm (v := (b11 + 1)) (L' := [some (.inr (.inr (.inl 23))), some (.inr (.inr (.inl 12))), some (.inl a0), some (.inl a1), some (.inl a2), some (.inl z6), some (.inl (b11 + 1))]) rfl rfl (by omega) (by omega) rfl ?_
       refine jx_goto c1 hm 75 rfl rfl ?_
       exact ihW13 (b11 + 1) (by omega) M12 hH12 hF12 (by omega)
      refine jx_load c1 hm rfl rfl rfl rfl ?_
      refine jx_getr c1 hm rfl sh_12 rfl ?_
      refine jx_load c1 hm rfl rfl rfl rfl ?_
      refine jy_bp c1 hm rfl (by decide) ?_
      refine jy_mul c1 hm (6 * z6) rfl (by omega) ?_
      refine jx_load c1 hm rfl rfl rfl rfl ?_
      refine jy_add c1 hm (b11 + 6 * z6) rfl (by omega) ?_
      obtain ⟨z19, k20, lz19, uz19⟩ := hH12.ld (c := 17) (i := ((b11 + 6 * z6)).toNat) (A := (-2147483648)) (B := 2147483647) rfl
      refine jx_iald c1 hm rfl sh_17 ⟨by omega, by omega⟩ k20 ?_
      refine jz_le c1 hm 136 rfl rfl (fun h21 => ?_) (fun h21 => ?_)
      ·
       refine jx_iinc c1 hm (v := (b11 + 1)) (L' := [some (.inr (.inr (.inl 23))), some (.inr (.inr (.inl 12))), some (.inl a0), some (.inl a1), some (.inl a2), some (.inl z6), some (.inl (b11 + 1))]) rfl rfl (by omega) (by omega) rfl ?_
       refine jx_goto c1 hm 75 rfl rfl ?_
       exact ihW13 (b11 + 1) (by omega) M12 hH12 hF12 (by omega)
      refine jx_load c1 hm rfl rfl rfl rfl ?_
      refine jx_getr c1 hm rfl sh_23 rfl ?_
      refine jx_load c1 hm rfl rfl rfl rfl ?_
      refine jx_load c1 hm rfl rfl rfl rfl ?_
      have t22 : 0 ≤ a1 ∧ a1 ≤ 5 := by omega
      obtain ⟨M23, e23, hH23, hF23, k23, n23, _⟩ := mup hH12 hF12 (c := 24) (i := (a1).toNat) (v := b11) (A := 0) (B := 5) rfl ⟨by omega, by omega⟩ (jin_of 0 rfl ⟨by omega, by omega⟩)
      refine jm_iast c1 hm rfl sh_24 ⟨by omega, by omega⟩ e23 ?_
      refine jx_load c1 hm rfl rfl rfl rfl ?_
      refine jx_load c1 hm rfl rfl rfl rfl ?_
      refine jx_load c1 hm rfl rfl rfl rfl ?_
      refine jx_load c1 hm rfl rfl rfl rfl ?_
      refine jy_ic c1 hm rfl (by decide) ?_
      refine jy_add c1 hm (a1 + 1) rfl (by omega) ?_
      refine jx_load c1 hm rfl rfl rfl rfl ?_
      refine jy_ic c1 hm rfl (by decide) ?_
      refine jx_load c1 hm rfl rfl rfl rfl ?_
      refine jy_sh1 c1 hm rfl ⟨by omega, by omega⟩ (fun z24 lz24 uz24 => ?_)
      refine jx_iopw c1 hm rfl rfl (fun z25 lz25 uz25 => ?_)
      refine jv_i c3 hm rfl pj_X6_closes rfl rfl ⟨_, _, _, rfl, sh_23⟩ rfl ((ih X (by omega) M23 hH23 a0 ⟨by omega, by omega⟩ (a1 + 1) ⟨by omega, by omega⟩ z25 ⟨by omega, by omega⟩ (by omega)).le (by omega)) (fun z26 M27 ⟨hH27, hR27, lz26, uz26⟩ => ?_)
      have hF27 := hF23.tr hR27 (by decide +kernel)
      refine jz_eq c1 hm 136 rfl rfl (fun h28 => ?_) (fun h28 => ?_)
      ·
       refine jx_iinc c1 hm (v := (b11 + 1)) (L' := [some (.inr (.inr (.inl 23))), some (.inr (.inr (.inl 12))), some (.inl a0), some (.inl a1), some (.inl a2), some (.inl z6), some (.inl (b11 + 1))]) rfl rfl (by omega) (by omega) rfl ?_
       refine jx_goto c1 hm 75 rfl rfl ?_
       exact ihW13 (b11 + 1) (by omega) M27 hH27 hF27 (by omega)
      refine jy_ic c1 hm rfl (by decide) ?_
      exact jx_retz c2 hm rfl rfl ⟨by omega, by omega⟩ ⟨_, rfl, hH27, hF27, by omega, by omega⟩
    exact W13 ((-z9 + 5) + 1 : Int).toNat (z9 + 1) (by omega) M0 hH0 hF0 (by omega)
   refine jx_load c1 hm rfl rfl rfl rfl ?_
   refine jx_getr c1 hm rfl sh_12 rfl ?_
   refine jx_load c1 hm rfl rfl rfl rfl ?_
   refine jy_bp c1 hm rfl (by decide) ?_
   refine jy_mul c1 hm (6 * z6) rfl (by omega) ?_
   refine jx_load c1 hm rfl rfl rfl rfl ?_
   refine jx_getr c1 hm rfl sh_23 rfl ?_
   refine jy_ic c1 hm rfl (by decide) ?_
   obtain ⟨z29, k30, lz29, uz29⟩ := hH0.ld (c := 24) (i := 0) (A := 0) (B := 5) rfl
   refine jx_iald c1 hm rfl sh_24 ⟨by omega, by omega⟩ k30 ?_
   refine jy_add c1 hm (z29 + 6 * z6) rfl (by omega) ?_
   obtain ⟨z31, k32, lz31, uz31⟩ := hH0.ld (c := 17) (i := ((z29 + 6 * z6)).toNat) (A := (-2147483648)) (B := 2147483647) rfl
   refine jx_iald c1 hm rfl sh_17 ⟨by omega, by omega⟩ k32 ?_
   refine jz_le c1 hm 63 rfl rfl (fun h33 => ?_) (fun h33 => ?_)
   ·
    refine jy_ic c1 hm rfl (by decide) ?_
    exact jx_retz c2 hm rfl rfl ⟨by omega, by omega⟩ ⟨_, rfl, hH0, hF0, by omega, by omega⟩
   refine jy_ic c1 hm rfl (by decide) ?_
   refine jx_goto c1 hm 64 rfl rfl ?_
   exact jx_retz c2 hm rfl rfl ⟨by omega, by omega⟩ ⟨_, rfl, hH0, hF0, by omega, by omega⟩
  exfalso; omega
def md_X6_find_23_12 : List (Nat × (Nat × Nat)) := [(23, (1, 1)), (24, (0, 5))]
theorem ct_X6_find_23_12 (X : Int) (hX : 0 ≤ X ∧ X ≤ 100000000) (M0 : JM) (hH0 : HI X M0) (a0 : Int) (ha0 : 0 ≤ a0 ∧ a0 ≤ 6) : JOk shp PJ 9 246 [.inr (.inr (.inl 23)), .inr (.inr (.inl 12)), .inl a0] M0 (jRi (fun v M' => HI X M' ∧ Fr md_X6_find_23_12 M0 M' ∧ 0 ≤ v ∧ v ≤ 1 )) := by
 refine ⟨jr_X6_find, pj_X6_find, fun F c1 c2 c3 => ?_⟩
 have hm := pj_X6_find
 change F 0 [some (.inr (.inr (.inl 23))), some (.inr (.inr (.inl 12))), some (.inl a0), none, none] [] M0
 have hF0 : Fr md_X6_find_23_12 M0 M0 := Fr.rf _ _
 refine jy_ic c1 hm rfl (by decide) ?_
 refine jx_stor c1 hm (L' := [some (.inr (.inr (.inl 23))), some (.inr (.inr (.inl 12))), some (.inl a0), some (.inl 2), none]) rfl rfl rfl rfl rfl ?_
 have W4 : ∀ (n5 : Nat) (b1 : Int) (hb1 : 2 ≤ b1 ∧ b1 ≤ 7) (o2 : Option JV) (ho2 : o2 = none ∨ (∃ z, o2 = some (.inl z)) ∨ ∃ r, o2 = some (.inr (.inr r))) (M3 : JM) (hH3 : HI (X) M3) (hF3 : Fr md_X6_find_23_12 M0 M3), (-b1 + 7) < (n5 : Int) → F 2 [some (.inr (.inr (.inl 23))), some (.inr (.inr (.inl 12))), some (.inl a0), some (.inl b1), o2] [] M3 := by
  intro n5
  induction n5 with
  | zero => intros; omega
  | succ n5 ihW4 =>
   intro b1 hb1 o2 ho2 M3 hH3 hF3 hrW4
   refine jx_load c1 hm rfl rfl rfl rfl ?_
   refine jx_load c1 hm rfl rfl rfl rfl ?_
   refine jc_gt c1 hm 57 rfl rfl (fun h6 => ?_) (fun h6 => ?_)
   ·
    refine jx_load c1 hm rfl rfl rfl rfl ?_
    refine jy_ic c1 hm rfl (by decide) ?_
    obtain ⟨M7, e7, hH7, hF7, k7, n7, _⟩ := mup hH3 hF3 (c := 23) (i := 1) (v := 0) (A := 0) (B := 6) (bs_22_1 _ _ (by omega) (by omega)) ⟨by omega, by omega⟩ (jin_of 0 rfl ⟨by omega, by omega⟩)
    refine jm_puti c1 hm rfl sh_23 rfl e7 ?_
    refine jy_ic c1 hm rfl (by decide) ?_
    exact jx_retz c2 hm rfl rfl ⟨by omega, by omega⟩ ⟨_, rfl, hH7, hF7, by omega, by omega⟩
   refine jy_ic c1 hm rfl (by decide) ?_
   refine jx_stor c1 hm (L' := [some (.inr (.inr (.inl 23))), some (.inr (.inr (.inl 12))), some (.inl a0), some (.inl b1), some (.inl 0)]) rfl rfl rfl rfl rfl ?_
   have W10 : ∀ (n11 : Nat) (b8 : Int) (hb8 : 0 ≤ b8 ∧ b8 ≤ 6) (M9 : JM) (hH9 : HI (X) M9) (hF9 : Fr md_X6_find_23_12 M0 M9), (-b8 + 6) < (n11 : Int) → F 10 [some (.inr (.inr (.inl 23))), some (.inr (.inr (.inl 12))), some (.inl a0), some (.inl b1), some (.inl b8)] [] M9 := by
    intro n11
    induction n11 with
    | zero => intros; omega
    | succ n11 ihW10 =>
     intro b8 hb8 M9 hH9 hF9 hrW10
     refine jx_load c1 hm rfl rfl rfl rfl ?_
     refine jx_load c1 hm rfl rfl rfl rfl ?_
     refine jc_ge c1 hm 51 rfl rfl (fun h12 => ?_) (fun h12 => ?_)
     ·
      refine jx_iinc c1 hm (v := (b1 + 1)) (L' := [some (.inr (.inr (.inl 23))), some (.inr (.inr (.inl 12))), some (.inl a0), some (.inl (b1 + 1)), some (.inl b8)]) rfl rfl (by omega) (by omega) rfl ?_
      refine jx_goto c1 hm 2 rfl rfl ?_
      exact ihW4 (b1 + 1) (by omega) (some (.inl b8)) (Or.inr (Or.inl ⟨_, rfl⟩)) M9 hH9 hF9 (by omega)
     refine jx_load c1 hm rfl rfl rfl rfl ?_
     refine jx_getr c1 hm rfl sh_23 rfl ?_
     refine jy_ic c1 hm rfl (by decide) ?_
     refine jx_load c1 hm rfl rfl rfl rfl ?_
     obtain ⟨M13, e13, hH13, hF13, k13, n13, _⟩ := mup hH9 hF9 (c := 24) (i := 0) (v := b8) (A := 0) (B := 5) rfl ⟨by omega, by omega⟩ (jin_of 1 rfl ⟨by omega, by omega⟩)
     refine jm_iast c1 hm rfl sh_24 ⟨by omega, by omega⟩ e13 ?_
     refine jx_load c1 hm rfl rfl rfl rfl ?_
     refine jx_load c1 hm rfl rfl rfl rfl ?_
     obtain ⟨M14, e14, hH14, hF14, k14, n14, _⟩ := mup hH13 hF13 (c := 23) (i := 1) (v := b1) (A := 0) (B := 6) (bs_22_1 _ _ (by omega) (by omega)) ⟨by omega, by omega⟩ (jin_of 0 rfl ⟨by omega, by omega⟩)
     refine jm_puti c1 hm rfl sh_23 rfl e14 ?_
     refine jx_load c1 hm rfl rfl rfl rfl ?_
     refine jx_load c1 hm rfl rfl rfl rfl ?_
     refine jx_load c1 hm rfl rfl rfl rfl ?_
     refine jy_ic c1 hm rfl (by decide) ?_
     refine jy_ic c1 hm rfl (by decide) ?_
     refine jx_load c1 hm rfl rfl rfl rfl ?_
     refine jy_sh1 c1 hm rfl ⟨by omega, by omega⟩ (fun z15 lz15 uz15 => ?_)
     refine jv_i c3 hm rfl pj_X6_closes rfl rfl ⟨_, _, _, rfl, sh_23⟩ rfl ((ct_X6_closes_23_12 7 X (by omega) M14 hH14 a0 ⟨by omega, by omega⟩ 1 ⟨by omega, by omega⟩ z15 ⟨by omega, by omega⟩ (by omega)).le (by decide)) (fun z16 M17 ⟨hH17, hR17, lz16, uz16⟩ => ?_)
     have hF17 := hF14.tr hR17 (by decide +kernel)
     refine jz_eq c1 hm 45 rfl rfl (fun h18 => ?_) (fun h18 => ?_)
     ·
      refine jx_iinc c1 hm (v := (b8 + 1)) (L' := [some (.inr (.inr (.inl 23))), some (.inr (.inr (.inl 12))), some (.inl a0), some (.inl b1), some (.inl (b8 + 1))]) rfl rfl (by omega) (by omega) rfl ?_
      refine jx_goto c1 hm 10 rfl rfl ?_
      exact ihW10 (b8 + 1) (by omega) M17 hH17 hF17 (by omega)
     refine jy_ic c1 hm rfl (by decide) ?_
     exact jx_retz c2 hm rfl rfl ⟨by omega, by omega⟩ ⟨_, rfl, hH17, hF17, by omega, by omega⟩
   exact W10 (6 + 1 : Int).toNat 0 (by omega) M3 hH3 hF3 (by omega)
 exact W4 (5 + 1 : Int).toNat 2 (by omega) none (Or.inl rfl) M0 hH0 hF0 (by omega)
def md_X0_whyNot_4_12 : List (Nat × (Nat × Nat)) := [(23, (1, 1)), (24, (0, 5))]
theorem ct_X0_whyNot_4_12 (X : Int) (hX : 0 ≤ X ∧ X ≤ 100000000) (M0 : JM) (hH0 : HI X M0) (a0 : Int) (ha0 : 0 ≤ a0 ∧ a0 ≤ 5) (a1 : Int) (ha1 : 0 ≤ a1 ∧ a1 ≤ 5) (a2 : Int) (ha2 : 0 ≤ a2 ∧ a2 ≤ 5) (a3 : Int) (ha3 : (-2147483648) ≤ a3 ∧ a3 ≤ 2147483647) : JOk shp PJ 10 13 [.inr (.inr (.inl 4)), .inr (.inr (.inl 12)), .inl a0, .inl a1, .inl a2, .inl a3] M0 (jRi (fun v M' => HI X M' ∧ Fr md_X0_whyNot_4_12 M0 M' ∧ 0 ≤ v ∧ v ≤ 2 )) := by
 refine ⟨jr_X0_whyNot, pj_X0_whyNot, fun F c1 c2 c3 => ?_⟩
 have hm := pj_X0_whyNot
 change F 0 [some (.inr (.inr (.inl 4))), some (.inr (.inr (.inl 12))), some (.inl a0), some (.inl a1), some (.inl a2), some (.inl a3), none] [] M0
 have hF0 : Fr md_X0_whyNot_4_12 M0 M0 := Fr.rf _ _
 refine jx_load c1 hm rfl rfl rfl rfl ?_
 by_cases h1 : a0 = 0
 ·
  refine jx_tswI c1 hm 36 rfl ⟨by omega, by omega⟩ (by rw [h1] <;> rfl) rfl ?_
  refine jx_load c1 hm rfl rfl rfl rfl ?_
  refine jx_getr c1 hm rfl sh_4 rfl ?_
  refine jx_load c1 hm rfl rfl rfl rfl ?_
  refine jx_load c1 hm rfl rfl rfl rfl ?_
  refine jx_load c1 hm rfl rfl rfl rfl ?_
  refine jv_i c3 hm rfl pj_X2_costNow rfl rfl ⟨_, _, _, rfl, sh_5⟩ rfl ((ct_X2_costNow_5_12 X (by omega) M0 hH0 a1 ⟨by omega, by omega⟩ a2 ⟨by omega, by omega⟩).le (by decide)) (fun z2 _ ⟨rfl, lz2, uz2⟩ => ?_)
  refine jx_stor c1 hm (L' := [some (.inr (.inr (.inl 4))), some (.inr (.inr (.inl 12))), some (.inl a0), some (.inl a1), some (.inl a2), some (.inl a3), some (.inl z2)]) rfl rfl rfl rfl rfl ?_
  refine jx_load c1 hm rfl rfl rfl rfl ?_
  refine jz_ne c1 hm 58 rfl rfl (fun h3 => ?_) (fun h3 => ?_)
  ·
   refine jx_load c1 hm rfl rfl rfl rfl ?_
   refine jx_getr c1 hm rfl sh_12 rfl ?_
   refine jx_load c1 hm rfl rfl rfl rfl ?_
   obtain ⟨z4, k5, lz4, uz4⟩ := hH0.ld (c := 13) (i := (a1).toNat) (A := (-2147483648)) (B := 2147483647) rfl
   refine jx_iald c1 hm rfl sh_13 ⟨by omega, by omega⟩ k5 ?_
   refine jx_load c1 hm rfl rfl rfl rfl ?_
   refine jc_ge c1 hm 73 rfl rfl (fun h6 => ?_) (fun h6 => ?_)
   ·
    refine jy_ic c1 hm rfl (by decide) ?_
    exact jx_reti c2 hm rfl rfl ⟨_, rfl, hH0, hF0, by omega, by omega⟩
   refine jy_ic c1 hm rfl (by decide) ?_
   refine jx_goto c1 hm 74 rfl rfl ?_
   exact jx_reti c2 hm rfl rfl ⟨_, rfl, hH0, hF0, by omega, by omega⟩
  refine jy_ic c1 hm rfl (by decide) ?_
  refine jx_goto c1 hm 74 rfl rfl ?_
  exact jx_reti c2 hm rfl rfl ⟨_, rfl, hH0, hF0, by omega, by omega⟩
 by_cases h7 : a0 = 1
 ·
  refine jx_tswI c1 hm 75 rfl ⟨by omega, by omega⟩ (by rw [h7] <;> rfl) rfl ?_
  refine jx_load c1 hm rfl rfl rfl rfl ?_
  refine jx_getr c1 hm rfl sh_12 rfl ?_
  refine jx_load c1 hm rfl rfl rfl rfl ?_
  obtain ⟨z8, k9, lz8, uz8⟩ := hH0.ld (c := 16) (i := (a2).toNat) (A := (-2147483648)) (B := 2147483647) rfl
  refine jx_iald c1 hm rfl sh_16 ⟨by omega, by omega⟩ k9 ?_
  refine jz_ne c1 hm 89 rfl rfl (fun h10 => ?_) (fun h10 => ?_)
  ·
   refine jx_load c1 hm rfl rfl rfl rfl ?_
   refine jx_getr c1 hm rfl sh_12 rfl ?_
   refine jx_load c1 hm rfl rfl rfl rfl ?_
   obtain ⟨z11, k12, lz11, uz11⟩ := hH0.ld (c := 14) (i := (a1).toNat) (A := (-2147483648)) (B := 2147483647) rfl
   refine jx_iald c1 hm rfl sh_14 ⟨by omega, by omega⟩ k12 ?_
   refine jx_load c1 hm rfl rfl rfl rfl ?_
   refine jx_getr c1 hm rfl sh_4 rfl ?_
   refine jx_getr c1 hm rfl sh_5 rfl ?_
   refine jx_load c1 hm rfl rfl rfl rfl ?_
   obtain ⟨z13, k14, lz13, uz13⟩ := hH0.ld (c := 11) (i := (a2).toNat) (A := 0) (B := 99) rfl
   refine jx_iald c1 hm rfl sh_11 ⟨by omega, by omega⟩ k14 ?_
   refine jc_ge c1 hm 112 rfl rfl (fun h15 => ?_) (fun h15 => ?_)
   ·
    refine jy_ic c1 hm rfl (by decide) ?_
    exact jx_reti c2 hm rfl rfl ⟨_, rfl, hH0, hF0, by omega, by omega⟩
   refine jy_ic c1 hm rfl (by decide) ?_
   refine jx_goto c1 hm 113 rfl rfl ?_
   exact jx_reti c2 hm rfl rfl ⟨_, rfl, hH0, hF0, by omega, by omega⟩
  refine jy_ic c1 hm rfl (by decide) ?_
  refine jx_goto c1 hm 113 rfl rfl ?_
  exact jx_reti c2 hm rfl rfl ⟨_, rfl, hH0, hF0, by omega, by omega⟩
 by_cases h16 : a0 = 2
 ·
  refine jx_tswI c1 hm 114 rfl ⟨by omega, by omega⟩ (by rw [h16] <;> rfl) rfl ?_
  refine jx_load c1 hm rfl rfl rfl rfl ?_
  refine jx_load c1 hm rfl rfl rfl rfl ?_
  refine jc_ne c1 hm 124 rfl rfl (fun h17 => ?_) (fun h17 => ?_)
  ·
   refine jx_load c1 hm rfl rfl rfl rfl ?_
   refine jx_getr c1 hm rfl sh_12 rfl ?_
   refine jx_load c1 hm rfl rfl rfl rfl ?_
   obtain ⟨z18, k19, lz18, uz18⟩ := hH0.ld (c := 14) (i := (a1).toNat) (A := (-2147483648)) (B := 2147483647) rfl
   refine jx_iald c1 hm rfl sh_14 ⟨by omega, by omega⟩ k19 ?_
   refine jx_load c1 hm rfl rfl rfl rfl ?_
   refine jc_ge c1 hm 139 rfl rfl (fun h20 => ?_) (fun h20 => ?_)
   ·
    refine jy_ic c1 hm rfl (by decide) ?_
    exact jx_reti c2 hm rfl rfl ⟨_, rfl, hH0, hF0, by omega, by omega⟩
   refine jy_ic c1 hm rfl (by decide) ?_
   refine jx_goto c1 hm 140 rfl rfl ?_
   exact jx_reti c2 hm rfl rfl ⟨_, rfl, hH0, hF0, by omega, by omega⟩
  refine jy_ic c1 hm rfl (by decide) ?_
  refine jx_goto c1 hm 140 rfl rfl ?_
  exact jx_reti c2 hm rfl rfl ⟨_, rfl, hH0, hF0, by omega, by omega⟩
 by_cases h21 : a0 = 3
 ·
  refine jx_tswI c1 hm 141 rfl ⟨by omega, by omega⟩ (by rw [h21] <;> rfl) rfl ?_
  refine jx_load c1 hm rfl rfl rfl rfl ?_
  refine jx_getr c1 hm rfl sh_12 rfl ?_
  refine jx_load c1 hm rfl rfl rfl rfl ?_
  refine jy_bp c1 hm rfl (by decide) ?_
  refine jy_mul c1 hm (6 * a1) rfl (by omega) ?_
  refine jx_load c1 hm rfl rfl rfl rfl ?_
  refine jy_add c1 hm (6 * a1 + a2) rfl (by omega) ?_
  obtain ⟨z22, k23, lz22, uz22⟩ := hH0.ld (c := 17) (i := ((6 * a1 + a2)).toNat) (A := (-2147483648)) (B := 2147483647) rfl
  refine jx_iald c1 hm rfl sh_17 ⟨by omega, by omega⟩ k23 ?_
  refine jx_load c1 hm rfl rfl rfl rfl ?_
  refine jc_ge c1 hm 162 rfl rfl (fun h24 => ?_) (fun h24 => ?_)
  ·
   refine jx_load c1 hm rfl rfl rfl rfl ?_
   refine jx_getr c1 hm rfl sh_12 rfl ?_
   refine jx_load c1 hm rfl rfl rfl rfl ?_
   obtain ⟨z25, k26, lz25, uz25⟩ := hH0.ld (c := 14) (i := (a1).toNat) (A := (-2147483648)) (B := 2147483647) rfl
   refine jx_iald c1 hm rfl sh_14 ⟨by omega, by omega⟩ k26 ?_
   refine jx_load c1 hm rfl rfl rfl rfl ?_
   refine jc_ge c1 hm 177 rfl rfl (fun h27 => ?_) (fun h27 => ?_)
   ·
    refine jy_ic c1 hm rfl (by decide) ?_
    exact jx_reti c2 hm rfl rfl ⟨_, rfl, hH0, hF0, by omega, by omega⟩
   refine jy_ic c1 hm rfl (by decide) ?_
   refine jx_goto c1 hm 178 rfl rfl ?_
   exact jx_reti c2 hm rfl rfl ⟨_, rfl, hH0, hF0, by omega, by omega⟩
  refine jy_ic c1 hm rfl (by decide) ?_
  refine jx_goto c1 hm 178 rfl rfl ?_
  exact jx_reti c2 hm rfl rfl ⟨_, rfl, hH0, hF0, by omega, by omega⟩
 by_cases h28 : a0 = 4
 ·
  refine jx_tswI c1 hm 179 rfl ⟨by omega, by omega⟩ (by rw [h28] <;> rfl) rfl ?_
  refine jx_load c1 hm rfl rfl rfl rfl ?_
  refine jx_getr c1 hm rfl sh_4 rfl ?_
  refine jx_load c1 hm rfl rfl rfl rfl ?_
  refine jx_load c1 hm rfl rfl rfl rfl ?_
  refine jx_getr c1 hm rfl sh_4 rfl ?_
  refine jv_i c3 hm rfl pj_X2_men rfl rfl ⟨_, _, _, rfl, sh_5⟩ rfl ((ct_X2_men_5 X (by omega) M0 hH0 ).le (by decide)) (fun z29 _ ⟨rfl, lz29, uz29⟩ => ?_)
  refine jv_i c3 hm rfl pj_X6_find rfl rfl ⟨_, _, _, rfl, sh_23⟩ rfl ((ct_X6_find_23_12 X (by omega) M0 hH0 z29 ⟨by omega, by omega⟩).le (by decide)) (fun z30 M31 ⟨hH31, hR31, lz30, uz30⟩ => ?_)
  have hF31 := hF0.tr hR31 (by decide +kernel)
  refine jz_eq c1 hm 201 rfl rfl (fun h32 => ?_) (fun h32 => ?_)
  ·
   refine jy_ic c1 hm rfl (by decide) ?_
   exact jx_reti c2 hm rfl rfl ⟨_, rfl, hH31, hF31, by omega, by omega⟩
  refine jy_ic c1 hm rfl (by decide) ?_
  refine jx_goto c1 hm 202 rfl rfl ?_
  exact jx_reti c2 hm rfl rfl ⟨_, rfl, hH31, hF31, by omega, by omega⟩
 refine jx_tswO c1 hm 203 rfl (by omega) rfl ?_
 refine jy_sp c1 hm rfl (by decide) ?_
 refine jx_load c1 hm rfl rfl rfl rfl ?_
 obtain ⟨z33, k34, lz33, uz33⟩ := hH0.ld (c := 12) (i := 7) (A := (-2147483648)) (B := 2147483647) rfl
 refine jx_geti c1 hm rfl sh_12 rfl k34 ?_
 refine jx_iopw c1 hm rfl rfl (fun z35 lz35 uz35 => ?_)
 refine jx_load c1 hm rfl rfl rfl rfl ?_
 refine jc_ge c1 hm 220 rfl rfl (fun h36 => ?_) (fun h36 => ?_)
 ·
  refine jy_ic c1 hm rfl (by decide) ?_
  exact jx_reti c2 hm rfl rfl ⟨_, rfl, hH0, hF0, by omega, by omega⟩
 refine jy_ic c1 hm rfl (by decide) ?_
 refine jx_goto c1 hm 221 rfl rfl ?_
 exact jx_reti c2 hm rfl rfl ⟨_, rfl, hH0, hF0, by omega, by omega⟩
