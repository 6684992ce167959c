/-! Contracts that tell the five numbers of a Duchy (by wip/q/wlk.py). -/
def md_X2_fillWhatWasNotTold_27w : List (Nat × (Nat × Nat)) := [(27, (6, 6)), (27, (7, 7)), (32, (0, 35))]
theorem ct_X2_fillWhatWasNotTold_27w (X : Int) (hX : 0 ≤ X ∧ X ≤ 100000000) (M0 : JM) (hH0 : HI X M0)  : JOk shp PJ 2 216 [.inr (.inr (.inl 27))] M0 (jRv (fun M' => HI X M' ∧ Fr md_X2_fillWhatWasNotTold_27w M0 M' ∧ (0 ≤ M'.1 27 6 ∧ 0 ≤ M'.1 27 7) ∧ (M'.1 27 6 = wdf (M0.1 27 6)) ∧ (M'.1 27 7 = wdf (M0.1 27 7)))) := by
 refine ⟨jr_X2_fillWhatWasNotTold, pj_X2_fillWhatWasNotTold, fun F c1 c2 c3 => ?_⟩
 have hm := pj_X2_fillWhatWasNotTold
 change F 0 [some (.inr (.inr (.inl 27))), none] [] M0
 have hF0 : Fr md_X2_fillWhatWasNotTold_27w M0 M0 := Fr.rf _ _
 obtain ⟨z1, k2, lz1, uz1⟩ := hH0.ld (c := 27) (i := 6) (A := (-1)) (B := 9) (bs_23_1 _ _ (by omega) (by omega))
 obtain ⟨z3, k4, lz3, uz3⟩ := hH0.ld (c := 27) (i := 7) (A := (-1)) (B := 9) (bs_23_1 _ _ (by omega) (by omega))
 refine jx_load c1 hm rfl rfl rfl rfl ?_
 refine jx_load c1 hm rfl rfl rfl rfl ?_
 refine jx_geti c1 hm rfl sh_27 rfl k2 ?_
 refine jy_ic c1 hm rfl (by decide) ?_
 refine jc_ne c1 hm 13 rfl rfl (fun h5 => ?_) (fun h5 => ?_)
 ·
  refine jx_load c1 hm rfl rfl rfl rfl ?_
  refine jx_geti c1 hm rfl sh_27 rfl k2 ?_
  obtain ⟨M6, e6, hH6, hF6, k6, n6, q6⟩ := mup hH0 hF0 (c := 27) (i := 6) (v := z1) (A := (-1)) (B := 9) (bs_23_1 _ _ (by omega) (by omega)) ⟨by omega, by omega⟩ (jin_of 0 rfl ⟨by omega, by omega⟩)
  refine jm_puti c1 hm rfl sh_27 rfl e6 ?_
  refine jx_load c1 hm rfl rfl rfl rfl ?_
  refine jx_load c1 hm rfl rfl rfl rfl ?_
  have k7 : M6.1 27 7 = z3 := (n6 27 7 (by decide)).trans k4
  refine jx_geti c1 hm rfl sh_27 rfl k7 ?_
  refine jy_ic c1 hm rfl (by decide) ?_
  refine jc_ne c1 hm 33 rfl rfl (fun h8 => ?_) (fun h8 => ?_)
  ·
   refine jx_load c1 hm rfl rfl rfl rfl ?_
   refine jx_geti c1 hm rfl sh_27 rfl k7 ?_
   obtain ⟨M9, e9, hH9, hF9, k9, n9, q9⟩ := mup hH6 hF6 (c := 27) (i := 7) (v := z3) (A := (-1)) (B := 9) (bs_23_1 _ _ (by omega) (by omega)) ⟨by omega, by omega⟩ (jin_of 1 rfl ⟨by omega, by omega⟩)
   refine jm_puti c1 hm rfl sh_27 rfl e9 ?_
   refine jy_ic c1 hm rfl (by decide) ?_
   refine jx_stor c1 hm (L' := [some (.inr (.inr (.inl 27))), some (.inl 0)]) rfl rfl rfl rfl rfl ?_
   have W15 : ∀ (n16 : Nat) (b10 : Int) (hb10 : 0 ≤ b10 ∧ b10 ≤ 36) (M11 : JM) (hH11 : HI (X) M11) (hF11 : Fr md_X2_fillWhatWasNotTold_27w M0 M11) (k13 : M11.1 27 6 = z1) (k14 : M11.1 27 7 = z3), (-b10 + 36) < (n16 : Int) → F 42 [some (.inr (.inr (.inl 27))), some (.inl b10)] [] M11 := by
    intro n16
    induction n16 with
    | zero => intros; omega
    | succ n16 ihW15 =>
     intro b10 hb10 M11 hH11 hF11 k13 k14 hrW15
     refine jx_load c1 hm rfl rfl rfl rfl ?_
     refine jy_bp c1 hm rfl (by decide) ?_
     refine jc_ge c1 hm 94 rfl rfl (fun h17 => ?_) (fun h17 => ?_)
     ·
      exact jx_retv c2 hm rfl rfl ⟨rfl, hH11, hF11, (by omega), (by unfold wdf; split <;> omega), (by unfold wdf; split <;> omega)⟩
     refine jx_load c1 hm rfl rfl rfl rfl ?_
     refine jx_getr c1 hm rfl sh_27 rfl ?_
     refine jx_load c1 hm rfl rfl rfl rfl ?_
     obtain ⟨z18, k19, lz18, uz18⟩ := hH11.ld (c := 32) (i := (b10).toNat) (A := (-1)) (B := 20) rfl
     refine jx_iald c1 hm rfl sh_32 ⟨by omega, by omega⟩ k19 ?_
     refine jy_ic c1 hm rfl (by decide) ?_
     have J35 : ∀ (M30 : JM) (hH30 : HI (X) M30) (hF30 : Fr md_X2_fillWhatWasNotTold_27w M0 M30) (k32 : M30.1 27 6 = z1) (k34 : M30.1 27 7 = z3), F 88 [some (.inr (.inr (.inl 27))), some (.inl b10)] [] M30 := by
      intro M30 hH30 hF30 k32 k34
      refine jx_iinc c1 hm (v := (b10 + 1)) (L' := [some (.inr (.inr (.inl 27))), some (.inl (b10 + 1))]) rfl rfl (by omega) (by omega) rfl ?_
      refine jx_goto c1 hm 42 rfl rfl ?_
      exact ihW15 (b10 + 1) (by omega) M30 hH30 hF30 k32 k34 (by omega)
     refine jc_ne c1 hm 88 rfl rfl (fun h20 => ?_) (fun h20 => ?_)
     ·
      exact J35 M11 hH11 hF11 k13 k14
     refine jx_load c1 hm rfl rfl rfl rfl ?_
     refine jx_getr c1 hm rfl sh_27 rfl ?_
     refine jx_load c1 hm rfl rfl rfl rfl ?_
     refine jx_load c1 hm rfl rfl rfl rfl ?_
     refine jy_bp c1 hm rfl (by decide) ?_
     refine jy_rem c1 hm rfl ⟨by omega, by omega, by omega, by omega⟩ (fun z21 ez21 lz21 uz21 => ?_)
     refine jx_load c1 hm rfl rfl rfl rfl ?_
     refine jv_i c3 hm rfl pj_X2_forfeits rfl rfl ⟨_, _, _, rfl, sh_27⟩ rfl ((ct_X2_forfeits_27 X (by omega) M11 hH11 ).le (by decide)) (fun z22 _ ⟨rfl, lz22, uz22⟩ => ?_)
     have J28 : ∀ (b27 : Int) (hb27 : 0 ≤ b27 ∧ b27 ≤ 20), F 87 [some (.inr (.inr (.inl 27))), some (.inl b10)] [.inl b27, .inl b10, .inr (.inr (.inl 32))] M11 := by
      intro b27 hb27
      obtain ⟨M29, e29, hH29, hF29, k29, n29, q29⟩ := mup hH11 hF11 (c := 32) (i := (b10).toNat) (v := b27) (A := (-1)) (B := 20) rfl ⟨by omega, by omega⟩ (jin_of 2 rfl ⟨by omega, by omega⟩)
      refine jm_iast c1 hm rfl sh_32 ⟨by omega, by omega⟩ e29 ?_
      have k31 : M29.1 27 6 = z1 := (n29 27 6 (fun h => absurd h.1 (by decide))).trans k13
      have k33 : M29.1 27 7 = z3 := (n29 27 7 (fun h => absurd h.1 (by decide))).trans k14
      exact J35 M29 hH29 hF29 k31 k33
     refine jc_ge c1 hm 86 rfl rfl (fun h23 => ?_) (fun h23 => ?_)
     ·
      refine jy_ic c1 hm rfl (by decide) ?_
      exact J28 0 (by omega)
     refine jx_load c1 hm rfl rfl rfl rfl ?_
     refine jx_getr c1 hm rfl sh_27 rfl ?_
     refine jx_load c1 hm rfl rfl rfl rfl ?_
     refine jy_bp c1 hm rfl (by decide) ?_
     refine jy_rem c1 hm rfl ⟨by omega, by omega, by omega, by omega⟩ (fun z24 ez24 lz24 uz24 => ?_)
     obtain ⟨z25, k26, lz25, uz25⟩ := hH11.ld (c := 31) (i := (z24).toNat) (A := 0) (B := 20) rfl
     refine jx_iald c1 hm rfl sh_31 ⟨by omega, by omega⟩ k26 ?_
     refine jx_goto c1 hm 87 rfl rfl ?_
     exact J28 z25 (by omega)
   have k12 : M9.1 27 6 = z1 := (n9 27 6 (by decide)).trans k6
   exact W15 (36 + 1 : Int).toNat 0 (by omega) M9 hH9 hF9 k12 k9 (by omega)
  refine jy_ic c1 hm rfl (by decide) ?_
  refine jx_goto c1 hm 37 rfl rfl ?_
  obtain ⟨M36, e36, hH36, hF36, k36, n36, q36⟩ := mup hH6 hF6 (c := 27) (i := 7) (v := 1) (A := (-1)) (B := 9) (bs_23_1 _ _ (by omega) (by omega)) ⟨by omega, by omega⟩ (jin_of 1 rfl ⟨by omega, by omega⟩)
  refine jm_puti c1 hm rfl sh_27 rfl e36 ?_
  refine jy_ic c1 hm rfl (by decide) ?_
  refine jx_stor c1 hm (L' := [some (.inr (.inr (.inl 27))), some (.inl 0)]) rfl rfl rfl rfl rfl ?_
  have W42 : ∀ (n43 : Nat) (b37 : Int) (hb37 : 0 ≤ b37 ∧ b37 ≤ 36) (M38 : JM) (hH38 : HI (X) M38) (hF38 : Fr md_X2_fillWhatWasNotTold_27w M0 M38) (k40 : M38.1 27 6 = z1) (k41 : M38.1 27 7 = 1), (-b37 + 36) < (n43 : Int) → F 42 [some (.inr (.inr (.inl 27))), some (.inl b37)] [] M38 := by
   intro n43
   induction n43 with
   | zero => intros; omega
   | succ n43 ihW42 =>
    intro b37 hb37 M38 hH38 hF38 k40 k41 hrW42
    refine jx_load c1 hm rfl rfl rfl rfl ?_
    refine jy_bp c1 hm rfl (by decide) ?_
    refine jc_ge c1 hm 94 rfl rfl (fun h44 => ?_) (fun h44 => ?_)
    ·
     exact jx_retv c2 hm rfl rfl ⟨rfl, hH38, hF38, (by omega), (by unfold wdf; split <;> omega), (by unfold wdf; split <;> omega)⟩
    refine jx_load c1 hm rfl rfl rfl rfl ?_
    refine jx_getr c1 hm rfl sh_27 rfl ?_
    refine jx_load c1 hm rfl rfl rfl rfl ?_
    obtain ⟨z45, k46, lz45, uz45⟩ := hH38.ld (c := 32) (i := (b37).toNat) (A := (-1)) (B := 20) rfl
    refine jx_iald c1 hm rfl sh_32 ⟨by omega, by omega⟩ k46 ?_
    refine jy_ic c1 hm rfl (by decide) ?_
    have J62 : ∀ (M57 : JM) (hH57 : HI (X) M57) (hF57 : Fr md_X2_fillWhatWasNotTold_27w M0 M57) (k59 : M57.1 27 6 = z1) (k61 : M57.1 27 7 = 1), F 88 [some (.inr (.inr (.inl 27))), some (.inl b37)] [] M57 := by
     intro M57 hH57 hF57 k59 k61
     refine jx_iinc c1 hm (v := (b37 + 1)) (L' := [some (.inr (.inr (.inl 27))), some (.inl (b37 + 1))]) rfl rfl (by omega) (by omega) rfl ?_
     refine jx_goto c1 hm 42 rfl rfl ?_
     exact ihW42 (b37 + 1) (by omega) M57 hH57 hF57 k59 k61 (by omega)
    refine jc_ne c1 hm 88 rfl rfl (fun h47 => ?_) (fun h47 => ?_)
    ·
     exact J62 M38 hH38 hF38 k40 k41
    refine jx_load c1 hm rfl rfl rfl rfl ?_
    refine jx_getr c1 hm rfl sh_27 rfl ?_
    refine jx_load c1 hm rfl rfl rfl rfl ?_
    refine jx_load c1 hm rfl rfl rfl rfl ?_
    refine jy_bp c1 hm rfl (by decide) ?_
    refine jy_rem c1 hm rfl ⟨by omega, by omega, by omega, by omega⟩ (fun z48 ez48 lz48 uz48 => ?_)
    refine jx_load c1 hm rfl rfl rfl rfl ?_
    refine jv_i c3 hm rfl pj_X2_forfeits rfl rfl ⟨_, _, _, rfl, sh_27⟩ rfl ((ct_X2_forfeits_27 X (by omega) M38 hH38 ).le (by decide)) (fun z49 _ ⟨rfl, lz49, uz49⟩ => ?_)
    have J55 : ∀ (b54 : Int) (hb54 : 0 ≤ b54 ∧ b54 ≤ 20), F 87 [some (.inr (.inr (.inl 27))), some (.inl b37)] [.inl b54, .inl b37, .inr (.inr (.inl 32))] M38 := by
     intro b54 hb54
     obtain ⟨M56, e56, hH56, hF56, k56, n56, q56⟩ := mup hH38 hF38 (c := 32) (i := (b37).toNat) (v := b54) (A := (-1)) (B := 20) rfl ⟨by omega, by omega⟩ (jin_of 2 rfl ⟨by omega, by omega⟩)
     refine jm_iast c1 hm rfl sh_32 ⟨by omega, by omega⟩ e56 ?_
     have k58 : M56.1 27 6 = z1 := (n56 27 6 (fun h => absurd h.1 (by decide))).trans k40
     have k60 : M56.1 27 7 = 1 := (n56 27 7 (fun h => absurd h.1 (by decide))).trans k41
     exact J62 M56 hH56 hF56 k58 k60
    refine jc_ge c1 hm 86 rfl rfl (fun h50 => ?_) (fun h50 => ?_)
    ·
     refine jy_ic c1 hm rfl (by decide) ?_
     exact J55 0 (by omega)
    refine jx_load c1 hm rfl rfl rfl rfl ?_
    refine jx_getr c1 hm rfl sh_27 rfl ?_
    refine jx_load c1 hm rfl rfl rfl rfl ?_
    refine jy_bp c1 hm rfl (by decide) ?_
    refine jy_rem c1 hm rfl ⟨by omega, by omega, by omega, by omega⟩ (fun z51 ez51 lz51 uz51 => ?_)
    obtain ⟨z52, k53, lz52, uz52⟩ := hH38.ld (c := 31) (i := (z51).toNat) (A := 0) (B := 20) rfl
    refine jx_iald c1 hm rfl sh_31 ⟨by omega, by omega⟩ k53 ?_
    refine jx_goto c1 hm 87 rfl rfl ?_
    exact J55 z52 (by omega)
  have k39 : M36.1 27 6 = z1 := (n36 27 6 (by decide)).trans k6
  exact W42 (36 + 1 : Int).toNat 0 (by omega) M36 hH36 hF36 k39 k36 (by omega)
 refine jy_ic c1 hm rfl (by decide) ?_
 refine jx_goto c1 hm 17 rfl rfl ?_
 obtain ⟨M63, e63, hH63, hF63, k63, n63, q63⟩ := mup hH0 hF0 (c := 27) (i := 6) (v := 1) (A := (-1)) (B := 9) (bs_23_1 _ _ (by omega) (by omega)) ⟨by omega, by omega⟩ (jin_of 0 rfl ⟨by omega, by omega⟩)
 refine jm_puti c1 hm rfl sh_27 rfl e63 ?_
 refine jx_load c1 hm rfl rfl rfl rfl ?_
 refine jx_load c1 hm rfl rfl rfl rfl ?_
 have k64 : M63.1 27 7 = z3 := (n63 27 7 (by decide)).trans k4
 refine jx_geti c1 hm rfl sh_27 rfl k64 ?_
 refine jy_ic c1 hm rfl (by decide) ?_
 refine jc_ne c1 hm 33 rfl rfl (fun h65 => ?_) (fun h65 => ?_)
 ·
  refine jx_load c1 hm rfl rfl rfl rfl ?_
  refine jx_geti c1 hm rfl sh_27 rfl k64 ?_
  obtain ⟨M66, e66, hH66, hF66, k66, n66, q66⟩ := mup hH63 hF63 (c := 27) (i := 7) (v := z3) (A := (-1)) (B := 9) (bs_23_1 _ _ (by omega) (by omega)) ⟨by omega, by omega⟩ (jin_of 1 rfl ⟨by omega, by omega⟩)
  refine jm_puti c1 hm rfl sh_27 rfl e66 ?_
  refine jy_ic c1 hm rfl (by decide) ?_
  refine jx_stor c1 hm (L' := [some (.inr (.inr (.inl 27))), some (.inl 0)]) rfl rfl rfl rfl rfl ?_
  have W72 : ∀ (n73 : Nat) (b67 : Int) (hb67 : 0 ≤ b67 ∧ b67 ≤ 36) (M68 : JM) (hH68 : HI (X) M68) (hF68 : Fr md_X2_fillWhatWasNotTold_27w M0 M68) (k70 : M68.1 27 6 = 1) (k71 : M68.1 27 7 = z3), (-b67 + 36) < (n73 : Int) → F 42 [some (.inr (.inr (.inl 27))), some (.inl b67)] [] M68 := by
   intro n73
   induction n73 with
   | zero => intros; omega
   | succ n73 ihW72 =>
    intro b67 hb67 M68 hH68 hF68 k70 k71 hrW72
    refine jx_load c1 hm rfl rfl rfl rfl ?_
    refine jy_bp c1 hm rfl (by decide) ?_
    refine jc_ge c1 hm 94 rfl rfl (fun h74 => ?_) (fun h74 => ?_)
    ·
     exact jx_retv c2 hm rfl rfl ⟨rfl, hH68, hF68, (by omega), (by unfold wdf; split <;> omega), (by unfold wdf; split <;> omega)⟩
    refine jx_load c1 hm rfl rfl rfl rfl ?_
    refine jx_getr c1 hm rfl sh_27 rfl ?_
    refine jx_load c1 hm rfl rfl rfl rfl ?_
    obtain ⟨z75, k76, lz75, uz75⟩ := hH68.ld (c := 32) (i := (b67).toNat) (A := (-1)) (B := 20) rfl
    refine jx_iald c1 hm rfl sh_32 ⟨by omega, by omega⟩ k76 ?_
    refine jy_ic c1 hm rfl (by decide) ?_
    have J92 : ∀ (M87 : JM) (hH87 : HI (X) M87) (hF87 : Fr md_X2_fillWhatWasNotTold_27w M0 M87) (k89 : M87.1 27 6 = 1) (k91 : M87.1 27 7 = z3), F 88 [some (.inr (.inr (.inl 27))), some (.inl b67)] [] M87 := by
     intro M87 hH87 hF87 k89 k91
     refine jx_iinc c1 hm (v := (b67 + 1)) (L' := [some (.inr (.inr (.inl 27))), some (.inl (b67 + 1))]) rfl rfl (by omega) (by omega) rfl ?_
     refine jx_goto c1 hm 42 rfl rfl ?_
     exact ihW72 (b67 + 1) (by omega) M87 hH87 hF87 k89 k91 (by omega)
    refine jc_ne c1 hm 88 rfl rfl (fun h77 => ?_) (fun h77 => ?_)
    ·
     exact J92 M68 hH68 hF68 k70 k71
    refine jx_load c1 hm rfl rfl rfl rfl ?_
    refine jx_getr c1 hm rfl sh_27 rfl ?_
    refine jx_load c1 hm rfl rfl rfl rfl ?_
    refine jx_load c1 hm rfl rfl rfl rfl ?_
    refine jy_bp c1 hm rfl (by decide) ?_
    refine jy_rem c1 hm rfl ⟨by omega, by omega, by omega, by omega⟩ (fun z78 ez78 lz78 uz78 => ?_)
    refine jx_load c1 hm rfl rfl rfl rfl ?_
    refine jv_i c3 hm rfl pj_X2_forfeits rfl rfl ⟨_, _, _, rfl, sh_27⟩ rfl ((ct_X2_forfeits_27 X (by omega) M68 hH68 ).le (by decide)) (fun z79 _ ⟨rfl, lz79, uz79⟩ => ?_)
    have J85 : ∀ (b84 : Int) (hb84 : 0 ≤ b84 ∧ b84 ≤ 20), F 87 [some (.inr (.inr (.inl 27))), some (.inl b67)] [.inl b84, .inl b67, .inr (.inr (.inl 32))] M68 := by
     intro b84 hb84
     obtain ⟨M86, e86, hH86, hF86, k86, n86, q86⟩ := mup hH68 hF68 (c := 32) (i := (b67).toNat) (v := b84) (A := (-1)) (B := 20) rfl ⟨by omega, by omega⟩ (jin_of 2 rfl ⟨by omega, by omega⟩)
     refine jm_iast c1 hm rfl sh_32 ⟨by omega, by omega⟩ e86 ?_
     have k88 : M86.1 27 6 = 1 := (n86 27 6 (fun h => absurd h.1 (by decide))).trans k70
     have k90 : M86.1 27 7 = z3 := (n86 27 7 (fun h => absurd h.1 (by decide))).trans k71
     exact J92 M86 hH86 hF86 k88 k90
    refine jc_ge c1 hm 86 rfl rfl (fun h80 => ?_) (fun h80 => ?_)
    ·
     refine jy_ic c1 hm rfl (by decide) ?_
     exact J85 0 (by omega)
    refine jx_load c1 hm rfl rfl rfl rfl ?_
    refine jx_getr c1 hm rfl sh_27 rfl ?_
    refine jx_load c1 hm rfl rfl rfl rfl ?_
    refine jy_bp c1 hm rfl (by decide) ?_
    refine jy_rem c1 hm rfl ⟨by omega, by omega, by omega, by omega⟩ (fun z81 ez81 lz81 uz81 => ?_)
    obtain ⟨z82, k83, lz82, uz82⟩ := hH68.ld (c := 31) (i := (z81).toNat) (A := 0) (B := 20) rfl
    refine jx_iald c1 hm rfl sh_31 ⟨by omega, by omega⟩ k83 ?_
    refine jx_goto c1 hm 87 rfl rfl ?_
    exact J85 z82 (by omega)
  have k69 : M66.1 27 6 = 1 := (n66 27 6 (by decide)).trans k63
  exact W72 (36 + 1 : Int).toNat 0 (by omega) M66 hH66 hF66 k69 k66 (by omega)
 refine jy_ic c1 hm rfl (by decide) ?_
 refine jx_goto c1 hm 37 rfl rfl ?_
 obtain ⟨M93, e93, hH93, hF93, k93, n93, q93⟩ := mup hH63 hF63 (c := 27) (i := 7) (v := 1) (A := (-1)) (B := 9) (bs_23_1 _ _ (by omega) (by omega)) ⟨by omega, by omega⟩ (jin_of 1 rfl ⟨by omega, by omega⟩)
 refine jm_puti c1 hm rfl sh_27 rfl e93 ?_
 refine jy_ic c1 hm rfl (by decide) ?_
 refine jx_stor c1 hm (L' := [some (.inr (.inr (.inl 27))), some (.inl 0)]) rfl rfl rfl rfl rfl ?_
 have W99 : ∀ (n100 : Nat) (b94 : Int) (hb94 : 0 ≤ b94 ∧ b94 ≤ 36) (M95 : JM) (hH95 : HI (X) M95) (hF95 : Fr md_X2_fillWhatWasNotTold_27w M0 M95) (k97 : M95.1 27 6 = 1) (k98 : M95.1 27 7 = 1), (-b94 + 36) < (n100 : Int) → F 42 [some (.inr (.inr (.inl 27))), some (.inl b94)] [] M95 := by
  intro n100
  induction n100 with
  | zero => intros; omega
  | succ n100 ihW99 =>
   intro b94 hb94 M95 hH95 hF95 k97 k98 hrW99
   refine jx_load c1 hm rfl rfl rfl rfl ?_
   refine jy_bp c1 hm rfl (by decide) ?_
   refine jc_ge c1 hm 94 rfl rfl (fun h101 => ?_) (fun h101 => ?_)
   ·
    exact jx_retv c2 hm rfl rfl ⟨rfl, hH95, hF95, (by omega), (by unfold wdf; split <;> omega), (by unfold wdf; split <;> omega)⟩
   refine jx_load c1 hm rfl rfl rfl rfl ?_
   refine jx_getr c1 hm rfl sh_27 rfl ?_
   refine jx_load c1 hm rfl rfl rfl rfl ?_
   obtain ⟨z102, k103, lz102, uz102⟩ := hH95.ld (c := 32) (i := (b94).toNat) (A := (-1)) (B := 20) rfl
   refine jx_iald c1 hm rfl sh_32 ⟨by omega, by omega⟩ k103 ?_
   refine jy_ic c1 hm rfl (by decide) ?_
   have J119 : ∀ (M114 : JM) (hH114 : HI (X) M114) (hF114 : Fr md_X2_fillWhatWasNotTold_27w M0 M114) (k116 : M114.1 27 6 = 1) (k118 : M114.1 27 7 = 1), F 88 [some (.inr (.inr (.inl 27))), some (.inl b94)] [] M114 := by
    intro M114 hH114 hF114 k116 k118
    refine jx_iinc c1 hm (v := (b94 + 1)) (L' := [some (.inr (.inr (.inl 27))), some (.inl (b94 + 1))]) rfl rfl (by omega) (by omega) rfl ?_
    refine jx_goto c1 hm 42 rfl rfl ?_
    exact ihW99 (b94 + 1) (by omega) M114 hH114 hF114 k116 k118 (by omega)
   refine jc_ne c1 hm 88 rfl rfl (fun h104 => ?_) (fun h104 => ?_)
   ·
    exact J119 M95 hH95 hF95 k97 k98
   refine jx_load c1 hm rfl rfl rfl rfl ?_
   refine jx_getr c1 hm rfl sh_27 rfl ?_
   refine jx_load c1 hm rfl rfl rfl rfl ?_
   refine jx_load c1 hm rfl rfl rfl rfl ?_
   refine jy_bp c1 hm rfl (by decide) ?_
   refine jy_rem c1 hm rfl ⟨by omega, by omega, by omega, by omega⟩ (fun z105 ez105 lz105 uz105 => ?_)
   refine jx_load c1 hm rfl rfl rfl rfl ?_
   refine jv_i c3 hm rfl pj_X2_forfeits rfl rfl ⟨_, _, _, rfl, sh_27⟩ rfl ((ct_X2_forfeits_27 X (by omega) M95 hH95 ).le (by decide)) (fun z106 _ ⟨rfl, lz106, uz106⟩ => ?_)
   have J112 : ∀ (b111 : Int) (hb111 : 0 ≤ b111 ∧ b111 ≤ 20), F 87 [some (.inr (.inr (.inl 27))), some (.inl b94)] [.inl b111, .inl b94, .inr (.inr (.inl 32))] M95 := by
    intro b111 hb111
    obtain ⟨M113, e113, hH113, hF113, k113, n113, q113⟩ := mup hH95 hF95 (c := 32) (i := (b94).toNat) (v := b111) (A := (-1)) (B := 20) rfl ⟨by omega, by omega⟩ (jin_of 2 rfl ⟨by omega, by omega⟩)
    refine jm_iast c1 hm rfl sh_32 ⟨by omega, by omega⟩ e113 ?_
    have k115 : M113.1 27 6 = 1 := (n113 27 6 (fun h => absurd h.1 (by decide))).trans k97
    have k117 : M113.1 27 7 = 1 := (n113 27 7 (fun h => absurd h.1 (by decide))).trans k98
    exact J119 M113 hH113 hF113 k115 k117
   refine jc_ge c1 hm 86 rfl rfl (fun h107 => ?_) (fun h107 => ?_)
   ·
    refine jy_ic c1 hm rfl (by decide) ?_
    exact J112 0 (by omega)
   refine jx_load c1 hm rfl rfl rfl rfl ?_
   refine jx_getr c1 hm rfl sh_27 rfl ?_
   refine jx_load c1 hm rfl rfl rfl rfl ?_
   refine jy_bp c1 hm rfl (by decide) ?_
   refine jy_rem c1 hm rfl ⟨by omega, by omega, by omega, by omega⟩ (fun z108 ez108 lz108 uz108 => ?_)
   obtain ⟨z109, k110, lz109, uz109⟩ := hH95.ld (c := 31) (i := (z108).toNat) (A := 0) (B := 20) rfl
   refine jx_iald c1 hm rfl sh_31 ⟨by omega, by omega⟩ k110 ?_
   refine jx_goto c1 hm 87 rfl rfl ?_
   exact J112 z109 (by omega)
 have k96 : M93.1 27 6 = 1 := (n93 27 6 (by decide)).trans k63
 exact W99 (36 + 1 : Int).toNat 0 (by omega) M93 hH93 hF93 k96 k93 (by omega)
def md_X2_readWears_27_1w : List (Nat × (Nat × Nat)) := [(1, (4, 4)), (1, (5, 5)), (1, (6, 6)), (1, (7, 7)), (1, (9, 9)), (1, (11, 11)), (1, (12, 12)), (1, (13, 13)), (27, (6, 6))]
theorem ct_X2_readWears_27_1w (X : Int) (hX : 0 ≤ X ∧ X ≤ 100000000) (M0 : JM) (hH0 : HI X M0)  : JOk shp PJ 4 230 [.inr (.inr (.inl 27)), .inr (.inr (.inl 1))] M0 (jRi (fun v M' => HI X M' ∧ Fr md_X2_readWears_27_1w M0 M' ∧ 0 ≤ v ∧ v ≤ 1 ∧ (∀ (t : TXT) (σ : PSt), CS M0 t σ → 2 ≤ kK t σ → LRc t (wmS t 72 σ) v M') ∧ (LFr ml_X2_readWears_27_1p M0 M') ∧ (∀ (t : TXT) (σ : PSt), CS M0 t σ → 2 ≤ kK t σ → v = 1 → M'.1 27 6 = kV t (goS t σ) ∧ 0 ≤ M'.1 27 6))) := by
 refine ⟨jr_X2_readWears, pj_X2_readWears, fun F c1 c2 c3 => ?_⟩
 have hm := pj_X2_readWears
 change F 0 [some (.inr (.inr (.inl 27))), some (.inr (.inr (.inl 1)))] [] M0
 have hF0 : Fr md_X2_readWears_27_1w M0 M0 := Fr.rf _ _
 refine jx_load c1 hm rfl rfl rfl rfl ?_
 obtain ⟨z1, k2, lz1, uz1⟩ := hH0.ld (c := 27) (i := 6) (A := (-1)) (B := 9) (bs_23_1 _ _ (by omega) (by omega))
 refine jx_geti c1 hm rfl sh_27 rfl k2 ?_
 refine jy_ic c1 hm rfl (by decide) ?_
 refine jc_eq c1 hm 18 rfl rfl (fun h3 => ?_) (fun h3 => ?_)
 ·
  refine jx_load c1 hm rfl rfl rfl rfl ?_
  obtain ⟨z4, k5, lz4, uz4⟩ := hH0.ld (c := 1) (i := 2) (A := 0) (B := 940) (bs_19_1 _ _ (by omega) (by omega))
  obtain ⟨z6, k7, lz6, uz6⟩ := hH0.ld (c := 1) (i := 4) (A := 0) (B := 940) (bs_19_3 _ _ (by omega) (by omega))
  refine jv_v c3 hm rfl pj_X10_next rfl rfl ⟨_, _, _, rfl, sh_1⟩ rfl ((ct_X10_next_1p X (by omega) M0 hH0 ).le (by decide)) (fun M10 ⟨hH10, hR10, p8, p9⟩ => ?_)
  have hF10 := hF0.tr hR10 (by decide +kernel)
  refine jx_load c1 hm rfl rfl rfl rfl ?_
  refine jy_ic c1 hm rfl (by decide) ?_
  refine jy_bp c1 hm rfl (by decide) ?_
  refine jv_i c3 hm rfl pj_X10_takesNumber rfl rfl ⟨_, _, _, rfl, sh_1⟩ rfl ((ct_X10_takesNumber_1p X (by omega) M10 hH10 0 ⟨by omega, by omega⟩ 9 ⟨by omega, by omega⟩).le (by decide)) (fun z11 M16 ⟨hH16, hR16, lz11, uz11, p12, p13, p14, p15⟩ => ?_)
  have hF16 := hF10.tr hR16 (by decide +kernel)
  obtain ⟨z17, k18, lz17, uz17⟩ := hH16.ld (c := 1) (i := 11) (A := 0) (B := 999) (bs_19_7 _ _ (by omega) (by omega))
  refine jz_ne c1 hm 34 rfl rfl (fun h19 => ?_) (fun h19 => ?_)
  ·
   refine jx_load c1 hm rfl rfl rfl rfl ?_
   refine jx_load c1 hm rfl rfl rfl rfl ?_
   refine jx_geti c1 hm rfl sh_1 rfl k18 ?_
   obtain ⟨M20, e20, hH20, hF20, k20, n20, q20⟩ := mup hH16 hF16 (c := 27) (i := 6) (v := z17) (A := (-1)) (B := 9) (bs_23_1 _ _ (by omega) (by omega)) ⟨by omega, by omega⟩ (jin_of 8 rfl ⟨by omega, by omega⟩)
   refine jm_puti c1 hm rfl sh_27 rfl e20 ?_
   refine jy_ic c1 hm rfl (by decide) ?_
   exact jx_retz c2 hm rfl rfl ⟨by omega, by omega⟩ ⟨_, rfl, hH20, hF20, by omega, by omega, (fun t σ hσ hk => LRc.eq (wm_eq (i := 6) (by decide) hσ (by omega)) (LRc.seqg (p13 t _ (hσ.next hk p8 (hR10 1 12 rfl) hR10 p9 (by decide +kernel))) (by omega) (fun l1 h1 => LRc.o (CS.flag h1 n20 q20 (by omega)) (show (-1 : Int) < 0 by decide)))), ((((LFr.rf _ _).tr p9 (by decide +kernel)).tr p15 (by decide +kernel)).eq q20), (fun t σ hσ hk _ => ⟨by have y9 := p14 t _ (hσ.next hk p8 (hR10 1 12 rfl) hR10 p9 (by decide +kernel)) (by omega); omega, by omega⟩)⟩
  refine jy_ic c1 hm rfl (by decide) ?_
  have k21 : M16.1 27 6 = z1 := (hR16 27 6 (by decide +kernel)).trans ((hR10 27 6 (by decide +kernel)).trans k2)
  exact jx_retz c2 hm rfl rfl ⟨by omega, by omega⟩ ⟨_, rfl, hH16, hF16, by omega, by omega, (fun t σ hσ hk => LRc.eq (wm_eq (i := 6) (by decide) hσ (by omega)) (LRc.seqz (p13 t _ (hσ.next hk p8 (hR10 1 12 rfl) hR10 p9 (by decide +kernel))) (by omega))), (((LFr.rf _ _).tr p9 (by decide +kernel)).tr p15 (by decide +kernel)), (fun t σ hσ hk y => absurd y (by omega))⟩
 refine jx_load c1 hm rfl rfl rfl rfl ?_
 refine jy_ic c1 hm rfl (by decide) ?_
 refine jx_load c1 hm rfl rfl rfl rfl ?_
 obtain ⟨z22, k23, lz22, uz22⟩ := hH0.ld (c := 1) (i := 5) (A := 0) (B := 940) (bs_19_3 _ _ (by omega) (by omega))
 refine jx_geti c1 hm rfl sh_1 rfl k23 ?_
 refine jv_i c3 hm rfl pj_X10_fails rfl rfl ⟨_, _, _, rfl, sh_1⟩ rfl ((ct_X10_fails_1p X (by omega) M0 hH0 3 ⟨by omega, by omega⟩ z22 ⟨by omega, by omega⟩).le (by decide)) (fun z24 M30 ⟨hH30, hR30, lz24, uz24, p25, p26, p27, p28, p29⟩ => ?_)
 have hF30 := hF0.tr hR30 (by decide +kernel)
 obtain ⟨z31, k32, lz31, uz31⟩ := hH30.ld (c := 1) (i := 12) (A := 0) (B := 4) (bs_19_8 _ _ (by omega) (by omega))
 obtain ⟨z33, k34, lz33, uz33⟩ := hH30.ld (c := 1) (i := 13) (A := 0) (B := 940) (bs_19_9 _ _ (by omega) (by omega))
 have k35 : M30.1 27 6 = z1 := (hR30 27 6 (by decide +kernel)).trans k2
 exact jx_retz c2 hm rfl rfl ⟨by omega, by omega⟩ ⟨_, rfl, hH30, hF30, by omega, by omega, (fun t σ hσ hk => wm_no (i := 6) (by decide) hσ (by omega) (by omega) (by omega) (by omega)), ((LFr.rf _ _).tr p29 (by decide +kernel)), (fun t σ hσ hk y => absurd y (by omega))⟩
def md_X2_readMends_27_1w : List (Nat × (Nat × Nat)) := [(1, (4, 4)), (1, (5, 5)), (1, (6, 6)), (1, (7, 7)), (1, (9, 9)), (1, (11, 11)), (1, (12, 12)), (1, (13, 13)), (27, (7, 7))]
theorem ct_X2_readMends_27_1w (X : Int) (hX : 0 ≤ X ∧ X ≤ 100000000) (M0 : JM) (hH0 : HI X M0)  : JOk shp PJ 4 227 [.inr (.inr (.inl 27)), .inr (.inr (.inl 1))] M0 (jRi (fun v M' => HI X M' ∧ Fr md_X2_readMends_27_1w M0 M' ∧ 0 ≤ v ∧ v ≤ 1 ∧ (∀ (t : TXT) (σ : PSt), CS M0 t σ → 2 ≤ kK t σ → LRc t (wmS t 73 σ) v M') ∧ (LFr ml_X2_readMends_27_1p M0 M') ∧ (∀ (t : TXT) (σ : PSt), CS M0 t σ → 2 ≤ kK t σ → v = 1 → M'.1 27 7 = kV t (goS t σ) ∧ 0 ≤ M'.1 27 7))) := by
 refine ⟨jr_X2_readMends, pj_X2_readMends, fun F c1 c2 c3 => ?_⟩
 have hm := pj_X2_readMends
 change F 0 [some (.inr (.inr (.inl 27))), some (.inr (.inr (.inl 1)))] [] M0
 have hF0 : Fr md_X2_readMends_27_1w M0 M0 := Fr.rf _ _
 refine jx_load c1 hm rfl rfl rfl rfl ?_
 obtain ⟨z1, k2, lz1, uz1⟩ := hH0.ld (c := 27) (i := 7) (A := (-1)) (B := 9) (bs_23_1 _ _ (by omega) (by omega))
 refine jx_geti c1 hm rfl sh_27 rfl k2 ?_
 refine jy_ic c1 hm rfl (by decide) ?_
 refine jc_eq c1 hm 18 rfl rfl (fun h3 => ?_) (fun h3 => ?_)
 ·
  refine jx_load c1 hm rfl rfl rfl rfl ?_
  obtain ⟨z4, k5, lz4, uz4⟩ := hH0.ld (c := 1) (i := 2) (A := 0) (B := 940) (bs_19_1 _ _ (by omega) (by omega))
  obtain ⟨z6, k7, lz6, uz6⟩ := hH0.ld (c := 1) (i := 4) (A := 0) (B := 940) (bs_19_3 _ _ (by omega) (by omega))
  refine jv_v c3 hm rfl pj_X10_next rfl rfl ⟨_, _, _, rfl, sh_1⟩ rfl ((ct_X10_next_1p X (by omega) M0 hH0 ).le (by decide)) (fun M10 ⟨hH10, hR10, p8, p9⟩ => ?_)
  have hF10 := hF0.tr hR10 (by decide +kernel)
  refine jx_load c1 hm rfl rfl rfl rfl ?_
  refine jy_ic c1 hm rfl (by decide) ?_
  refine jy_bp c1 hm rfl (by decide) ?_
  refine jv_i c3 hm rfl pj_X10_takesNumber rfl rfl ⟨_, _, _, rfl, sh_1⟩ rfl ((ct_X10_takesNumber_1p X (by omega) M10 hH10 0 ⟨by omega, by omega⟩ 9 ⟨by omega, by omega⟩).le (by decide)) (fun z11 M16 ⟨hH16, hR16, lz11, uz11, p12, p13, p14, p15⟩ => ?_)
  have hF16 := hF10.tr hR16 (by decide +kernel)
  obtain ⟨z17, k18, lz17, uz17⟩ := hH16.ld (c := 1) (i := 11) (A := 0) (B := 999) (bs_19_7 _ _ (by omega) (by omega))
  refine jz_ne c1 hm 34 rfl rfl (fun h19 => ?_) (fun h19 => ?_)
  ·
   refine jx_load c1 hm rfl rfl rfl rfl ?_
   refine jx_load c1 hm rfl rfl rfl rfl ?_
   refine jx_geti c1 hm rfl sh_1 rfl k18 ?_
   obtain ⟨M20, e20, hH20, hF20, k20, n20, q20⟩ := mup hH16 hF16 (c := 27) (i := 7) (v := z17) (A := (-1)) (B := 9) (bs_23_1 _ _ (by omega) (by omega)) ⟨by omega, by omega⟩ (jin_of 8 rfl ⟨by omega, by omega⟩)
   refine jm_puti c1 hm rfl sh_27 rfl e20 ?_
   refine jy_ic c1 hm rfl (by decide) ?_
   exact jx_retz c2 hm rfl rfl ⟨by omega, by omega⟩ ⟨_, rfl, hH20, hF20, by omega, by omega, (fun t σ hσ hk => LRc.eq (wm_eq (i := 7) (by decide) hσ (by omega)) (LRc.seqg (p13 t _ (hσ.next hk p8 (hR10 1 12 rfl) hR10 p9 (by decide +kernel))) (by omega) (fun l1 h1 => LRc.o (CS.flag h1 n20 q20 (by omega)) (show (-1 : Int) < 0 by decide)))), ((((LFr.rf _ _).tr p9 (by decide +kernel)).tr p15 (by decide +kernel)).eq q20), (fun t σ hσ hk _ => ⟨by have y9 := p14 t _ (hσ.next hk p8 (hR10 1 12 rfl) hR10 p9 (by decide +kernel)) (by omega); omega, by omega⟩)⟩
  refine jy_ic c1 hm rfl (by decide) ?_
  have k21 : M16.1 27 7 = z1 := (hR16 27 7 (by decide +kernel)).trans ((hR10 27 7 (by decide +kernel)).trans k2)
  exact jx_retz c2 hm rfl rfl ⟨by omega, by omega⟩ ⟨_, rfl, hH16, hF16, by omega, by omega, (fun t σ hσ hk => LRc.eq (wm_eq (i := 7) (by decide) hσ (by omega)) (LRc.seqz (p13 t _ (hσ.next hk p8 (hR10 1 12 rfl) hR10 p9 (by decide +kernel))) (by omega))), (((LFr.rf _ _).tr p9 (by decide +kernel)).tr p15 (by decide +kernel)), (fun t σ hσ hk y => absurd y (by omega))⟩
 refine jx_load c1 hm rfl rfl rfl rfl ?_
 refine jy_ic c1 hm rfl (by decide) ?_
 refine jx_load c1 hm rfl rfl rfl rfl ?_
 obtain ⟨z22, k23, lz22, uz22⟩ := hH0.ld (c := 1) (i := 5) (A := 0) (B := 940) (bs_19_3 _ _ (by omega) (by omega))
 refine jx_geti c1 hm rfl sh_1 rfl k23 ?_
 refine jv_i c3 hm rfl pj_X10_fails rfl rfl ⟨_, _, _, rfl, sh_1⟩ rfl ((ct_X10_fails_1p X (by omega) M0 hH0 3 ⟨by omega, by omega⟩ z22 ⟨by omega, by omega⟩).le (by decide)) (fun z24 M30 ⟨hH30, hR30, lz24, uz24, p25, p26, p27, p28, p29⟩ => ?_)
 have hF30 := hF0.tr hR30 (by decide +kernel)
 obtain ⟨z31, k32, lz31, uz31⟩ := hH30.ld (c := 1) (i := 12) (A := 0) (B := 4) (bs_19_8 _ _ (by omega) (by omega))
 obtain ⟨z33, k34, lz33, uz33⟩ := hH30.ld (c := 1) (i := 13) (A := 0) (B := 940) (bs_19_9 _ _ (by omega) (by omega))
 have k35 : M30.1 27 7 = z1 := (hR30 27 7 (by decide +kernel)).trans k2
 exact jx_retz c2 hm rfl rfl ⟨by omega, by omega⟩ ⟨_, rfl, hH30, hF30, by omega, by omega, (fun t σ hσ hk => wm_no (i := 7) (by decide) hσ (by omega) (by omega) (by omega) (by omega)), ((LFr.rf _ _).tr p29 (by decide +kernel)), (fun t σ hσ hk y => absurd y (by omega))⟩
def md_X2_readLine_27_1w : List (Nat × (Nat × Nat)) := [(1, (4, 4)), (1, (5, 5)), (1, (6, 6)), (1, (7, 7)), (1, (9, 9)), (1, (11, 11)), (1, (12, 12)), (1, (13, 13)), (27, (6, 6)), (27, (7, 7)), (28, (0, 2)), (30, (0, 5)), (31, (0, 5)), (32, (0, 35)), (33, (0, 5)), (35, (0, 5)), (38, (0, 5)), (39, (0, 35))]
theorem ct_X2_readLine_27_1w (X : Int) (hX : 0 ≤ X ∧ X ≤ 100000000) (M0 : JM) (hH0 : HI X M0)  : JOk shp PJ 5 224 [.inr (.inr (.inl 27)), .inr (.inr (.inl 1))] M0 (jRi (fun v M' => HI X M' ∧ Fr md_X2_readLine_27_1w M0 M' ∧ 0 ≤ v ∧ v ≤ 1 ∧ (∀ (t : TXT) (σ : PSt), CS M0 t σ → LRc t (lineS t σ) v M') ∧ (LFr ml_X2_readLine_27_1p M0 M') ∧ (∀ (t : TXT) (σ : PSt) (wm : Int × Int), CS M0 t σ → CWv M0 wm → v = 1 → CWv M' (lineW t σ wm)))) := by
 refine ⟨jr_X2_readLine, pj_X2_readLine, fun F c1 c2 c3 => ?_⟩
 have hm := pj_X2_readLine
 change F 0 [some (.inr (.inr (.inl 27))), some (.inr (.inr (.inl 1)))] [] M0
 have hF0 : Fr md_X2_readLine_27_1w M0 M0 := Fr.rf _ _
 refine jx_load c1 hm rfl rfl rfl rfl ?_
 obtain ⟨z1, k2, lz1, uz1⟩ := hH0.ld (c := 1) (i := 7) (A := (-1)) (B := 23) (bs_19_5 _ _ (by omega) (by omega))
 refine jx_geti c1 hm rfl sh_1 rfl k2 ?_
 by_cases h3 : z1 = 0
 ·
  refine jx_tswI c1 hm 48 rfl ⟨by omega, by omega⟩ (by rw [h3] <;> rfl) rfl ?_
  refine jx_load c1 hm rfl rfl rfl rfl ?_
  refine jx_load c1 hm rfl rfl rfl rfl ?_
  refine jv_i c3 hm rfl pj_X2_readMan rfl rfl ⟨_, _, _, rfl, sh_27⟩ rfl ((ct_X2_readMan_27_1p X (by omega) M0 hH0 ).le (by decide)) (fun z4 M7 ⟨hH7, hR7, lz4, uz4, p5, p6⟩ => ?_)
  have hF7 := hF0.tr hR7 (by decide +kernel)
  exact jx_retz c2 hm rfl rfl ⟨by omega, by omega⟩ ⟨_, rfl, hH7, hF7, by omega, by omega, (fun t σ hσ => LRc.eq (ln_0 hσ (by omega)) (p5 t σ hσ (by have y9 := ln_key (k := 0) hσ (by omega) (by decide); omega))), ((LFr.rf _ _).tr p6 (by decide +kernel)), (fun t σ wm hσ hw y => CWv.o hw hσ (by omega) (by omega) (hR7 27 6 rfl) (hR7 27 7 rfl))⟩
 by_cases h8 : z1 = 1
 ·
  refine jx_tswI c1 hm 54 rfl ⟨by omega, by omega⟩ (by rw [h8] <;> rfl) rfl ?_
  refine jx_load c1 hm rfl rfl rfl rfl ?_
  refine jx_load c1 hm rfl rfl rfl rfl ?_
  refine jv_i c3 hm rfl pj_X2_readForfeit rfl rfl ⟨_, _, _, rfl, sh_27⟩ rfl ((ct_X2_readForfeit_27_1p X (by omega) M0 hH0 ).le (by decide)) (fun z9 M12 ⟨hH12, hR12, lz9, uz9, p10, p11⟩ => ?_)
  have hF12 := hF0.tr hR12 (by decide +kernel)
  exact jx_retz c2 hm rfl rfl ⟨by omega, by omega⟩ ⟨_, rfl, hH12, hF12, by omega, by omega, (fun t σ hσ => LRc.eq (ln_1 hσ (by omega)) (p10 t σ hσ (by have y9 := ln_key (k := 1) hσ (by omega) (by decide); omega))), ((LFr.rf _ _).tr p11 (by decide +kernel)), (fun t σ wm hσ hw y => CWv.o hw hσ (by omega) (by omega) (hR12 27 6 rfl) (hR12 27 7 rfl))⟩
 by_cases h13 : z1 = 2
 ·
  refine jx_tswI c1 hm 60 rfl ⟨by omega, by omega⟩ (by rw [h13] <;> rfl) rfl ?_
  refine jx_load c1 hm rfl rfl rfl rfl ?_
  refine jx_load c1 hm rfl rfl rfl rfl ?_
  refine jv_i c3 hm rfl pj_X2_readMinds rfl rfl ⟨_, _, _, rfl, sh_27⟩ rfl ((ct_X2_readMinds_27_1p X (by omega) M0 hH0 ).le (by decide)) (fun z14 M17 ⟨hH17, hR17, lz14, uz14, p15, p16⟩ => ?_)
  have hF17 := hF0.tr hR17 (by decide +kernel)
  exact jx_retz c2 hm rfl rfl ⟨by omega, by omega⟩ ⟨_, rfl, hH17, hF17, by omega, by omega, (fun t σ hσ => LRc.eq (ln_2 hσ (by omega)) (p15 t σ hσ (by have y9 := ln_key (k := 2) hσ (by omega) (by decide); omega))), ((LFr.rf _ _).tr p16 (by decide +kernel)), (fun t σ wm hσ hw y => CWv.o hw hσ (by omega) (by omega) (hR17 27 6 rfl) (hR17 27 7 rfl))⟩
 by_cases h18 : z1 = 3
 ·
  refine jx_tswI c1 hm 66 rfl ⟨by omega, by omega⟩ (by rw [h18] <;> rfl) rfl ?_
  refine jx_load c1 hm rfl rfl rfl rfl ?_
  refine jx_load c1 hm rfl rfl rfl rfl ?_
  refine jv_i c3 hm rfl pj_X2_readGood rfl rfl ⟨_, _, _, rfl, sh_27⟩ rfl ((ct_X2_readGood_27_1p X (by omega) M0 hH0 ).le (by decide)) (fun z19 M22 ⟨hH22, hR22, lz19, uz19, p20, p21⟩ => ?_)
  have hF22 := hF0.tr hR22 (by decide +kernel)
  exact jx_retz c2 hm rfl rfl ⟨by omega, by omega⟩ ⟨_, rfl, hH22, hF22, by omega, by omega, (fun t σ hσ => LRc.eq (ln_3 hσ (by omega)) (p20 t σ hσ (by have y9 := ln_key (k := 3) hσ (by omega) (by decide); omega))), ((LFr.rf _ _).tr p21 (by decide +kernel)), (fun t σ wm hσ hw y => CWv.o hw hσ (by omega) (by omega) (hR22 27 6 rfl) (hR22 27 7 rfl))⟩
 by_cases h23 : z1 = 4
 ·
  refine jx_tswI c1 hm 72 rfl ⟨by omega, by omega⟩ (by rw [h23] <;> rfl) rfl ?_
  refine jx_load c1 hm rfl rfl rfl rfl ?_
  refine jx_load c1 hm rfl rfl rfl rfl ?_
  refine jv_i c3 hm rfl pj_X2_readOwes rfl rfl ⟨_, _, _, rfl, sh_27⟩ rfl ((ct_X2_readOwes_27_1p X (by omega) M0 hH0 ).le (by decide)) (fun z24 M27 ⟨hH27, hR27, lz24, uz24, p25, p26⟩ => ?_)
  have hF27 := hF0.tr hR27 (by decide +kernel)
  exact jx_retz c2 hm rfl rfl ⟨by omega, by omega⟩ ⟨_, rfl, hH27, hF27, by omega, by omega, (fun t σ hσ => LRc.eq (ln_4 hσ (by omega)) (p25 t σ hσ (by have y9 := ln_key (k := 4) hσ (by omega) (by decide); omega))), ((LFr.rf _ _).tr p26 (by decide +kernel)), (fun t σ wm hσ hw y => CWv.o hw hσ (by omega) (by omega) (hR27 27 6 rfl) (hR27 27 7 rfl))⟩
 by_cases h28 : z1 = 5
 ·
  refine jx_tswI c1 hm 78 rfl ⟨by omega, by omega⟩ (by rw [h28] <;> rfl) rfl ?_
  refine jx_load c1 hm rfl rfl rfl rfl ?_
  refine jx_load c1 hm rfl rfl rfl rfl ?_
  refine jv_i c3 hm rfl pj_X2_readWears rfl rfl ⟨_, _, _, rfl, sh_27⟩ rfl ((ct_X2_readWears_27_1w X (by omega) M0 hH0 ).le (by decide)) (fun z29 M33 ⟨hH33, hR33, lz29, uz29, p30, p31, p32⟩ => ?_)
  have hF33 := hF0.tr hR33 (by decide +kernel)
  obtain ⟨z34, k35, lz34, uz34⟩ := hH33.ld (c := 27) (i := 6) (A := (-1)) (B := 9) (bs_23_1 _ _ (by omega) (by omega))
  exact jx_retz c2 hm rfl rfl ⟨by omega, by omega⟩ ⟨_, rfl, hH33, hF33, by omega, by omega, (fun t σ hσ => LRc.eq (ln_5 hσ (by omega)) (p30 t σ hσ (by have y9 := ln_key (k := 5) hσ (by omega) (by decide); omega))), ((LFr.rf _ _).tr p31 (by decide +kernel)), (fun t σ wm hσ hw y => CWv.w5 hw hσ (by omega) (p32 t σ hσ (by have y9 := ln_key (k := 5) hσ (by omega) (by decide); omega) (by omega)) (hR33 27 7 rfl))⟩
 by_cases h36 : z1 = 6
 ·
  refine jx_tswI c1 hm 84 rfl ⟨by omega, by omega⟩ (by rw [h36] <;> rfl) rfl ?_
  refine jx_load c1 hm rfl rfl rfl rfl ?_
  refine jx_load c1 hm rfl rfl rfl rfl ?_
  refine jv_i c3 hm rfl pj_X2_readMends rfl rfl ⟨_, _, _, rfl, sh_27⟩ rfl ((ct_X2_readMends_27_1w X (by omega) M0 hH0 ).le (by decide)) (fun z37 M41 ⟨hH41, hR41, lz37, uz37, p38, p39, p40⟩ => ?_)
  have hF41 := hF0.tr hR41 (by decide +kernel)
  obtain ⟨z42, k43, lz42, uz42⟩ := hH41.ld (c := 27) (i := 7) (A := (-1)) (B := 9) (bs_23_1 _ _ (by omega) (by omega))
  exact jx_retz c2 hm rfl rfl ⟨by omega, by omega⟩ ⟨_, rfl, hH41, hF41, by omega, by omega, (fun t σ hσ => LRc.eq (ln_6 hσ (by omega)) (p38 t σ hσ (by have y9 := ln_key (k := 6) hσ (by omega) (by decide); omega))), ((LFr.rf _ _).tr p39 (by decide +kernel)), (fun t σ wm hσ hw y => CWv.w6 hw hσ (by omega) (p40 t σ hσ (by have y9 := ln_key (k := 6) hσ (by omega) (by decide); omega) (by omega)) (hR41 27 6 rfl))⟩
 refine jx_tswO c1 hm 90 rfl (by omega) rfl ?_
 refine jx_load c1 hm rfl rfl rfl rfl ?_
 refine jy_ic c1 hm rfl (by decide) ?_
 refine jx_load c1 hm rfl rfl rfl rfl ?_
 obtain ⟨z44, k45, lz44, uz44⟩ := hH0.ld (c := 1) (i := 5) (A := 0) (B := 940) (bs_19_3 _ _ (by omega) (by omega))
 refine jx_geti c1 hm rfl sh_1 rfl k45 ?_
 refine jv_i c3 hm rfl pj_X10_fails rfl rfl ⟨_, _, _, rfl, sh_1⟩ rfl ((ct_X10_fails_1p X (by omega) M0 hH0 1 ⟨by omega, by omega⟩ z44 ⟨by omega, by omega⟩).le (by decide)) (fun z46 M52 ⟨hH52, hR52, lz46, uz46, p47, p48, p49, p50, p51⟩ => ?_)
 have hF52 := hF0.tr hR52 (by decide +kernel)
 obtain ⟨z53, k54, lz53, uz53⟩ := hH52.ld (c := 1) (i := 12) (A := 0) (B := 4) (bs_19_8 _ _ (by omega) (by omega))
 obtain ⟨z55, k56, lz55, uz55⟩ := hH52.ld (c := 1) (i := 13) (A := 0) (B := 940) (bs_19_9 _ _ (by omega) (by omega))
 exact jx_retz c2 hm rfl rfl ⟨by omega, by omega⟩ ⟨_, rfl, hH52, hF52, by omega, by omega, (fun t σ hσ => ln_no hσ (by omega) (by omega) (by omega) (by omega)), ((LFr.rf _ _).tr p51 (by decide +kernel)), (fun t σ wm hσ hw y => absurd y (by omega))⟩
def md_X2_readLines_27_1w : List (Nat × (Nat × Nat)) := [(1, (4, 4)), (1, (5, 5)), (1, (6, 6)), (1, (7, 7)), (1, (9, 9)), (1, (11, 11)), (1, (12, 12)), (1, (13, 13)), (27, (6, 6)), (27, (7, 7)), (28, (0, 2)), (30, (0, 5)), (31, (0, 5)), (32, (0, 35)), (33, (0, 5)), (34, (7, 7)), (35, (0, 5)), (36, (0, 5)), (37, (0, 5)), (38, (0, 5)), (39, (0, 35)), (40, (0, 35)), (41, (0, 35)), (42, (2, 2)), (42, (3, 3))]
theorem ct_X2_readLines_27_1w (X : Int) (hX : 0 ≤ X ∧ X ≤ 100000000) (M0 : JM) (hH0 : HI X M0)  : JOk shp PJ 6 225 [.inr (.inr (.inl 27)), .inr (.inr (.inl 1))] M0 (jRi (fun v M' => HI X M' ∧ Fr md_X2_readLines_27_1w M0 M' ∧ 0 ≤ v ∧ v ≤ 900 ∧ (0 ≤ M'.1 27 6 ∧ 0 ≤ M'.1 27 7) ∧ (∀ t : TXT, t.2.2 = 900 → t.2.1 ≤ 940 → 0 ≤ t.2.1 → CTk M0 t 0 → M0.1 1 12 = 0 → (M'.1 1 12 = 0 ∧ v = allS t 1000 0 st0) ∨ (M'.1 1 12 ≠ 0 ∧ -1 - M'.1 1 13 = allS t 1000 0 st0)) ∧ (∀ t : TXT, t.2.2 = 900 → t.2.1 ≤ 940 → 0 ≤ t.2.1 → CTk M0 t 0 → M0.1 1 12 = 0 → M'.1 1 12 = 0 → dq M' 27 = allW t 1000 st0 (1, 1)))) := by
 refine ⟨jr_X2_readLines, pj_X2_readLines, fun F c1 c2 c3 => ?_⟩
 have hm := pj_X2_readLines
 change F 0 [some (.inr (.inr (.inl 27))), some (.inr (.inr (.inl 1))), none, none] [] M0
 have hF0 : Fr md_X2_readLines_27_1w M0 M0 := Fr.rf _ _
 obtain ⟨z1, k2, lz1, uz1⟩ := hH0.ld (c := 1) (i := 12) (A := 0) (B := 4) (bs_19_8 _ _ (by omega) (by omega))
 obtain ⟨z3, k4, lz3, uz3⟩ := hH0.ld (c := 1) (i := 6) (A := 0) (B := 4) (bs_19_4 _ _ (by omega) (by omega))
 refine jx_load c1 hm rfl rfl rfl rfl ?_
 refine jv_v c3 hm rfl pj_X2_clear rfl rfl ⟨_, _, _, rfl, sh_27⟩ rfl ((ct_X2_clear_27p X (by omega) M0 hH0 ).le (by decide)) (fun M7 ⟨hH7, hR7, p5, p6⟩ => ?_)
 have hF7 := hF0.tr hR7 (by decide +kernel)
 refine jy_ic c1 hm rfl (by decide) ?_
 refine jx_stor c1 hm (L' := [some (.inr (.inr (.inl 27))), some (.inr (.inr (.inl 1))), some (.inl 0), none]) rfl rfl rfl rfl rfl ?_
 refine jy_ic c1 hm rfl (by decide) ?_
 refine jx_stor c1 hm (L' := [some (.inr (.inr (.inl 27))), some (.inr (.inr (.inl 1))), some (.inl 0), some (.inl 0)]) rfl rfl rfl rfl rfl ?_
 have W14 : ∀ (n15 : Nat) (b8 : Int) (hb8 : 0 ≤ b8 ∧ b8 ≤ 2147483647) (b9 : Int) (hb9 : 0 ≤ b9 ∧ b9 ≤ 900) (M10 : JM) (hH10 : HI (X) M10) (hF10 : Fr md_X2_readLines_27_1w M0 M10) (h11 : b8 ≤ b9) (hrl : ∀ t : TXT, t.2.2 = 900 → t.2.1 ≤ 940 → 0 ≤ t.2.1 → CTk M0 t 0 → M0.1 1 12 = 0 → RLn t M10 b8 b9) (hrw : ∀ t : TXT, t.2.2 = 900 → t.2.1 ≤ 940 → 0 ≤ t.2.1 → CTk M0 t 0 → M0.1 1 12 = 0 → RLW t M10 b9), (-b9 + 900) < (n15 : Int) → F 8 [some (.inr (.inr (.inl 27))), some (.inr (.inr (.inl 1))), some (.inl b8), some (.inl b9)] [] M10 := by
  intro n15
  induction n15 with
  | zero => intros; omega
  | succ n15 ihW14 =>
   intro b8 hb8 b9 hb9 M10 hH10 hF10 h11 hrl hrw hrW14
   refine jx_load c1 hm rfl rfl rfl rfl ?_
   refine jy_sp c1 hm rfl (by decide) ?_
   refine jc_ge c1 hm 55 rfl rfl (fun h16 => ?_) (fun h16 => ?_)
   ·
    refine jx_load c1 hm rfl rfl rfl rfl ?_
    obtain ⟨z17, k18, lz17, uz17⟩ := hH10.ld (c := 27) (i := 6) (A := (-1)) (B := 9) (bs_23_1 _ _ (by omega) (by omega))
    obtain ⟨z19, k20, lz19, uz19⟩ := hH10.ld (c := 27) (i := 7) (A := (-1)) (B := 9) (bs_23_1 _ _ (by omega) (by omega))
    refine jv_v c3 hm rfl pj_X2_fillWhatWasNotTold rfl rfl ⟨_, _, _, rfl, sh_27⟩ rfl ((ct_X2_fillWhatWasNotTold_27w X (by omega) M10 hH10 ).le (by decide)) (fun M24 ⟨hH24, hR24, p21, p22, p23⟩ => ?_)
    have hF24 := hF10.tr hR24 (by decide +kernel)
    obtain ⟨z25, k26, lz25, uz25⟩ := hH24.ld (c := 27) (i := 6) (A := (-1)) (B := 9) (bs_23_1 _ _ (by omega) (by omega))
    obtain ⟨z27, k28, lz27, uz27⟩ := hH24.ld (c := 27) (i := 7) (A := (-1)) (B := 9) (bs_23_1 _ _ (by omega) (by omega))
    refine jx_load c1 hm rfl rfl rfl rfl ?_
    obtain ⟨z29, k30, lz29, uz29⟩ := hH24.ld (c := 1) (i := 12) (A := 0) (B := 4) (bs_19_8 _ _ (by omega) (by omega))
    obtain ⟨z31, k32, lz31, uz31⟩ := hH24.ld (c := 1) (i := 13) (A := 0) (B := 940) (bs_19_9 _ _ (by omega) (by omega))
    exact jx_reti c2 hm rfl rfl ⟨_, rfl, hH24, hF24, by omega, by omega, (by omega), (fun t a1 a2 a3 a4 a5 => RLn.fin (hrl t a1 a2 a3 a4 a5) (by omega) (by omega) (hR24 1 12 rfl) (hR24 1 13 rfl)), (fun t a1 a2 a3 a4 a5 => RLW.fin (hrw t a1 a2 a3 a4 a5) (by omega) (by omega) (hR24 1 12 rfl) (fun s => hR24 28 s rfl) p22 p23)⟩
   refine jx_load c1 hm rfl rfl rfl rfl ?_
   obtain ⟨z33, k34, lz33, uz33⟩ := hH10.ld (c := 1) (i := 12) (A := 0) (B := 4) (bs_19_8 _ _ (by omega) (by omega))
   refine jx_geti c1 hm rfl sh_1 rfl k34 ?_
   refine jz_ne c1 hm 55 rfl rfl (fun h35 => ?_) (fun h35 => ?_)
   ·
    refine jx_load c1 hm rfl rfl rfl rfl ?_
    obtain ⟨z36, k37, lz36, uz36⟩ := hH10.ld (c := 27) (i := 6) (A := (-1)) (B := 9) (bs_23_1 _ _ (by omega) (by omega))
    obtain ⟨z38, k39, lz38, uz38⟩ := hH10.ld (c := 27) (i := 7) (A := (-1)) (B := 9) (bs_23_1 _ _ (by omega) (by omega))
    refine jv_v c3 hm rfl pj_X2_fillWhatWasNotTold rfl rfl ⟨_, _, _, rfl, sh_27⟩ rfl ((ct_X2_fillWhatWasNotTold_27w X (by omega) M10 hH10 ).le (by decide)) (fun M43 ⟨hH43, hR43, p40, p41, p42⟩ => ?_)
    have hF43 := hF10.tr hR43 (by decide +kernel)
    obtain ⟨z44, k45, lz44, uz44⟩ := hH43.ld (c := 27) (i := 6) (A := (-1)) (B := 9) (bs_23_1 _ _ (by omega) (by omega))
    obtain ⟨z46, k47, lz46, uz46⟩ := hH43.ld (c := 27) (i := 7) (A := (-1)) (B := 9) (bs_23_1 _ _ (by omega) (by omega))
    refine jx_load c1 hm rfl rfl rfl rfl ?_
    have k48 : M43.1 1 12 = z33 := (hR43 1 12 (by decide +kernel)).trans k34
    obtain ⟨z49, k50, lz49, uz49⟩ := hH43.ld (c := 1) (i := 13) (A := 0) (B := 940) (bs_19_9 _ _ (by omega) (by omega))
    exact jx_reti c2 hm rfl rfl ⟨_, rfl, hH43, hF43, by omega, by omega, (by omega), (fun t a1 a2 a3 a4 a5 => RLn.fin (hrl t a1 a2 a3 a4 a5) (by omega) (by omega) (hR43 1 12 rfl) (hR43 1 13 rfl)), (fun t a1 a2 a3 a4 a5 => RLW.fin (hrw t a1 a2 a3 a4 a5) (by omega) (by omega) (hR43 1 12 rfl) (fun s => hR43 28 s rfl) p41 p42)⟩
   refine jx_load c1 hm rfl rfl rfl rfl ?_
   obtain ⟨z51, k52, lz51, uz51⟩ := hH10.ld (c := 1) (i := 6) (A := 0) (B := 4) (bs_19_4 _ _ (by omega) (by omega))
   refine jx_geti c1 hm rfl sh_1 rfl k52 ?_
   refine jz_eq c1 hm 55 rfl rfl (fun h53 => ?_) (fun h53 => ?_)
   ·
    refine jx_load c1 hm rfl rfl rfl rfl ?_
    obtain ⟨z54, k55, lz54, uz54⟩ := hH10.ld (c := 27) (i := 6) (A := (-1)) (B := 9) (bs_23_1 _ _ (by omega) (by omega))
    obtain ⟨z56, k57, lz56, uz56⟩ := hH10.ld (c := 27) (i := 7) (A := (-1)) (B := 9) (bs_23_1 _ _ (by omega) (by omega))
    refine jv_v c3 hm rfl pj_X2_fillWhatWasNotTold rfl rfl ⟨_, _, _, rfl, sh_27⟩ rfl ((ct_X2_fillWhatWasNotTold_27w X (by omega) M10 hH10 ).le (by decide)) (fun M61 ⟨hH61, hR61, p58, p59, p60⟩ => ?_)
    have hF61 := hF10.tr hR61 (by decide +kernel)
    obtain ⟨z62, k63, lz62, uz62⟩ := hH61.ld (c := 27) (i := 6) (A := (-1)) (B := 9) (bs_23_1 _ _ (by omega) (by omega))
    obtain ⟨z64, k65, lz64, uz64⟩ := hH61.ld (c := 27) (i := 7) (A := (-1)) (B := 9) (bs_23_1 _ _ (by omega) (by omega))
    refine jx_load c1 hm rfl rfl rfl rfl ?_
    have k66 : M61.1 1 12 = z33 := (hR61 1 12 (by decide +kernel)).trans k34
    obtain ⟨z67, k68, lz67, uz67⟩ := hH61.ld (c := 1) (i := 13) (A := 0) (B := 940) (bs_19_9 _ _ (by omega) (by omega))
    exact jx_reti c2 hm rfl rfl ⟨_, rfl, hH61, hF61, by omega, by omega, (by omega), (fun t a1 a2 a3 a4 a5 => RLn.fin (hrl t a1 a2 a3 a4 a5) (by omega) (by omega) (hR61 1 12 rfl) (hR61 1 13 rfl)), (fun t a1 a2 a3 a4 a5 => RLW.fin (hrw t a1 a2 a3 a4 a5) (by omega) (by omega) (hR61 1 12 rfl) (fun s => hR61 28 s rfl) p59 p60)⟩
   refine jx_load c1 hm rfl rfl rfl rfl ?_
   refine jx_load c1 hm rfl rfl rfl rfl ?_
   refine jv_i c3 hm rfl pj_X2_readLine rfl rfl ⟨_, _, _, rfl, sh_27⟩ rfl ((ct_X2_readLine_27_1w X (by omega) M10 hH10 ).le (by decide)) (fun z69 M73 ⟨hH73, hR73, lz69, uz69, p70, p71, p72⟩ => ?_)
   have hF73 := hF10.tr hR73 (by decide +kernel)
   refine jz_eq c1 hm 49 rfl rfl (fun h74 => ?_) (fun h74 => ?_)
   ·
    refine jx_iinc c1 hm (v := (b9 + 1)) (L' := [some (.inr (.inr (.inl 27))), some (.inr (.inr (.inl 1))), some (.inl b8), some (.inl (b9 + 1))]) rfl rfl (by omega) (by omega) rfl ?_
    refine jx_goto c1 hm 8 rfl rfl ?_
    exact ihW14 b8 (by omega) (b9 + 1) (by omega) M73 hH73 hF73 (by omega) (fun t a1 a2 a3 a4 a5 => RLn.no (hrl t a1 a2 a3 a4 a5) (by omega) (by omega) (by omega) (fun σ hσ => LRc.seqz (p70 t σ hσ) (by omega))) (fun t a1 a2 a3 a4 a5 => RLW.nol (hrw t a1 a2 a3 a4 a5) (by omega) (fun σ hσ => LRc.seqz (p70 t σ hσ) (by omega))) (by omega)
   refine jx_load c1 hm rfl rfl rfl rfl ?_
   refine jy_bp c1 hm rfl (by decide) ?_
   refine jv_i c3 hm rfl pj_X10_takesSign rfl rfl ⟨_, _, _, rfl, sh_1⟩ rfl ((ct_X10_takesSign_1p X (by omega) M73 hH73 59 ⟨by omega, by omega⟩).le (by decide)) (fun z75 M78 ⟨hH78, hR78, lz75, uz75, p76, p77⟩ => ?_)
   have hF78 := hF73.tr hR78 (by decide +kernel)
   refine jz_eq c1 hm 49 rfl rfl (fun h79 => ?_) (fun h79 => ?_)
   ·
    refine jx_iinc c1 hm (v := (b9 + 1)) (L' := [some (.inr (.inr (.inl 27))), some (.inr (.inr (.inl 1))), some (.inl b8), some (.inl (b9 + 1))]) rfl rfl (by omega) (by omega) rfl ?_
    refine jx_goto c1 hm 8 rfl rfl ?_
    exact ihW14 b8 (by omega) (b9 + 1) (by omega) M78 hH78 hF78 (by omega) (fun t a1 a2 a3 a4 a5 => RLn.no (hrl t a1 a2 a3 a4 a5) (by omega) (by omega) (by omega) (fun σ hσ => LRc.seqg (p70 t σ hσ) (by omega) (fun l1 h1 => LRc.z (p76 t _ h1) (by omega)))) (fun t a1 a2 a3 a4 a5 => RLW.nol (hrw t a1 a2 a3 a4 a5) (by omega) (fun σ hσ => LRc.seqg (p70 t σ hσ) (by omega) (fun l1 h1 => LRc.z (p76 t _ h1) (by omega)))) (by omega)
   refine jx_iinc c1 hm (v := (b8 + 1)) (L' := [some (.inr (.inr (.inl 27))), some (.inr (.inr (.inl 1))), some (.inl (b8 + 1)), some (.inl b9)]) rfl rfl (by omega) (by omega) rfl ?_
   refine jx_iinc c1 hm (v := (b9 + 1)) (L' := [some (.inr (.inr (.inl 27))), some (.inr (.inr (.inl 1))), some (.inl (b8 + 1)), some (.inl (b9 + 1))]) rfl rfl (by omega) (by omega) rfl ?_
   refine jx_goto c1 hm 8 rfl rfl ?_
   exact ihW14 (b8 + 1) (by omega) (b9 + 1) (by omega) M78 hH78 hF78 (by omega) (fun t a1 a2 a3 a4 a5 => RLn.go (hrl t a1 a2 a3 a4 a5) (by omega) (by omega) (by omega) (fun σ hσ => LRc.seqg (p70 t σ hσ) (by omega) (fun l1 h1 => LRc.u (p76 t _ h1) (by omega)))) (fun t a1 a2 a3 a4 a5 => RLW.go (hrw t a1 a2 a3 a4 a5) (by omega) (by omega) (by omega) (fun σ hσ => LRc.seqg (p70 t σ hσ) (by omega) (fun l1 h1 => LRc.u (p76 t _ h1) (by omega))) (fun σ wm hσ hw => CWv.cg (p72 t σ wm hσ hw (by omega)) (hR78 27 6 rfl) (hR78 27 7 rfl))) (by omega)
 exact W14 (900 + 1 : Int).toNat 0 (by omega) 0 (by omega) M7 hH7 hF7 (by omega) (fun t a1 a2 a3 a4 a5 => RLn.start (CTk.cg a4 (fun j => hR7 2 j rfl) (fun i => hR7 1 i rfl) (fun i => p6 1 i rfl)) ((hR7 1 12 rfl).trans a5) p5 (PI.zero ⟨by omega, by omega⟩ (by omega))) (fun t a1 a2 a3 a4 a5 => RLW.start (CTk.cg a4 (fun j => hR7 2 j rfl) (fun i => hR7 1 i rfl) (fun i => p6 1 i rfl)) ((hR7 1 12 rfl).trans a5) p5 (PI.zero ⟨by omega, by omega⟩ (by omega))) (by omega)
def md_X11_copyRow_28_6w : List (Nat × (Nat × Nat)) := [(6, (0, 2))]
theorem ct_X11_copyRow_28_6w (X : Int) (hX : 0 ≤ X ∧ X ≤ 100000000) (M0 : JM) (hH0 : HI X M0)  : JOk shp PJ 1 29 [.inr (.inr (.inl 28)), .inr (.inr (.inl 6))] M0 (jRv (fun M' => HI X M' ∧ Fr md_X11_copyRow_28_6w M0 M' ∧ (∀ j : Nat, (j : Int) < 3 → M'.1 6 j = M0.1 28 j))) := by
 refine ⟨jr_X11_copyRow, pj_X11_copyRow, fun F c1 c2 c3 => ?_⟩
 have hm := pj_X11_copyRow
 change F 0 [some (.inr (.inr (.inl 28))), some (.inr (.inr (.inl 6)))] [] M0
 have hF0 : Fr md_X11_copyRow_28_6w M0 M0 := Fr.rf _ _
 refine jx_load c1 hm rfl rfl rfl rfl ?_
 refine jy_ic c1 hm rfl (by decide) ?_
 refine jx_load c1 hm rfl rfl rfl rfl ?_
 refine jy_ic c1 hm rfl (by decide) ?_
 refine jx_load c1 hm rfl rfl rfl rfl ?_
 refine jx_alen c1 hm (v := 3) rfl sh_28 rfl rfl ?_
 refine jx_load c1 hm rfl rfl rfl rfl ?_
 refine jx_alen c1 hm (v := 3) rfl sh_6 rfl rfl ?_
 refine jx_min c1 hm rfl rfl (fun z1 lz1 uz1 ez1 => ?_)
 obtain ⟨M2, e2, hH2, hF2, n2, _⟩ := mcp hH0 hF0 (c1 := 28) (c2 := 6) (n := z1) (fun _ _ => rfl) (fun j hj => jin_of 0 rfl ⟨by omega, by omega⟩)
 refine jm_acpi c1 hm rfl rfl sh_28 sh_6 ⟨by omega, by omega, by omega⟩ e2 ?_
 exact jx_retv c2 hm rfl rfl ⟨rfl, hH2, hF2, (fun j hj => cp_at e2 (by omega))⟩
def md_X2_takeAll_5_27w : List (Nat × (Nat × Nat)) := [(5, (6, 6)), (5, (7, 7)), (6, (0, 2)), (7, (0, 17)), (8, (0, 5)), (10, (0, 35)), (11, (0, 5)), (12, (7, 7)), (13, (0, 5)), (14, (0, 5)), (15, (0, 5)), (16, (0, 5)), (17, (0, 35)), (18, (0, 35)), (19, (0, 35)), (20, (2, 2)), (20, (3, 3)), (21, (0, 39))]
theorem ct_X2_takeAll_5_27w (X : Int) (hX : 0 ≤ X ∧ X ≤ 100000000) (M0 : JM) (hH0 : HI X M0) (hp0 : 0 ≤ M0.1 27 6 ∧ 0 ≤ M0.1 27 7) : JOk shp PJ 3 231 [.inr (.inr (.inl 5)), .inr (.inr (.inl 27))] M0 (jRv (fun M' => HI X M' ∧ Fr md_X2_takeAll_5_27w M0 M' ∧ (dq M' 5 = dq M0 27))) := by
 refine ⟨jr_X2_takeAll, pj_X2_takeAll, fun F c1 c2 c3 => ?_⟩
 have hm := pj_X2_takeAll
 change F 0 [some (.inr (.inr (.inl 5))), some (.inr (.inr (.inl 27)))] [] M0
 have hF0 : Fr md_X2_takeAll_5_27w M0 M0 := Fr.rf _ _
 obtain ⟨z1, k2, lz1, uz1⟩ := hH0.ld (c := 27) (i := 6) (A := (-1)) (B := 9) (bs_23_1 _ _ (by omega) (by omega))
 obtain ⟨z3, k4, lz3, uz3⟩ := hH0.ld (c := 27) (i := 7) (A := (-1)) (B := 9) (bs_23_1 _ _ (by omega) (by omega))
 refine jx_load c1 hm rfl rfl rfl rfl ?_
 refine jx_getr c1 hm rfl sh_27 rfl ?_
 refine jx_load c1 hm rfl rfl rfl rfl ?_
 refine jx_getr c1 hm rfl sh_5 rfl ?_
 refine jt_v c3 hm rfl rfl pj_X11_copyRow rfl rfl rfl ((ct_X11_copyRow_28_6w X (by omega) M0 hH0 ).le (by decide)) (fun M6 ⟨hH6, hR6, p5⟩ => ?_)
 have hF6 := hF0.tr hR6 (by decide +kernel)
 refine jx_load c1 hm rfl rfl rfl rfl ?_
 refine jx_getr c1 hm rfl sh_27 rfl ?_
 refine jy_ic c1 hm rfl (by decide) ?_
 refine jx_load c1 hm rfl rfl rfl rfl ?_
 refine jx_getr c1 hm rfl sh_5 rfl ?_
 refine jy_ic c1 hm rfl (by decide) ?_
 refine jy_bp c1 hm rfl (by decide) ?_
 obtain ⟨M7, e7, hH7, hF7, n7⟩ := mcl hH6 hF6 (c1 := 29) (c2 := 7) (n := 18) rfl
 refine jm_acpl c1 hm rfl rfl sh_29 sh_7 ⟨by omega, by omega, by omega⟩ e7 ?_
 refine jx_load c1 hm rfl rfl rfl rfl ?_
 refine jx_getr c1 hm rfl sh_27 rfl ?_
 refine jx_load c1 hm rfl rfl rfl rfl ?_
 refine jx_getr c1 hm rfl sh_5 rfl ?_
 refine jt_v c3 hm rfl rfl pj_X11_copyRow rfl rfl rfl ((ct_X11_copyRow_30_8 X (by omega) M7 hH7 ).le (by decide)) (fun M8 ⟨hH8, hR8⟩ => ?_)
 have hF8 := hF7.tr hR8 (by decide +kernel)
 refine jx_load c1 hm rfl rfl rfl rfl ?_
 refine jx_getr c1 hm rfl sh_27 rfl ?_
 refine jx_load c1 hm rfl rfl rfl rfl ?_
 refine jx_getr c1 hm rfl sh_5 rfl ?_
 refine jt_v c3 hm rfl rfl pj_X11_copyRow rfl rfl rfl ((ct_X11_copyRow_32_10 X (by omega) M8 hH8 ).le (by decide)) (fun M9 ⟨hH9, hR9⟩ => ?_)
 have hF9 := hF8.tr hR9 (by decide +kernel)
 refine jx_load c1 hm rfl rfl rfl rfl ?_
 refine jx_getr c1 hm rfl sh_27 rfl ?_
 refine jx_load c1 hm rfl rfl rfl rfl ?_
 refine jx_getr c1 hm rfl sh_5 rfl ?_
 refine jt_v c3 hm rfl rfl pj_X11_copyRow rfl rfl rfl ((ct_X11_copyRow_33_11 X (by omega) M9 hH9 ).le (by decide)) (fun M10 ⟨hH10, hR10⟩ => ?_)
 have hF10 := hF9.tr hR10 (by decide +kernel)
 refine jx_load c1 hm rfl rfl rfl rfl ?_
 refine jx_load c1 hm rfl rfl rfl rfl ?_
 have k11 : M10.1 27 6 = z1 := (hR10 27 6 (by decide +kernel)).trans ((hR9 27 6 (by decide +kernel)).trans ((hR8 27 6 (by decide +kernel)).trans ((n7 27 6).trans ((hR6 27 6 (by decide +kernel)).trans k2))))
 refine jx_geti c1 hm rfl sh_27 rfl k11 ?_
 obtain ⟨M12, e12, hH12, hF12, k12, n12, q12⟩ := mup hH10 hF10 (c := 5) (i := 6) (v := z1) (A := 0) (B := 9) (bs_20_1 _ _ (by omega) (by omega)) ⟨by omega, by omega⟩ (jin_of 0 rfl ⟨by omega, by omega⟩)
 refine jm_puti c1 hm rfl sh_5 rfl e12 ?_
 refine jx_load c1 hm rfl rfl rfl rfl ?_
 refine jx_load c1 hm rfl rfl rfl rfl ?_
 have k13 : M12.1 27 7 = z3 := (n12 27 7 (fun h => absurd h.1 (by decide))).trans ((hR10 27 7 (by decide +kernel)).trans ((hR9 27 7 (by decide +kernel)).trans ((hR8 27 7 (by decide +kernel)).trans ((n7 27 7).trans ((hR6 27 7 (by decide +kernel)).trans k4)))))
 refine jx_geti c1 hm rfl sh_27 rfl k13 ?_
 obtain ⟨M14, e14, hH14, hF14, k14, n14, q14⟩ := mup hH12 hF12 (c := 5) (i := 7) (v := z3) (A := 0) (B := 9) (bs_20_1 _ _ (by omega) (by omega)) ⟨by omega, by omega⟩ (jin_of 1 rfl ⟨by omega, by omega⟩)
 refine jm_puti c1 hm rfl sh_5 rfl e14 ?_
 refine jx_load c1 hm rfl rfl rfl rfl ?_
 refine jx_getr c1 hm rfl sh_5 rfl ?_
 refine jx_load c1 hm rfl rfl rfl rfl ?_
 refine jx_getr c1 hm rfl sh_27 rfl ?_
 refine jv_v c3 hm rfl pj_X8_takeAll rfl rfl ⟨_, _, _, rfl, sh_12⟩ rfl ((ct_X8_takeAll_12_34 X (by omega) M14 hH14 ).le (by decide)) (fun M15 ⟨hH15, hR15⟩ => ?_)
 have hF15 := hF14.tr hR15 (by decide +kernel)
 refine jx_load c1 hm rfl rfl rfl rfl ?_
 refine jx_getr c1 hm rfl sh_5 rfl ?_
 refine jx_load c1 hm rfl rfl rfl rfl ?_
 refine jx_getr c1 hm rfl sh_27 rfl ?_
 refine jv_v c3 hm rfl pj_X7_takeAll rfl rfl ⟨_, _, _, rfl, sh_20⟩ rfl ((ct_X7_takeAll_20_42 X (by omega) M15 hH15 ).le (by decide)) (fun M16 ⟨hH16, hR16⟩ => ?_)
 have hF16 := hF15.tr hR16 (by decide +kernel)
 exact jx_retv c2 hm rfl rfl ⟨rfl, hH16, hF16, (dq_cp (fun j hj => ((((((((hR16 6 j rfl).trans (hR15 6 j rfl)).trans (n14 6 j (fun h => absurd h.1 (by decide)))).trans (n12 6 j (fun h => absurd h.1 (by decide)))).trans (hR10 6 j rfl)).trans (hR9 6 j rfl)).trans (hR8 6 j rfl)).trans (n7 6 j)).trans (p5 j hj)) (by have y9 := (((hR16 5 6 rfl).trans (hR15 5 6 rfl)).trans (n14 5 6 (by decide))); omega) (by have y9 := ((hR16 5 7 rfl).trans (hR15 5 7 rfl)); omega))⟩
def md_X11_duchy_0w : List (Nat × (Nat × Nat)) := [(0, (2, 2)), (0, (3, 3)), (1, (2, 2)), (1, (3, 3)), (1, (4, 4)), (1, (5, 5)), (1, (6, 6)), (1, (7, 7)), (1, (9, 9)), (1, (11, 11)), (1, (12, 12)), (1, (13, 13)), (5, (6, 6)), (5, (7, 7)), (6, (0, 2)), (7, (0, 17)), (8, (0, 5)), (10, (0, 35)), (11, (0, 5)), (12, (7, 7)), (13, (0, 5)), (14, (0, 5)), (15, (0, 5)), (16, (0, 5)), (17, (0, 35)), (18, (0, 35)), (19, (0, 35)), (20, (2, 2)), (20, (3, 3)), (21, (0, 39)), (27, (6, 6)), (27, (7, 7)), (28, (0, 2)), (30, (0, 5)), (31, (0, 5)), (32, (0, 35)), (33, (0, 5)), (34, (7, 7)), (35, (0, 5)), (36, (0, 5)), (37, (0, 5)), (38, (0, 5)), (39, (0, 35)), (40, (0, 35)), (41, (0, 35)), (42, (2, 2)), (42, (3, 3)), (55, (2, 2))]
theorem ct_X11_duchy_0w (X : Int) (hX : 0 ≤ X ∧ X ≤ 100000000) (M0 : JM) (hH0 : HI X M0)  : JOk shp PJ 7 34 [.inr (.inr (.inl 0))] M0 (jRi (fun v M' => HI X M' ∧ Fr md_X11_duchy_0w M0 M' ∧ (-941) ≤ v ∧ v ≤ 900 ∧ (v = duS (uC M0) (M0.1 0 2)) ∧ (M'.1 0 2 = 0) ∧ (0 ≤ v → dq M' 5 = fiS (uC M0) (M0.1 0 2)) ∧ (v < 0 → dq M' 5 = dq M0 5))) := by
 refine ⟨jr_X11_duchy, pj_X11_duchy, fun F c1 c2 c3 => ?_⟩
 have hm := pj_X11_duchy
 change F 0 [some (.inr (.inr (.inl 0))), none] [] M0
 have hF0 : Fr md_X11_duchy_0w M0 M0 := Fr.rf _ _
 obtain ⟨z1, k2, lz1, uz1⟩ := hH0.ld (c := 0) (i := 2) (A := 0) (B := 940) (bs_18_1 _ _ (by omega) (by omega))
 refine jx_load c1 hm rfl rfl rfl rfl ?_
 refine jy_sp c1 hm rfl (by decide) ?_
 refine jv_v c3 hm rfl pj_X11_startTokens rfl rfl ⟨_, _, _, rfl, sh_0⟩ rfl ((ct_X11_startTokens_0p X (by omega) M0 hH0 900 ⟨by omega, by omega⟩).le (by decide)) (fun M5 ⟨hH5, hR5, p3, p4⟩ => ?_)
 have hF5 := hF0.tr hR5 (by decide +kernel)
 obtain ⟨z6, k7, lz6, uz6⟩ := hH5.ld (c := 1) (i := 12) (A := 0) (B := 4) (bs_19_8 _ _ (by omega) (by omega))
 obtain ⟨z8, k9, lz8, uz8⟩ := hH5.ld (c := 0) (i := 2) (A := 0) (B := 940) (bs_18_1 _ _ (by omega) (by omega))
 refine jx_load c1 hm rfl rfl rfl rfl ?_
 refine jx_getr c1 hm rfl sh_0 rfl ?_
 refine jx_load c1 hm rfl rfl rfl rfl ?_
 refine jx_getr c1 hm rfl sh_0 rfl ?_
 refine jv_i c3 hm rfl pj_X2_readLines rfl rfl ⟨_, _, _, rfl, sh_27⟩ rfl ((ct_X2_readLines_27_1w X (by omega) M5 hH5 ).le (by decide)) (fun z10 M14 ⟨hH14, hR14, lz10, uz10, p11, p12, p13⟩ => ?_)
 have hF14 := hF5.tr hR14 (by decide +kernel)
 obtain ⟨z15, k16, lz15, uz15⟩ := hH14.ld (c := 27) (i := 6) (A := (-1)) (B := 9) (bs_23_1 _ _ (by omega) (by omega))
 obtain ⟨z17, k18, lz17, uz17⟩ := hH14.ld (c := 27) (i := 7) (A := (-1)) (B := 9) (bs_23_1 _ _ (by omega) (by omega))
 obtain ⟨z19, k20, lz19, uz19⟩ := hH14.ld (c := 1) (i := 12) (A := 0) (B := 4) (bs_19_8 _ _ (by omega) (by omega))
 obtain ⟨z21, k22, lz21, uz21⟩ := hH14.ld (c := 1) (i := 13) (A := 0) (B := 940) (bs_19_9 _ _ (by omega) (by omega))
 refine jx_stor c1 hm (L' := [some (.inr (.inr (.inl 0))), some (.inl z10)]) rfl rfl rfl rfl rfl ?_
 refine jx_load c1 hm rfl rfl rfl rfl ?_
 refine jx_load c1 hm rfl rfl rfl rfl ?_
 refine jx_getr c1 hm rfl sh_0 rfl ?_
 refine jx_geti c1 hm rfl sh_1 rfl k20 ?_
 obtain ⟨M23, e23, hH23, hF23, k23, n23, q23⟩ := mup hH14 hF14 (c := 0) (i := 3) (v := z19) (A := (-2147483648)) (B := 2147483647) (bs_18_2 _ _ (by omega) (by omega)) ⟨by omega, by omega⟩ (jin_of 1 rfl ⟨by omega, by omega⟩)
 refine jm_puti c1 hm rfl sh_0 rfl e23 ?_
 refine jx_load c1 hm rfl rfl rfl rfl ?_
 refine jx_getr c1 hm rfl sh_0 rfl ?_
 have k24 : M23.1 1 12 = z19 := (n23 1 12 (fun h => absurd h.1 (by decide))).trans k20
 refine jx_geti c1 hm rfl sh_1 rfl k24 ?_
 refine jz_eq c1 hm 50 rfl rfl (fun h25 => ?_) (fun h25 => ?_)
 ·
  refine jx_load c1 hm rfl rfl rfl rfl ?_
  refine jx_getr c1 hm rfl sh_0 rfl ?_
  refine jx_load c1 hm rfl rfl rfl rfl ?_
  refine jx_getr c1 hm rfl sh_0 rfl ?_
  have k26 : M23.1 27 6 = z15 := (n23 27 6 (fun h => absurd h.1 (by decide))).trans k16
  have k27 : M23.1 27 7 = z17 := (n23 27 7 (fun h => absurd h.1 (by decide))).trans k18
  refine jv_v c3 hm rfl pj_X2_takeAll rfl rfl ⟨_, _, _, rfl, sh_5⟩ rfl ((ct_X2_takeAll_5_27w X (by omega) M23 hH23 (by omega)).le (by decide)) (fun M29 ⟨hH29, hR29, p28⟩ => ?_)
  have hF29 := hF23.tr hR29 (by decide +kernel)
  refine jx_load c1 hm rfl rfl rfl rfl ?_
  refine jx_getr c1 hm rfl sh_0 rfl ?_
  refine jv_v c3 hm rfl pj_X4_forget rfl rfl ⟨_, _, _, rfl, sh_55⟩ rfl ((ct_X4_forget_55 X (by omega) M29 hH29 ).le (by decide)) (fun M30 ⟨hH30, hR30⟩ => ?_)
  have hF30 := hF29.tr hR30 (by decide +kernel)
  refine jx_load c1 hm rfl rfl rfl rfl ?_
  have k31 : M30.1 0 2 = z8 := (hR30 0 2 (by decide +kernel)).trans ((hR29 0 2 (by decide +kernel)).trans ((n23 0 2 (by decide)).trans ((hR14 0 2 (by decide +kernel)).trans k9)))
  exact jx_reti c2 hm rfl rfl ⟨_, rfl, hH30, hF30, by omega, by omega, (by have y9 := p12 (uC M0, (M0.1 0 2, 900)) rfl (by show M0.1 0 2 ≤ 940; omega) (by show 0 ≤ M0.1 0 2; omega) p3.1 p3.2; show _ = allS (uC M0, (M0.1 0 2, 900)) 1000 0 st0; omega), (by omega), (fun _ => ((((dq_cg (d := 5) (fun j => (hR30 6 j rfl)) (hR30 5 6 rfl) (hR30 5 7 rfl)).trans p28).trans (dq_cg (d := 27) (fun j => (n23 28 j (fun h => absurd h.1 (by decide)))) (n23 27 6 (fun h => absurd h.1 (by decide))) (n23 27 7 (fun h => absurd h.1 (by decide))))).trans (p13 (uC M0, (M0.1 0 2, 900)) rfl (by show M0.1 0 2 ≤ 940; omega) (by show 0 ≤ M0.1 0 2; omega) p3.1 p3.2 (by omega)))), (fun y => absurd y (by omega))⟩
 refine jy_ic c1 hm rfl (by decide) ?_
 refine jx_load c1 hm rfl rfl rfl rfl ?_
 refine jx_getr c1 hm rfl sh_0 rfl ?_
 have k32 : M23.1 1 13 = z21 := (n23 1 13 (fun h => absurd h.1 (by decide))).trans k22
 refine jx_geti c1 hm rfl sh_1 rfl k32 ?_
 refine jy_sub c1 hm (-z21 - 1) rfl (by omega) ?_
 have k33 : M23.1 0 2 = z8 := (n23 0 2 (by decide)).trans ((hR14 0 2 (by decide +kernel)).trans k9)
 exact jx_reti c2 hm rfl rfl ⟨_, rfl, hH23, hF23, by omega, by omega, (by have y9 := p12 (uC M0, (M0.1 0 2, 900)) rfl (by show M0.1 0 2 ≤ 940; omega) (by show 0 ≤ M0.1 0 2; omega) p3.1 p3.2; show _ = allS (uC M0, (M0.1 0 2, 900)) 1000 0 st0; omega), (by omega), (fun y => absurd y (by omega)), (fun _ => (dq_cg (d := 5) (fun j => (((n23 6 j (fun h => absurd h.1 (by decide))).trans (hR14 6 j rfl)).trans (hR5 6 j rfl))) (((n23 5 6 (fun h => absurd h.1 (by decide))).trans (hR14 5 6 rfl)).trans (hR5 5 6 rfl)) (((n23 5 7 (fun h => absurd h.1 (by decide))).trans (hR14 5 7 rfl)).trans (hR5 5 7 rfl))))⟩
