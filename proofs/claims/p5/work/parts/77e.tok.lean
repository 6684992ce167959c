def md_J7_fill_53178_28p : List (Nat × (Nat × Nat)) := [(28, (0, 2))]
theorem ct_J7_fill_53178_28p (X : Int) (hX : 0 ≤ X ∧ X ≤ 100000000) (M0 : JM) (hH0 : HI X M0) (a0 : Int) (ha0 : 0 ≤ a0 ∧ a0 ≤ 0) : JOk shp PJ 1 1 [.inr (.inr (.inl 28)), .inl a0] M0 (jRv (fun M' => HI X M' ∧ Fr md_J7_fill_53178_28p M0 M' ∧ (FLP 28 a0 3 M') ∧ (LFr ml_0 M0 M'))) := by
 refine ⟨jr_J7_fill_53178, pj_J7_fill_53178, fun F c1 c2 c3 => ?_⟩
 have hm := pj_J7_fill_53178
 change F 0 [some (.inr (.inr (.inl 28))), some (.inl a0), none, none] [] M0
 have hF0 : Fr md_J7_fill_53178_28p M0 M0 := Fr.rf _ _
 refine jy_ic c1 hm rfl (by decide) ?_
 refine jx_stor c1 hm (L' := [some (.inr (.inr (.inl 28))), some (.inl a0), some (.inl 0), none]) rfl rfl rfl rfl rfl ?_
 refine jx_load c1 hm rfl rfl rfl rfl ?_
 refine jx_alen c1 hm (v := 3) rfl sh_28 rfl rfl ?_
 refine jx_stor c1 hm (L' := [some (.inr (.inr (.inl 28))), some (.inl a0), some (.inl 0), some (.inl 3)]) rfl rfl rfl rfl rfl ?_
 have W5 : ∀ (n6 : Nat) (b1 : Int) (hb1 : 0 ≤ b1 ∧ b1 ≤ 3) (M2 : JM) (hH2 : HI (X) M2) (hF2 : Fr md_J7_fill_53178_28p M0 M2) (hfl : FLP 28 a0 b1 M2) (hg : LFr ml_0 M0 M2), (-b1 + 3) < (n6 : Int) → F 5 [some (.inr (.inr (.inl 28))), some (.inl a0), some (.inl b1), some (.inl 3)] [] M2 := by
  intro n6
  induction n6 with
  | zero => intros; omega
  | succ n6 ihW5 =>
   intro b1 hb1 M2 hH2 hF2 hfl hg hrW5
   refine jx_load c1 hm rfl rfl rfl rfl ?_
   refine jx_load c1 hm rfl rfl rfl rfl ?_
   refine jc_ge c1 hm 20 rfl rfl (fun h7 => ?_) (fun h7 => ?_)
   ·
    exact jx_retv c2 hm rfl rfl ⟨rfl, hH2, hF2, (FLP.le hfl (by omega)), hg⟩
   refine jx_load c1 hm rfl rfl rfl rfl ?_
   refine jx_load c1 hm rfl rfl rfl rfl ?_
   refine jx_load c1 hm rfl rfl rfl rfl ?_
   obtain ⟨M8, e8, hH8, hF8, k8, n8, q8⟩ := mup hH2 hF2 (c := 28) (i := (b1).toNat) (v := a0) (A := 0) (B := 6) rfl ⟨by omega, by omega⟩ (jin_of 0 rfl ⟨by omega, by omega⟩)
   refine jm_iast c1 hm rfl sh_28 ⟨by omega, by omega⟩ e8 ?_
   refine jx_iinc c1 hm (v := (b1 + 1)) (L' := [some (.inr (.inr (.inl 28))), some (.inl a0), some (.inl (b1 + 1)), some (.inl 3)]) rfl rfl (by omega) (by omega) rfl ?_
   refine jx_goto c1 hm 5 rfl rfl ?_
   exact ihW5 (b1 + 1) (by omega) M8 hH8 hF8 (FLP.st hfl (by omega) k8 n8) (hg.eq q8) (by omega)
 exact W5 (3 + 1 : Int).toNat 0 (by omega) M0 hH0 hF0 FLP.start (LFr.rf _ _) (by omega)
def md_J7_fill_53178_32p : List (Nat × (Nat × Nat)) := [(32, (0, 35))]
theorem ct_J7_fill_53178_32p (X : Int) (hX : 0 ≤ X ∧ X ≤ 100000000) (M0 : JM) (hH0 : HI X M0) (a0 : Int) (ha0 : (-1) ≤ a0 ∧ a0 ≤ (-1)) : JOk shp PJ 1 1 [.inr (.inr (.inl 32)), .inl a0] M0 (jRv (fun M' => HI X M' ∧ Fr md_J7_fill_53178_32p M0 M' ∧ (FLP 32 a0 36 M') ∧ (LFr ml_0 M0 M'))) := by
 refine ⟨jr_J7_fill_53178, pj_J7_fill_53178, fun F c1 c2 c3 => ?_⟩
 have hm := pj_J7_fill_53178
 change F 0 [some (.inr (.inr (.inl 32))), some (.inl a0), none, none] [] M0
 have hF0 : Fr md_J7_fill_53178_32p M0 M0 := Fr.rf _ _
 refine jy_ic c1 hm rfl (by decide) ?_
 refine jx_stor c1 hm (L' := [some (.inr (.inr (.inl 32))), some (.inl a0), some (.inl 0), none]) rfl rfl rfl rfl rfl ?_
 refine jx_load c1 hm rfl rfl rfl rfl ?_
 refine jx_alen c1 hm (v := 36) rfl sh_32 rfl rfl ?_
 refine jx_stor c1 hm (L' := [some (.inr (.inr (.inl 32))), some (.inl a0), some (.inl 0), some (.inl 36)]) rfl rfl rfl rfl rfl ?_
 have W5 : ∀ (n6 : Nat) (b1 : Int) (hb1 : 0 ≤ b1 ∧ b1 ≤ 36) (M2 : JM) (hH2 : HI (X) M2) (hF2 : Fr md_J7_fill_53178_32p M0 M2) (hfl : FLP 32 a0 b1 M2) (hg : LFr ml_0 M0 M2), (-b1 + 36) < (n6 : Int) → F 5 [some (.inr (.inr (.inl 32))), some (.inl a0), some (.inl b1), some (.inl 36)] [] M2 := by
  intro n6
  induction n6 with
  | zero => intros; omega
  | succ n6 ihW5 =>
   intro b1 hb1 M2 hH2 hF2 hfl hg hrW5
   refine jx_load c1 hm rfl rfl rfl rfl ?_
   refine jx_load c1 hm rfl rfl rfl rfl ?_
   refine jc_ge c1 hm 20 rfl rfl (fun h7 => ?_) (fun h7 => ?_)
   ·
    exact jx_retv c2 hm rfl rfl ⟨rfl, hH2, hF2, (FLP.le hfl (by omega)), hg⟩
   refine jx_load c1 hm rfl rfl rfl rfl ?_
   refine jx_load c1 hm rfl rfl rfl rfl ?_
   refine jx_load c1 hm rfl rfl rfl rfl ?_
   obtain ⟨M8, e8, hH8, hF8, k8, n8, q8⟩ := mup hH2 hF2 (c := 32) (i := (b1).toNat) (v := a0) (A := (-1)) (B := 20) rfl ⟨by omega, by omega⟩ (jin_of 0 rfl ⟨by omega, by omega⟩)
   refine jm_iast c1 hm rfl sh_32 ⟨by omega, by omega⟩ e8 ?_
   refine jx_iinc c1 hm (v := (b1 + 1)) (L' := [some (.inr (.inr (.inl 32))), some (.inl a0), some (.inl (b1 + 1)), some (.inl 36)]) rfl rfl (by omega) (by omega) rfl ?_
   refine jx_goto c1 hm 5 rfl rfl ?_
   exact ihW5 (b1 + 1) (by omega) M8 hH8 hF8 (FLP.st hfl (by omega) k8 n8) (hg.eq q8) (by omega)
 exact W5 (36 + 1 : Int).toNat 0 (by omega) M0 hH0 hF0 FLP.start (LFr.rf _ _) (by omega)
def md_J7_fill_53178_35p : List (Nat × (Nat × Nat)) := [(35, (0, 5))]
theorem ct_J7_fill_53178_35p (X : Int) (hX : 0 ≤ X ∧ X ≤ 100000000) (M0 : JM) (hH0 : HI X M0) (a0 : Int) (ha0 : 0 ≤ a0 ∧ a0 ≤ 0) : JOk shp PJ 1 1 [.inr (.inr (.inl 35)), .inl a0] M0 (jRv (fun M' => HI X M' ∧ Fr md_J7_fill_53178_35p M0 M' ∧ (FLP 35 a0 6 M') ∧ (LFr ml_0 M0 M'))) := by
 refine ⟨jr_J7_fill_53178, pj_J7_fill_53178, fun F c1 c2 c3 => ?_⟩
 have hm := pj_J7_fill_53178
 change F 0 [some (.inr (.inr (.inl 35))), some (.inl a0), none, none] [] M0
 have hF0 : Fr md_J7_fill_53178_35p M0 M0 := Fr.rf _ _
 refine jy_ic c1 hm rfl (by decide) ?_
 refine jx_stor c1 hm (L' := [some (.inr (.inr (.inl 35))), some (.inl a0), some (.inl 0), none]) rfl rfl rfl rfl rfl ?_
 refine jx_load c1 hm rfl rfl rfl rfl ?_
 refine jx_alen c1 hm (v := 6) rfl sh_35 rfl rfl ?_
 refine jx_stor c1 hm (L' := [some (.inr (.inr (.inl 35))), some (.inl a0), some (.inl 0), some (.inl 6)]) rfl rfl rfl rfl rfl ?_
 have W5 : ∀ (n6 : Nat) (b1 : Int) (hb1 : 0 ≤ b1 ∧ b1 ≤ 6) (M2 : JM) (hH2 : HI (X) M2) (hF2 : Fr md_J7_fill_53178_35p M0 M2) (hfl : FLP 35 a0 b1 M2) (hg : LFr ml_0 M0 M2), (-b1 + 6) < (n6 : Int) → F 5 [some (.inr (.inr (.inl 35))), some (.inl a0), some (.inl b1), some (.inl 6)] [] M2 := by
  intro n6
  induction n6 with
  | zero => intros; omega
  | succ n6 ihW5 =>
   intro b1 hb1 M2 hH2 hF2 hfl hg hrW5
   refine jx_load c1 hm rfl rfl rfl rfl ?_
   refine jx_load c1 hm rfl rfl rfl rfl ?_
   refine jc_ge c1 hm 20 rfl rfl (fun h7 => ?_) (fun h7 => ?_)
   ·
    exact jx_retv c2 hm rfl rfl ⟨rfl, hH2, hF2, (FLP.le hfl (by omega)), hg⟩
   refine jx_load c1 hm rfl rfl rfl rfl ?_
   refine jx_load c1 hm rfl rfl rfl rfl ?_
   refine jx_load c1 hm rfl rfl rfl rfl ?_
   obtain ⟨M8, e8, hH8, hF8, k8, n8, q8⟩ := mup hH2 hF2 (c := 35) (i := (b1).toNat) (v := a0) (A := (-2147483648)) (B := 2147483647) rfl ⟨by omega, by omega⟩ (jin_of 0 rfl ⟨by omega, by omega⟩)
   refine jm_iast c1 hm rfl sh_35 ⟨by omega, by omega⟩ e8 ?_
   refine jx_iinc c1 hm (v := (b1 + 1)) (L' := [some (.inr (.inr (.inl 35))), some (.inl a0), some (.inl (b1 + 1)), some (.inl 6)]) rfl rfl (by omega) (by omega) rfl ?_
   refine jx_goto c1 hm 5 rfl rfl ?_
   exact ihW5 (b1 + 1) (by omega) M8 hH8 hF8 (FLP.st hfl (by omega) k8 n8) (hg.eq q8) (by omega)
 exact W5 (6 + 1 : Int).toNat 0 (by omega) M0 hH0 hF0 FLP.start (LFr.rf _ _) (by omega)
def md_J7_fill_53178_36p : List (Nat × (Nat × Nat)) := [(36, (0, 5))]
theorem ct_J7_fill_53178_36p (X : Int) (hX : 0 ≤ X ∧ X ≤ 100000000) (M0 : JM) (hH0 : HI X M0) (a0 : Int) (ha0 : 0 ≤ a0 ∧ a0 ≤ 0) : JOk shp PJ 1 1 [.inr (.inr (.inl 36)), .inl a0] M0 (jRv (fun M' => HI X M' ∧ Fr md_J7_fill_53178_36p M0 M' ∧ (FLP 36 a0 6 M') ∧ (LFr ml_0 M0 M'))) := by
 refine ⟨jr_J7_fill_53178, pj_J7_fill_53178, fun F c1 c2 c3 => ?_⟩
 have hm := pj_J7_fill_53178
 change F 0 [some (.inr (.inr (.inl 36))), some (.inl a0), none, none] [] M0
 have hF0 : Fr md_J7_fill_53178_36p M0 M0 := Fr.rf _ _
 refine jy_ic c1 hm rfl (by decide) ?_
 refine jx_stor c1 hm (L' := [some (.inr (.inr (.inl 36))), some (.inl a0), some (.inl 0), none]) rfl rfl rfl rfl rfl ?_
 refine jx_load c1 hm rfl rfl rfl rfl ?_
 refine jx_alen c1 hm (v := 6) rfl sh_36 rfl rfl ?_
 refine jx_stor c1 hm (L' := [some (.inr (.inr (.inl 36))), some (.inl a0), some (.inl 0), some (.inl 6)]) rfl rfl rfl rfl rfl ?_
 have W5 : ∀ (n6 : Nat) (b1 : Int) (hb1 : 0 ≤ b1 ∧ b1 ≤ 6) (M2 : JM) (hH2 : HI (X) M2) (hF2 : Fr md_J7_fill_53178_36p M0 M2) (hfl : FLP 36 a0 b1 M2) (hg : LFr ml_0 M0 M2), (-b1 + 6) < (n6 : Int) → F 5 [some (.inr (.inr (.inl 36))), some (.inl a0), some (.inl b1), some (.inl 6)] [] M2 := by
  intro n6
  induction n6 with
  | zero => intros; omega
  | succ n6 ihW5 =>
   intro b1 hb1 M2 hH2 hF2 hfl hg hrW5
   refine jx_load c1 hm rfl rfl rfl rfl ?_
   refine jx_load c1 hm rfl rfl rfl rfl ?_
   refine jc_ge c1 hm 20 rfl rfl (fun h7 => ?_) (fun h7 => ?_)
   ·
    exact jx_retv c2 hm rfl rfl ⟨rfl, hH2, hF2, (FLP.le hfl (by omega)), hg⟩
   refine jx_load c1 hm rfl rfl rfl rfl ?_
   refine jx_load c1 hm rfl rfl rfl rfl ?_
   refine jx_load c1 hm rfl rfl rfl rfl ?_
   obtain ⟨M8, e8, hH8, hF8, k8, n8, q8⟩ := mup hH2 hF2 (c := 36) (i := (b1).toNat) (v := a0) (A := (-2147483648)) (B := 2147483647) rfl ⟨by omega, by omega⟩ (jin_of 0 rfl ⟨by omega, by omega⟩)
   refine jm_iast c1 hm rfl sh_36 ⟨by omega, by omega⟩ e8 ?_
   refine jx_iinc c1 hm (v := (b1 + 1)) (L' := [some (.inr (.inr (.inl 36))), some (.inl a0), some (.inl (b1 + 1)), some (.inl 6)]) rfl rfl (by omega) (by omega) rfl ?_
   refine jx_goto c1 hm 5 rfl rfl ?_
   exact ihW5 (b1 + 1) (by omega) M8 hH8 hF8 (FLP.st hfl (by omega) k8 n8) (hg.eq q8) (by omega)
 exact W5 (6 + 1 : Int).toNat 0 (by omega) M0 hH0 hF0 FLP.start (LFr.rf _ _) (by omega)
def md_J7_fill_53178_37p : List (Nat × (Nat × Nat)) := [(37, (0, 5))]
theorem ct_J7_fill_53178_37p (X : Int) (hX : 0 ≤ X ∧ X ≤ 100000000) (M0 : JM) (hH0 : HI X M0) (a0 : Int) (ha0 : 0 ≤ a0 ∧ a0 ≤ 0) : JOk shp PJ 1 1 [.inr (.inr (.inl 37)), .inl a0] M0 (jRv (fun M' => HI X M' ∧ Fr md_J7_fill_53178_37p M0 M' ∧ (FLP 37 a0 6 M') ∧ (LFr ml_0 M0 M'))) := by
 refine ⟨jr_J7_fill_53178, pj_J7_fill_53178, fun F c1 c2 c3 => ?_⟩
 have hm := pj_J7_fill_53178
 change F 0 [some (.inr (.inr (.inl 37))), some (.inl a0), none, none] [] M0
 have hF0 : Fr md_J7_fill_53178_37p M0 M0 := Fr.rf _ _
 refine jy_ic c1 hm rfl (by decide) ?_
 refine jx_stor c1 hm (L' := [some (.inr (.inr (.inl 37))), some (.inl a0), some (.inl 0), none]) rfl rfl rfl rfl rfl ?_
 refine jx_load c1 hm rfl rfl rfl rfl ?_
 refine jx_alen c1 hm (v := 6) rfl sh_37 rfl rfl ?_
 refine jx_stor c1 hm (L' := [some (.inr (.inr (.inl 37))), some (.inl a0), some (.inl 0), some (.inl 6)]) rfl rfl rfl rfl rfl ?_
 have W5 : ∀ (n6 : Nat) (b1 : Int) (hb1 : 0 ≤ b1 ∧ b1 ≤ 6) (M2 : JM) (hH2 : HI (X) M2) (hF2 : Fr md_J7_fill_53178_37p M0 M2) (hfl : FLP 37 a0 b1 M2) (hg : LFr ml_0 M0 M2), (-b1 + 6) < (n6 : Int) → F 5 [some (.inr (.inr (.inl 37))), some (.inl a0), some (.inl b1), some (.inl 6)] [] M2 := by
  intro n6
  induction n6 with
  | zero => intros; omega
  | succ n6 ihW5 =>
   intro b1 hb1 M2 hH2 hF2 hfl hg hrW5
   refine jx_load c1 hm rfl rfl rfl rfl ?_
   refine jx_load c1 hm rfl rfl rfl rfl ?_
   refine jc_ge c1 hm 20 rfl rfl (fun h7 => ?_) (fun h7 => ?_)
   ·
    exact jx_retv c2 hm rfl rfl ⟨rfl, hH2, hF2, (FLP.le hfl (by omega)), hg⟩
   refine jx_load c1 hm rfl rfl rfl rfl ?_
   refine jx_load c1 hm rfl rfl rfl rfl ?_
   refine jx_load c1 hm rfl rfl rfl rfl ?_
   obtain ⟨M8, e8, hH8, hF8, k8, n8, q8⟩ := mup hH2 hF2 (c := 37) (i := (b1).toNat) (v := a0) (A := (-2147483648)) (B := 2147483647) rfl ⟨by omega, by omega⟩ (jin_of 0 rfl ⟨by omega, by omega⟩)
   refine jm_iast c1 hm rfl sh_37 ⟨by omega, by omega⟩ e8 ?_
   refine jx_iinc c1 hm (v := (b1 + 1)) (L' := [some (.inr (.inr (.inl 37))), some (.inl a0), some (.inl (b1 + 1)), some (.inl 6)]) rfl rfl (by omega) (by omega) rfl ?_
   refine jx_goto c1 hm 5 rfl rfl ?_
   exact ihW5 (b1 + 1) (by omega) M8 hH8 hF8 (FLP.st hfl (by omega) k8 n8) (hg.eq q8) (by omega)
 exact W5 (6 + 1 : Int).toNat 0 (by omega) M0 hH0 hF0 FLP.start (LFr.rf _ _) (by omega)
def md_J7_fill_53178_38p : List (Nat × (Nat × Nat)) := [(38, (0, 5))]
theorem ct_J7_fill_53178_38p (X : Int) (hX : 0 ≤ X ∧ X ≤ 100000000) (M0 : JM) (hH0 : HI X M0) (a0 : Int) (ha0 : 0 ≤ a0 ∧ a0 ≤ 0) : JOk shp PJ 1 1 [.inr (.inr (.inl 38)), .inl a0] M0 (jRv (fun M' => HI X M' ∧ Fr md_J7_fill_53178_38p M0 M' ∧ (FLP 38 a0 6 M') ∧ (LFr ml_0 M0 M'))) := by
 refine ⟨jr_J7_fill_53178, pj_J7_fill_53178, fun F c1 c2 c3 => ?_⟩
 have hm := pj_J7_fill_53178
 change F 0 [some (.inr (.inr (.inl 38))), some (.inl a0), none, none] [] M0
 have hF0 : Fr md_J7_fill_53178_38p M0 M0 := Fr.rf _ _
 refine jy_ic c1 hm rfl (by decide) ?_
 refine jx_stor c1 hm (L' := [some (.inr (.inr (.inl 38))), some (.inl a0), some (.inl 0), none]) rfl rfl rfl rfl rfl ?_
 refine jx_load c1 hm rfl rfl rfl rfl ?_
 refine jx_alen c1 hm (v := 6) rfl sh_38 rfl rfl ?_
 refine jx_stor c1 hm (L' := [some (.inr (.inr (.inl 38))), some (.inl a0), some (.inl 0), some (.inl 6)]) rfl rfl rfl rfl rfl ?_
 have W5 : ∀ (n6 : Nat) (b1 : Int) (hb1 : 0 ≤ b1 ∧ b1 ≤ 6) (M2 : JM) (hH2 : HI (X) M2) (hF2 : Fr md_J7_fill_53178_38p M0 M2) (hfl : FLP 38 a0 b1 M2) (hg : LFr ml_0 M0 M2), (-b1 + 6) < (n6 : Int) → F 5 [some (.inr (.inr (.inl 38))), some (.inl a0), some (.inl b1), some (.inl 6)] [] M2 := by
  intro n6
  induction n6 with
  | zero => intros; omega
  | succ n6 ihW5 =>
   intro b1 hb1 M2 hH2 hF2 hfl hg hrW5
   refine jx_load c1 hm rfl rfl rfl rfl ?_
   refine jx_load c1 hm rfl rfl rfl rfl ?_
   refine jc_ge c1 hm 20 rfl rfl (fun h7 => ?_) (fun h7 => ?_)
   ·
    exact jx_retv c2 hm rfl rfl ⟨rfl, hH2, hF2, (FLP.le hfl (by omega)), hg⟩
   refine jx_load c1 hm rfl rfl rfl rfl ?_
   refine jx_load c1 hm rfl rfl rfl rfl ?_
   refine jx_load c1 hm rfl rfl rfl rfl ?_
   obtain ⟨M8, e8, hH8, hF8, k8, n8, q8⟩ := mup hH2 hF2 (c := 38) (i := (b1).toNat) (v := a0) (A := (-2147483648)) (B := 2147483647) rfl ⟨by omega, by omega⟩ (jin_of 0 rfl ⟨by omega, by omega⟩)
   refine jm_iast c1 hm rfl sh_38 ⟨by omega, by omega⟩ e8 ?_
   refine jx_iinc c1 hm (v := (b1 + 1)) (L' := [some (.inr (.inr (.inl 38))), some (.inl a0), some (.inl (b1 + 1)), some (.inl 6)]) rfl rfl (by omega) (by omega) rfl ?_
   refine jx_goto c1 hm 5 rfl rfl ?_
   exact ihW5 (b1 + 1) (by omega) M8 hH8 hF8 (FLP.st hfl (by omega) k8 n8) (hg.eq q8) (by omega)
 exact W5 (6 + 1 : Int).toNat 0 (by omega) M0 hH0 hF0 FLP.start (LFr.rf _ _) (by omega)
def md_J7_fill_53178_39p : List (Nat × (Nat × Nat)) := [(39, (0, 35))]
theorem ct_J7_fill_53178_39p (X : Int) (hX : 0 ≤ X ∧ X ≤ 100000000) (M0 : JM) (hH0 : HI X M0) (a0 : Int) (ha0 : 0 ≤ a0 ∧ a0 ≤ 0) : JOk shp PJ 1 1 [.inr (.inr (.inl 39)), .inl a0] M0 (jRv (fun M' => HI X M' ∧ Fr md_J7_fill_53178_39p M0 M' ∧ (FLP 39 a0 36 M') ∧ (LFr ml_0 M0 M'))) := by
 refine ⟨jr_J7_fill_53178, pj_J7_fill_53178, fun F c1 c2 c3 => ?_⟩
 have hm := pj_J7_fill_53178
 change F 0 [some (.inr (.inr (.inl 39))), some (.inl a0), none, none] [] M0
 have hF0 : Fr md_J7_fill_53178_39p M0 M0 := Fr.rf _ _
 refine jy_ic c1 hm rfl (by decide) ?_
 refine jx_stor c1 hm (L' := [some (.inr (.inr (.inl 39))), some (.inl a0), some (.inl 0), none]) rfl rfl rfl rfl rfl ?_
 refine jx_load c1 hm rfl rfl rfl rfl ?_
 refine jx_alen c1 hm (v := 36) rfl sh_39 rfl rfl ?_
 refine jx_stor c1 hm (L' := [some (.inr (.inr (.inl 39))), some (.inl a0), some (.inl 0), some (.inl 36)]) rfl rfl rfl rfl rfl ?_
 have W5 : ∀ (n6 : Nat) (b1 : Int) (hb1 : 0 ≤ b1 ∧ b1 ≤ 36) (M2 : JM) (hH2 : HI (X) M2) (hF2 : Fr md_J7_fill_53178_39p M0 M2) (hfl : FLP 39 a0 b1 M2) (hg : LFr ml_0 M0 M2), (-b1 + 36) < (n6 : Int) → F 5 [some (.inr (.inr (.inl 39))), some (.inl a0), some (.inl b1), some (.inl 36)] [] M2 := by
  intro n6
  induction n6 with
  | zero => intros; omega
  | succ n6 ihW5 =>
   intro b1 hb1 M2 hH2 hF2 hfl hg hrW5
   refine jx_load c1 hm rfl rfl rfl rfl ?_
   refine jx_load c1 hm rfl rfl rfl rfl ?_
   refine jc_ge c1 hm 20 rfl rfl (fun h7 => ?_) (fun h7 => ?_)
   ·
    exact jx_retv c2 hm rfl rfl ⟨rfl, hH2, hF2, (FLP.le hfl (by omega)), hg⟩
   refine jx_load c1 hm rfl rfl rfl rfl ?_
   refine jx_load c1 hm rfl rfl rfl rfl ?_
   refine jx_load c1 hm rfl rfl rfl rfl ?_
   obtain ⟨M8, e8, hH8, hF8, k8, n8, q8⟩ := mup hH2 hF2 (c := 39) (i := (b1).toNat) (v := a0) (A := (-2147483648)) (B := 2147483647) rfl ⟨by omega, by omega⟩ (jin_of 0 rfl ⟨by omega, by omega⟩)
   refine jm_iast c1 hm rfl sh_39 ⟨by omega, by omega⟩ e8 ?_
   refine jx_iinc c1 hm (v := (b1 + 1)) (L' := [some (.inr (.inr (.inl 39))), some (.inl a0), some (.inl (b1 + 1)), some (.inl 36)]) rfl rfl (by omega) (by omega) rfl ?_
   refine jx_goto c1 hm 5 rfl rfl ?_
   exact ihW5 (b1 + 1) (by omega) M8 hH8 hF8 (FLP.st hfl (by omega) k8 n8) (hg.eq q8) (by omega)
 exact W5 (36 + 1 : Int).toNat 0 (by omega) M0 hH0 hF0 FLP.start (LFr.rf _ _) (by omega)
def md_J7_fill_53178_40p : List (Nat × (Nat × Nat)) := [(40, (0, 35))]
theorem ct_J7_fill_53178_40p (X : Int) (hX : 0 ≤ X ∧ X ≤ 100000000) (M0 : JM) (hH0 : HI X M0) (a0 : Int) (ha0 : 0 ≤ a0 ∧ a0 ≤ 0) : JOk shp PJ 1 1 [.inr (.inr (.inl 40)), .inl a0] M0 (jRv (fun M' => HI X M' ∧ Fr md_J7_fill_53178_40p M0 M' ∧ (FLP 40 a0 36 M') ∧ (LFr ml_0 M0 M'))) := by
 refine ⟨jr_J7_fill_53178, pj_J7_fill_53178, fun F c1 c2 c3 => ?_⟩
 have hm := pj_J7_fill_53178
 change F 0 [some (.inr (.inr (.inl 40))), some (.inl a0), none, none] [] M0
 have hF0 : Fr md_J7_fill_53178_40p M0 M0 := Fr.rf _ _
 refine jy_ic c1 hm rfl (by decide) ?_
 refine jx_stor c1 hm (L' := [some (.inr (.inr (.inl 40))), some (.inl a0), some (.inl 0), none]) rfl rfl rfl rfl rfl ?_
 refine jx_load c1 hm rfl rfl rfl rfl ?_
 refine jx_alen c1 hm (v := 36) rfl sh_40 rfl rfl ?_
 refine jx_stor c1 hm (L' := [some (.inr (.inr (.inl 40))), some (.inl a0), some (.inl 0), some (.inl 36)]) rfl rfl rfl rfl rfl ?_
 have W5 : ∀ (n6 : Nat) (b1 : Int) (hb1 : 0 ≤ b1 ∧ b1 ≤ 36) (M2 : JM) (hH2 : HI (X) M2) (hF2 : Fr md_J7_fill_53178_40p M0 M2) (hfl : FLP 40 a0 b1 M2) (hg : LFr ml_0 M0 M2), (-b1 + 36) < (n6 : Int) → F 5 [some (.inr (.inr (.inl 40))), some (.inl a0), some (.inl b1), some (.inl 36)] [] M2 := by
  intro n6
  induction n6 with
  | zero => intros; omega
  | succ n6 ihW5 =>
   intro b1 hb1 M2 hH2 hF2 hfl hg hrW5
   refine jx_load c1 hm rfl rfl rfl rfl ?_
   refine jx_load c1 hm rfl rfl rfl rfl ?_
   refine jc_ge c1 hm 20 rfl rfl (fun h7 => ?_) (fun h7 => ?_)
   ·
    exact jx_retv c2 hm rfl rfl ⟨rfl, hH2, hF2, (FLP.le hfl (by omega)), hg⟩
   refine jx_load c1 hm rfl rfl rfl rfl ?_
   refine jx_load c1 hm rfl rfl rfl rfl ?_
   refine jx_load c1 hm rfl rfl rfl rfl ?_
   obtain ⟨M8, e8, hH8, hF8, k8, n8, q8⟩ := mup hH2 hF2 (c := 40) (i := (b1).toNat) (v := a0) (A := 0) (B := 1 * X) rfl ⟨by omega, by omega⟩ (jin_of 0 rfl ⟨by omega, by omega⟩)
   refine jm_iast c1 hm rfl sh_40 ⟨by omega, by omega⟩ e8 ?_
   refine jx_iinc c1 hm (v := (b1 + 1)) (L' := [some (.inr (.inr (.inl 40))), some (.inl a0), some (.inl (b1 + 1)), some (.inl 36)]) rfl rfl (by omega) (by omega) rfl ?_
   refine jx_goto c1 hm 5 rfl rfl ?_
   exact ihW5 (b1 + 1) (by omega) M8 hH8 hF8 (FLP.st hfl (by omega) k8 n8) (hg.eq q8) (by omega)
 exact W5 (36 + 1 : Int).toNat 0 (by omega) M0 hH0 hF0 FLP.start (LFr.rf _ _) (by omega)
def md_J7_fill_53178_41p : List (Nat × (Nat × Nat)) := [(41, (0, 35))]
theorem ct_J7_fill_53178_41p (X : Int) (hX : 0 ≤ X ∧ X ≤ 100000000) (M0 : JM) (hH0 : HI X M0) (a0 : Int) (ha0 : 0 ≤ a0 ∧ a0 ≤ 0) : JOk shp PJ 1 1 [.inr (.inr (.inl 41)), .inl a0] M0 (jRv (fun M' => HI X M' ∧ Fr md_J7_fill_53178_41p M0 M' ∧ (FLP 41 a0 36 M') ∧ (LFr ml_0 M0 M'))) := by
 refine ⟨jr_J7_fill_53178, pj_J7_fill_53178, fun F c1 c2 c3 => ?_⟩
 have hm := pj_J7_fill_53178
 change F 0 [some (.inr (.inr (.inl 41))), some (.inl a0), none, none] [] M0
 have hF0 : Fr md_J7_fill_53178_41p M0 M0 := Fr.rf _ _
 refine jy_ic c1 hm rfl (by decide) ?_
 refine jx_stor c1 hm (L' := [some (.inr (.inr (.inl 41))), some (.inl a0), some (.inl 0), none]) rfl rfl rfl rfl rfl ?_
 refine jx_load c1 hm rfl rfl rfl rfl ?_
 refine jx_alen c1 hm (v := 36) rfl sh_41 rfl rfl ?_
 refine jx_stor c1 hm (L' := [some (.inr (.inr (.inl 41))), some (.inl a0), some (.inl 0), some (.inl 36)]) rfl rfl rfl rfl rfl ?_
 have W5 : ∀ (n6 : Nat) (b1 : Int) (hb1 : 0 ≤ b1 ∧ b1 ≤ 36) (M2 : JM) (hH2 : HI (X) M2) (hF2 : Fr md_J7_fill_53178_41p M0 M2) (hfl : FLP 41 a0 b1 M2) (hg : LFr ml_0 M0 M2), (-b1 + 36) < (n6 : Int) → F 5 [some (.inr (.inr (.inl 41))), some (.inl a0), some (.inl b1), some (.inl 36)] [] M2 := by
  intro n6
  induction n6 with
  | zero => intros; omega
  | succ n6 ihW5 =>
   intro b1 hb1 M2 hH2 hF2 hfl hg hrW5
   refine jx_load c1 hm rfl rfl rfl rfl ?_
   refine jx_load c1 hm rfl rfl rfl rfl ?_
   refine jc_ge c1 hm 20 rfl rfl (fun h7 => ?_) (fun h7 => ?_)
   ·
    exact jx_retv c2 hm rfl rfl ⟨rfl, hH2, hF2, (FLP.le hfl (by omega)), hg⟩
   refine jx_load c1 hm rfl rfl rfl rfl ?_
   refine jx_load c1 hm rfl rfl rfl rfl ?_
   refine jx_load c1 hm rfl rfl rfl rfl ?_
   obtain ⟨M8, e8, hH8, hF8, k8, n8, q8⟩ := mup hH2 hF2 (c := 41) (i := (b1).toNat) (v := a0) (A := (-2147483648)) (B := 2147483647) rfl ⟨by omega, by omega⟩ (jin_of 0 rfl ⟨by omega, by omega⟩)
   refine jm_iast c1 hm rfl sh_41 ⟨by omega, by omega⟩ e8 ?_
   refine jx_iinc c1 hm (v := (b1 + 1)) (L' := [some (.inr (.inr (.inl 41))), some (.inl a0), some (.inl (b1 + 1)), some (.inl 36)]) rfl rfl (by omega) (by omega) rfl ?_
   refine jx_goto c1 hm 5 rfl rfl ?_
   exact ihW5 (b1 + 1) (by omega) M8 hH8 hF8 (FLP.st hfl (by omega) k8 n8) (hg.eq q8) (by omega)
 exact W5 (36 + 1 : Int).toNat 0 (by omega) M0 hH0 hF0 FLP.start (LFr.rf _ _) (by omega)
def md_X8_clear_34p : List (Nat × (Nat × Nat)) := [(34, (7, 7)), (35, (0, 5)), (36, (0, 5)), (37, (0, 5)), (38, (0, 5)), (39, (0, 35)), (40, (0, 35)), (41, (0, 35))]
theorem ct_X8_clear_34p (X : Int) (hX : 0 ≤ X ∧ X ≤ 100000000) (M0 : JM) (hH0 : HI X M0)  : JOk shp PJ 2 263 [.inr (.inr (.inl 34))] M0 (jRv (fun M' => HI X M' ∧ Fr md_X8_clear_34p M0 M' ∧ (FLP 39 0 36 M') ∧ (LFr ml_0 M0 M'))) := by
 refine ⟨jr_X8_clear, pj_X8_clear, fun F c1 c2 c3 => ?_⟩
 have hm := pj_X8_clear
 change F 0 [some (.inr (.inr (.inl 34)))] [] M0
 have hF0 : Fr md_X8_clear_34p M0 M0 := Fr.rf _ _
 refine jx_load c1 hm rfl rfl rfl rfl ?_
 refine jx_getr c1 hm rfl sh_34 rfl ?_
 refine jy_ic c1 hm rfl (by decide) ?_
 refine jt_v c3 hm rfl rfl pj_J7_fill_53178 rfl rfl rfl ((ct_J7_fill_53178_35p X (by omega) M0 hH0 0 ⟨by omega, by omega⟩).le (by decide)) (fun M3 ⟨hH3, hR3, p1, p2⟩ => ?_)
 have hF3 := hF0.tr hR3 (by decide +kernel)
 refine jx_load c1 hm rfl rfl rfl rfl ?_
 refine jx_getr c1 hm rfl sh_34 rfl ?_
 refine jy_ic c1 hm rfl (by decide) ?_
 refine jt_v c3 hm rfl rfl pj_J7_fill_53178 rfl rfl rfl ((ct_J7_fill_53178_36p X (by omega) M3 hH3 0 ⟨by omega, by omega⟩).le (by decide)) (fun M6 ⟨hH6, hR6, p4, p5⟩ => ?_)
 have hF6 := hF3.tr hR6 (by decide +kernel)
 refine jx_load c1 hm rfl rfl rfl rfl ?_
 refine jx_getr c1 hm rfl sh_34 rfl ?_
 refine jy_ic c1 hm rfl (by decide) ?_
 refine jt_v c3 hm rfl rfl pj_J7_fill_53178 rfl rfl rfl ((ct_J7_fill_53178_37p X (by omega) M6 hH6 0 ⟨by omega, by omega⟩).le (by decide)) (fun M9 ⟨hH9, hR9, p7, p8⟩ => ?_)
 have hF9 := hF6.tr hR9 (by decide +kernel)
 refine jx_load c1 hm rfl rfl rfl rfl ?_
 refine jx_getr c1 hm rfl sh_34 rfl ?_
 refine jy_ic c1 hm rfl (by decide) ?_
 refine jt_v c3 hm rfl rfl pj_J7_fill_53178 rfl rfl rfl ((ct_J7_fill_53178_38p X (by omega) M9 hH9 0 ⟨by omega, by omega⟩).le (by decide)) (fun M12 ⟨hH12, hR12, p10, p11⟩ => ?_)
 have hF12 := hF9.tr hR12 (by decide +kernel)
 refine jx_load c1 hm rfl rfl rfl rfl ?_
 refine jx_getr c1 hm rfl sh_34 rfl ?_
 refine jy_ic c1 hm rfl (by decide) ?_
 refine jt_v c3 hm rfl rfl pj_J7_fill_53178 rfl rfl rfl ((ct_J7_fill_53178_39p X (by omega) M12 hH12 0 ⟨by omega, by omega⟩).le (by decide)) (fun M15 ⟨hH15, hR15, p13, p14⟩ => ?_)
 have hF15 := hF12.tr hR15 (by decide +kernel)
 refine jx_load c1 hm rfl rfl rfl rfl ?_
 refine jx_getr c1 hm rfl sh_34 rfl ?_
 refine jy_ic c1 hm rfl (by decide) ?_
 refine jt_v c3 hm rfl rfl pj_J7_fill_53178 rfl rfl rfl ((ct_J7_fill_53178_40p X (by omega) M15 hH15 0 ⟨by omega, by omega⟩).le (by decide)) (fun M18 ⟨hH18, hR18, p16, p17⟩ => ?_)
 have hF18 := hF15.tr hR18 (by decide +kernel)
 refine jx_load c1 hm rfl rfl rfl rfl ?_
 refine jx_getr c1 hm rfl sh_34 rfl ?_
 refine jy_ic c1 hm rfl (by decide) ?_
 refine jt_v c3 hm rfl rfl pj_J7_fill_53178 rfl rfl rfl ((ct_J7_fill_53178_41p X (by omega) M18 hH18 0 ⟨by omega, by omega⟩).le (by decide)) (fun M21 ⟨hH21, hR21, p19, p20⟩ => ?_)
 have hF21 := hF18.tr hR21 (by decide +kernel)
 refine jx_load c1 hm rfl rfl rfl rfl ?_
 refine jy_ic c1 hm rfl (by decide) ?_
 obtain ⟨M22, e22, hH22, hF22, k22, n22, q22⟩ := mup hH21 hF21 (c := 34) (i := 7) (v := 0) (A := (-2147483648)) (B := 2147483647) rfl ⟨by omega, by omega⟩ (jin_of 0 rfl ⟨by omega, by omega⟩)
 refine jm_puti c1 hm rfl sh_34 rfl e22 ?_
 exact jx_retv c2 hm rfl rfl ⟨rfl, hH22, hF22, (FLP.cg p13 (fun j => (((n22 39 j (fun h => absurd h.1 (by decide))).trans (hR21 39 j rfl)).trans (hR18 39 j rfl)))), (((((((((LFr.rf _ _).tr p2 (by decide +kernel)).tr p5 (by decide +kernel)).tr p8 (by decide +kernel)).tr p11 (by decide +kernel)).tr p14 (by decide +kernel)).tr p17 (by decide +kernel)).tr p20 (by decide +kernel)).eq q22)⟩
def md_X7_clear_42p : List (Nat × (Nat × Nat)) := [(42, (2, 2)), (42, (3, 3))]
theorem ct_X7_clear_42p (X : Int) (hX : 0 ≤ X ∧ X ≤ 100000000) (M0 : JM) (hH0 : HI X M0)  : JOk shp PJ 1 251 [.inr (.inr (.inl 42))] M0 (jRv (fun M' => HI X M' ∧ Fr md_X7_clear_42p M0 M' ∧ (LFr ml_0 M0 M'))) := by
 refine ⟨jr_X7_clear, pj_X7_clear, fun F c1 c2 c3 => ?_⟩
 have hm := pj_X7_clear
 change F 0 [some (.inr (.inr (.inl 42)))] [] M0
 have hF0 : Fr md_X7_clear_42p M0 M0 := Fr.rf _ _
 refine jx_load c1 hm rfl rfl rfl rfl ?_
 refine jy_ic c1 hm rfl (by decide) ?_
 obtain ⟨M1, e1, hH1, hF1, k1, n1, q1⟩ := mup hH0 hF0 (c := 42) (i := 2) (v := 0) (A := 0) (B := 40) (bs_21_1 _ _ (by omega) (by omega)) ⟨by omega, by omega⟩ (jin_of 0 rfl ⟨by omega, by omega⟩)
 refine jm_puti c1 hm rfl sh_42 rfl e1 ?_
 refine jx_load c1 hm rfl rfl rfl rfl ?_
 refine jy_ic c1 hm rfl (by decide) ?_
 obtain ⟨M2, e2, hH2, hF2, k2, n2, q2⟩ := mup hH1 hF1 (c := 42) (i := 3) (v := 0) (A := 0) (B := 20) (bs_21_2 _ _ (by omega) (by omega)) ⟨by omega, by omega⟩ (jin_of 1 rfl ⟨by omega, by omega⟩)
 refine jm_puti c1 hm rfl sh_42 rfl e2 ?_
 exact jx_retv c2 hm rfl rfl ⟨rfl, hH2, hF2, (((LFr.rf _ _).eq q1).eq q2)⟩
def md_X2_clear_27p : List (Nat × (Nat × Nat)) := [(27, (6, 6)), (27, (7, 7)), (28, (0, 2)), (32, (0, 35)), (34, (7, 7)), (35, (0, 5)), (36, (0, 5)), (37, (0, 5)), (38, (0, 5)), (39, (0, 35)), (40, (0, 35)), (41, (0, 35)), (42, (2, 2)), (42, (3, 3))]
theorem ct_X2_clear_27p (X : Int) (hX : 0 ≤ X ∧ X ≤ 100000000) (M0 : JM) (hH0 : HI X M0)  : JOk shp PJ 3 213 [.inr (.inr (.inl 27))] M0 (jRv (fun M' => HI X M' ∧ Fr md_X2_clear_27p M0 M' ∧ (DR M' st0) ∧ (LFr ml_0 M0 M'))) := by
 refine ⟨jr_X2_clear, pj_X2_clear, fun F c1 c2 c3 => ?_⟩
 have hm := pj_X2_clear
 change F 0 [some (.inr (.inr (.inl 27)))] [] M0
 have hF0 : Fr md_X2_clear_27p M0 M0 := Fr.rf _ _
 refine jx_load c1 hm rfl rfl rfl rfl ?_
 refine jx_getr c1 hm rfl sh_27 rfl ?_
 refine jy_ic c1 hm rfl (by decide) ?_
 refine jt_v c3 hm rfl rfl pj_J7_fill_53178 rfl rfl rfl ((ct_J7_fill_53178_28p X (by omega) M0 hH0 0 ⟨by omega, by omega⟩).le (by decide)) (fun M3 ⟨hH3, hR3, p1, p2⟩ => ?_)
 have hF3 := hF0.tr hR3 (by decide +kernel)
 refine jx_load c1 hm rfl rfl rfl rfl ?_
 refine jx_getr c1 hm rfl sh_27 rfl ?_
 refine jy_ic c1 hm rfl (by decide) ?_
 refine jt_v c3 hm rfl rfl pj_J7_fill_53178 rfl rfl rfl ((ct_J7_fill_53178_32p X (by omega) M3 hH3 (-1) ⟨by omega, by omega⟩).le (by decide)) (fun M6 ⟨hH6, hR6, p4, p5⟩ => ?_)
 have hF6 := hF3.tr hR6 (by decide +kernel)
 refine jx_load c1 hm rfl rfl rfl rfl ?_
 refine jy_ic c1 hm rfl (by decide) ?_
 obtain ⟨M7, e7, hH7, hF7, k7, n7, q7⟩ := mup hH6 hF6 (c := 27) (i := 6) (v := (-1)) (A := (-1)) (B := 9) (bs_23_1 _ _ (by omega) (by omega)) ⟨by omega, by omega⟩ (jin_of 0 rfl ⟨by omega, by omega⟩)
 refine jm_puti c1 hm rfl sh_27 rfl e7 ?_
 skip
 refine jx_load c1 hm rfl rfl rfl rfl ?_
 refine jy_ic c1 hm rfl (by decide) ?_
 obtain ⟨M8, e8, hH8, hF8, k8, n8, q8⟩ := mup hH7 hF7 (c := 27) (i := 7) (v := (-1)) (A := (-1)) (B := 9) (bs_23_1 _ _ (by omega) (by omega)) ⟨by omega, by omega⟩ (jin_of 1 rfl ⟨by omega, by omega⟩)
 refine jm_puti c1 hm rfl sh_27 rfl e8 ?_
 skip
 refine jx_load c1 hm rfl rfl rfl rfl ?_
 refine jx_getr c1 hm rfl sh_27 rfl ?_
 refine jv_v c3 hm rfl pj_X8_clear rfl rfl ⟨_, _, _, rfl, sh_34⟩ rfl ((ct_X8_clear_34p X (by omega) M8 hH8 ).le (by decide)) (fun M11 ⟨hH11, hR11, p9, p10⟩ => ?_)
 have hF11 := hF8.tr hR11 (by decide +kernel)
 refine jx_load c1 hm rfl rfl rfl rfl ?_
 refine jx_getr c1 hm rfl sh_27 rfl ?_
 refine jv_v c3 hm rfl pj_X7_clear rfl rfl ⟨_, _, _, rfl, sh_42⟩ rfl ((ct_X7_clear_42p X (by omega) M11 hH11 ).le (by decide)) (fun M13 ⟨hH13, hR13, p12⟩ => ?_)
 have hF13 := hF11.tr hR13 (by decide +kernel)
 exact jx_retv c2 hm rfl rfl ⟨rfl, hH13, hF13, (DR.zero (FLP.cg p1 (fun j => (((((hR13 28 j rfl).trans (hR11 28 j rfl)).trans (n8 28 j (fun h => absurd h.1 (by decide)))).trans (n7 28 j (fun h => absurd h.1 (by decide)))).trans (hR6 28 j rfl)))) (FLP.cg p4 (fun j => ((((hR13 32 j rfl).trans (hR11 32 j rfl)).trans (n8 32 j (fun h => absurd h.1 (by decide)))).trans (n7 32 j (fun h => absurd h.1 (by decide)))))) (FLP.cg p9 (fun j => (hR13 39 j rfl))) ((((hR13 27 6 rfl).trans (hR11 27 6 rfl)).trans (n8 27 6 (by decide))).trans k7) (((hR13 27 7 rfl).trans (hR11 27 7 rfl)).trans k8)), (((((((LFr.rf _ _).tr p2 (by decide +kernel)).tr p5 (by decide +kernel)).eq q7).eq q8).tr p10 (by decide +kernel)).tr p12 (by decide +kernel))⟩
def ml_X10_readRun_1p : List (Nat × (Nat × Nat)) := [(1, (8, 8))]
def md_X10_readRun_1p : List (Nat × (Nat × Nat)) := [(1, (4, 4)), (1, (6, 6)), (1, (9, 9))]
theorem ct_X10_readRun_1p (X : Int) (hX : 0 ≤ X ∧ X ≤ 100000000) (M0 : JM) (hH0 : HI X M0)  : JOk shp PJ 1 18 [.inr (.inr (.inl 1))] M0 (jRv (fun M' => HI X M' ∧ Fr md_X10_readRun_1p M0 M' ∧ (RRP M0 M') ∧ (LFr ml_X10_readRun_1p M0 M'))) := by
 refine ⟨jr_X10_readRun, pj_X10_readRun, fun F c1 c2 c3 => ?_⟩
 have hm := pj_X10_readRun
 change F 0 [some (.inr (.inr (.inl 1))), none, none, none] [] M0
 have hF0 : Fr md_X10_readRun_1p M0 M0 := Fr.rf _ _
 obtain ⟨z1, k2, lz1, uz1⟩ := hH0.ld (c := 1) (i := 4) (A := 0) (B := 940) (bs_19_3 _ _ (by omega) (by omega))
 obtain ⟨z3, k4, lz3, uz3⟩ := hH0.ld (c := 1) (i := 2) (A := 0) (B := 940) (bs_19_1 _ _ (by omega) (by omega))
 refine jy_ic c1 hm rfl (by decide) ?_
 refine jx_stor c1 hm (L' := [some (.inr (.inr (.inl 1))), some (.inl 0), none, none]) rfl rfl rfl rfl rfl ?_
 refine jy_ic c1 hm rfl (by decide) ?_
 refine jx_stor c1 hm (L' := [some (.inr (.inr (.inl 1))), some (.inl 0), some (.inl 0), none]) rfl rfl rfl rfl rfl ?_
 refine jx_load c1 hm rfl rfl rfl rfl ?_
 refine jx_lcon c1 hm (v := 0) rfl (by decide) ?_
 obtain ⟨M5, e5, hH5, hF5, n5, k5, g5⟩ := mul hH0 hF0 (c := 1) (i := 8) (v := 0) (fun h => absurd h (by decide))
 refine jm_putl c1 hm rfl sh_1 rfl e5 ?_
 refine jx_load c1 hm rfl rfl rfl rfl ?_
 refine jy_ic c1 hm rfl (by decide) ?_
 obtain ⟨M6, e6, hH6, hF6, k6, n6, q6⟩ := mup hH5 hF5 (c := 1) (i := 9) (v := 0) (A := (-2147483648)) (B := 2147483647) (bs_19_6 _ _ (by omega) (by omega)) ⟨by omega, by omega⟩ (jin_of 2 rfl ⟨by omega, by omega⟩)
 refine jm_puti c1 hm rfl sh_1 rfl e6 ?_
 have W22 : ∀ (n23 : Nat) (b7 : Int) (hb7 : 0 ≤ b7 ∧ b7 ≤ 941) (b8 : Int) (hb8 : 0 ≤ b8 ∧ b8 ≤ 941) (o9 : Option JV) (ho9 : o9 = none ∨ (∃ z, o9 = some (.inl z)) ∨ ∃ r, o9 = some (.inr (.inr r))) (M10 : JM) (hH10 : HI (X) M10) (hF10 : Fr md_X10_readRun_1p M0 M10) (k12 : M10.1 1 2 = z3) (b14 : Int) (hb14 : 0 ≤ b14 ∧ b14 ≤ 940) (k15 : M10.1 1 4 = b14) (b16 : Int) (hb16 : (-2147483648) ≤ b16 ∧ b16 ≤ 2147483647) (k17 : M10.1 1 9 = b16) (h18 : b7 ≤ M10.1 1 4) (h19 : b8 ≤ M10.1 1 4) (hri : RRI M0 M10 b7 b8) (hg : LFr ml_X10_readRun_1p M0 M10), (-b14 + 940) < (n23 : Int) → F 14 [some (.inr (.inr (.inl 1))), some (.inl b7), some (.inl b8), o9] [] M10 := by
  intro n23
  induction n23 with
  | zero => intros; omega
  | succ n23 ihW22 =>
   intro b7 hb7 b8 hb8 o9 ho9 M10 hH10 hF10 k12 b14 hb14 k15 b16 hb16 k17 h18 h19 hri hg hrW22
   refine jx_load c1 hm rfl rfl rfl rfl ?_
   refine jx_geti c1 hm rfl sh_1 rfl k15 ?_
   refine jx_load c1 hm rfl rfl rfl rfl ?_
   refine jx_geti c1 hm rfl sh_1 rfl k12 ?_
   skip
   refine jc_ge c1 hm 111 rfl rfl (fun h24 => ?_) (fun h24 => ?_)
   ·
    refine jx_load c1 hm rfl rfl rfl rfl ?_
    refine jz_ne c1 hm 133 rfl rfl (fun h25 => ?_) (fun h25 => ?_)
    ·
     refine jx_load c1 hm rfl rfl rfl rfl ?_
     refine jx_load c1 hm rfl rfl rfl rfl ?_
     refine jz_ne c1 hm 147 rfl rfl (fun h26 => ?_) (fun h26 => ?_)
     ·
      refine jy_ic c1 hm rfl (by decide) ?_
      obtain ⟨M27, e27, hH27, hF27, k27, n27, q27⟩ := mup hH10 hF10 (c := 1) (i := 6) (v := 4) (A := 0) (B := 4) (bs_19_4 _ _ (by omega) (by omega)) ⟨by omega, by omega⟩ (jin_of 1 rfl ⟨by omega, by omega⟩)
      refine jm_puti c1 hm rfl sh_1 rfl e27 ?_
      exact jx_retv c2 hm rfl rfl ⟨rfl, hH27, hF27, (RRI.fin hri (by omega) (fun y => absurd y (by omega)) (n27 1 4 (by decide)) (n27 1 9 (by decide)) (q27 1 8) k27 (by omega)), (hg.eq q27)⟩
     refine jx_load c1 hm rfl rfl rfl rfl ?_
     refine jy_ic c1 hm rfl (by decide) ?_
     refine jc_gt c1 hm 147 rfl rfl (fun h28 => ?_) (fun h28 => ?_)
     ·
      refine jy_ic c1 hm rfl (by decide) ?_
      obtain ⟨M29, e29, hH29, hF29, k29, n29, q29⟩ := mup hH10 hF10 (c := 1) (i := 6) (v := 4) (A := 0) (B := 4) (bs_19_4 _ _ (by omega) (by omega)) ⟨by omega, by omega⟩ (jin_of 1 rfl ⟨by omega, by omega⟩)
      refine jm_puti c1 hm rfl sh_1 rfl e29 ?_
      exact jx_retv c2 hm rfl rfl ⟨rfl, hH29, hF29, (RRI.fin hri (by omega) (fun y => absurd y (by omega)) (n29 1 4 (by decide)) (n29 1 9 (by decide)) (q29 1 8) k29 (by omega)), (hg.eq q29)⟩
     refine jy_ic c1 hm rfl (by decide) ?_
     refine jx_goto c1 hm 148 rfl rfl ?_
     obtain ⟨M30, e30, hH30, hF30, k30, n30, q30⟩ := mup hH10 hF10 (c := 1) (i := 6) (v := 2) (A := 0) (B := 4) (bs_19_4 _ _ (by omega) (by omega)) ⟨by omega, by omega⟩ (jin_of 1 rfl ⟨by omega, by omega⟩)
     refine jm_puti c1 hm rfl sh_1 rfl e30 ?_
     exact jx_retv c2 hm rfl rfl ⟨rfl, hH30, hF30, (RRI.fin hri (by omega) (fun y => absurd y (by omega)) (n30 1 4 (by decide)) (n30 1 9 (by decide)) (q30 1 8) k30 (by omega)), (hg.eq q30)⟩
    refine jx_load c1 hm rfl rfl rfl rfl ?_
    refine jx_load c1 hm rfl rfl rfl rfl ?_
    refine jy_bp c1 hm rfl (by decide) ?_
    refine jc_gt c1 hm 126 rfl rfl (fun h31 => ?_) (fun h31 => ?_)
    ·
     refine jy_ic c1 hm rfl (by decide) ?_
     obtain ⟨M32, e32, hH32, hF32, k32, n32, q32⟩ := mup hH10 hF10 (c := 1) (i := 6) (v := 4) (A := 0) (B := 4) (bs_19_4 _ _ (by omega) (by omega)) ⟨by omega, by omega⟩ (jin_of 1 rfl ⟨by omega, by omega⟩)
     refine jm_puti c1 hm rfl sh_1 rfl e32 ?_
     refine jx_goto c1 hm 151 rfl rfl ?_
     exact jx_retv c2 hm rfl rfl ⟨rfl, hH32, hF32, (RRI.fin hri (by omega) (fun y => absurd y (by omega)) (n32 1 4 (by decide)) (n32 1 9 (by decide)) (q32 1 8) k32 (by omega)), (hg.eq q32)⟩
    refine jy_ic c1 hm rfl (by decide) ?_
    refine jx_goto c1 hm 127 rfl rfl ?_
    obtain ⟨M33, e33, hH33, hF33, k33, n33, q33⟩ := mup hH10 hF10 (c := 1) (i := 6) (v := 1) (A := 0) (B := 4) (bs_19_4 _ _ (by omega) (by omega)) ⟨by omega, by omega⟩ (jin_of 1 rfl ⟨by omega, by omega⟩)
    refine jm_puti c1 hm rfl sh_1 rfl e33 ?_
    refine jx_goto c1 hm 151 rfl rfl ?_
    exact jx_retv c2 hm rfl rfl ⟨rfl, hH33, hF33, (RRI.fin hri (by omega) (fun y => absurd y (by omega)) (n33 1 4 (by decide)) (n33 1 9 (by decide)) (q33 1 8) k33 (by omega)), (hg.eq q33)⟩
   refine jx_load c1 hm rfl rfl rfl rfl ?_
   refine jx_getr c1 hm rfl sh_1 rfl ?_
   refine jx_load c1 hm rfl rfl rfl rfl ?_
   refine jx_geti c1 hm rfl sh_1 rfl k15 ?_
   obtain ⟨z34, k35, lz34, uz34⟩ := hH10.ld (c := 2) (i := (b14).toNat) (A := (-128)) (B := 127) rfl
   refine jx_bald c1 hm rfl sh_2 rfl ⟨by omega, by omega⟩ k35 ?_
   refine jx_stor c1 hm (L' := [some (.inr (.inr (.inl 1))), some (.inl b7), some (.inl b8), some (.inl z34)]) rfl rfl rfl rfl rfl ?_
   refine jx_load c1 hm rfl rfl rfl rfl ?_
   refine jy_bp c1 hm rfl (by decide) ?_
   refine jc_lt c1 hm 67 rfl rfl (fun h36 => ?_) (fun h36 => ?_)
   ·
    refine jx_load c1 hm rfl rfl rfl rfl ?_
    refine jy_bp c1 hm rfl (by decide) ?_
    refine jc_lt c1 hm 111 rfl rfl (fun h37 => ?_) (fun h37 => ?_)
    ·
     refine jx_load c1 hm rfl rfl rfl rfl ?_
     refine jz_ne c1 hm 133 rfl rfl (fun h38 => ?_) (fun h38 => ?_)
     ·
      refine jx_load c1 hm rfl rfl rfl rfl ?_
      refine jx_load c1 hm rfl rfl rfl rfl ?_
      refine jz_ne c1 hm 147 rfl rfl (fun h39 => ?_) (fun h39 => ?_)
      ·
       refine jy_ic c1 hm rfl (by decide) ?_
       obtain ⟨M40, e40, hH40, hF40, k40, n40, q40⟩ := mup hH10 hF10 (c := 1) (i := 6) (v := 4) (A := 0) (B := 4) (bs_19_4 _ _ (by omega) (by omega)) ⟨by omega, by omega⟩ (jin_of 1 rfl ⟨by omega, by omega⟩)
       refine jm_puti c1 hm rfl sh_1 rfl e40 ?_
       exact jx_retv c2 hm rfl rfl ⟨rfl, hH40, hF40, (RRI.fin hri (by omega) (fun y => by rw [k15, uC_at (by omega), ← hF10 2 (b14).toNat rfl, k35]; exact chA_no (by omega)) (n40 1 4 (by decide)) (n40 1 9 (by decide)) (q40 1 8) k40 (by omega)), (hg.eq q40)⟩
      refine jx_load c1 hm rfl rfl rfl rfl ?_
      refine jy_ic c1 hm rfl (by decide) ?_
      refine jc_gt c1 hm 147 rfl rfl (fun h41 => ?_) (fun h41 => ?_)
      ·
       refine jy_ic c1 hm rfl (by decide) ?_
       obtain ⟨M42, e42, hH42, hF42, k42, n42, q42⟩ := mup hH10 hF10 (c := 1) (i := 6) (v := 4) (A := 0) (B := 4) (bs_19_4 _ _ (by omega) (by omega)) ⟨by omega, by omega⟩ (jin_of 1 rfl ⟨by omega, by omega⟩)
       refine jm_puti c1 hm rfl sh_1 rfl e42 ?_
       exact jx_retv c2 hm rfl rfl ⟨rfl, hH42, hF42, (RRI.fin hri (by omega) (fun y => by rw [k15, uC_at (by omega), ← hF10 2 (b14).toNat rfl, k35]; exact chA_no (by omega)) (n42 1 4 (by decide)) (n42 1 9 (by decide)) (q42 1 8) k42 (by omega)), (hg.eq q42)⟩
      refine jy_ic c1 hm rfl (by decide) ?_
      refine jx_goto c1 hm 148 rfl rfl ?_
      obtain ⟨M43, e43, hH43, hF43, k43, n43, q43⟩ := mup hH10 hF10 (c := 1) (i := 6) (v := 2) (A := 0) (B := 4) (bs_19_4 _ _ (by omega) (by omega)) ⟨by omega, by omega⟩ (jin_of 1 rfl ⟨by omega, by omega⟩)
      refine jm_puti c1 hm rfl sh_1 rfl e43 ?_
      exact jx_retv c2 hm rfl rfl ⟨rfl, hH43, hF43, (RRI.fin hri (by omega) (fun y => by rw [k15, uC_at (by omega), ← hF10 2 (b14).toNat rfl, k35]; exact chA_no (by omega)) (n43 1 4 (by decide)) (n43 1 9 (by decide)) (q43 1 8) k43 (by omega)), (hg.eq q43)⟩
     refine jx_load c1 hm rfl rfl rfl rfl ?_
     refine jx_load c1 hm rfl rfl rfl rfl ?_
     refine jy_bp c1 hm rfl (by decide) ?_
     refine jc_gt c1 hm 126 rfl rfl (fun h44 => ?_) (fun h44 => ?_)
     ·
      refine jy_ic c1 hm rfl (by decide) ?_
      obtain ⟨M45, e45, hH45, hF45, k45, n45, q45⟩ := mup hH10 hF10 (c := 1) (i := 6) (v := 4) (A := 0) (B := 4) (bs_19_4 _ _ (by omega) (by omega)) ⟨by omega, by omega⟩ (jin_of 1 rfl ⟨by omega, by omega⟩)
      refine jm_puti c1 hm rfl sh_1 rfl e45 ?_
      refine jx_goto c1 hm 151 rfl rfl ?_
      exact jx_retv c2 hm rfl rfl ⟨rfl, hH45, hF45, (RRI.fin hri (by omega) (fun y => by rw [k15, uC_at (by omega), ← hF10 2 (b14).toNat rfl, k35]; exact chA_no (by omega)) (n45 1 4 (by decide)) (n45 1 9 (by decide)) (q45 1 8) k45 (by omega)), (hg.eq q45)⟩
     refine jy_ic c1 hm rfl (by decide) ?_
     refine jx_goto c1 hm 127 rfl rfl ?_
     obtain ⟨M46, e46, hH46, hF46, k46, n46, q46⟩ := mup hH10 hF10 (c := 1) (i := 6) (v := 1) (A := 0) (B := 4) (bs_19_4 _ _ (by omega) (by omega)) ⟨by omega, by omega⟩ (jin_of 1 rfl ⟨by omega, by omega⟩)
     refine jm_puti c1 hm rfl sh_1 rfl e46 ?_
     refine jx_goto c1 hm 151 rfl rfl ?_
     exact jx_retv c2 hm rfl rfl ⟨rfl, hH46, hF46, (RRI.fin hri (by omega) (fun y => by rw [k15, uC_at (by omega), ← hF10 2 (b14).toNat rfl, k35]; exact chA_no (by omega)) (n46 1 4 (by decide)) (n46 1 9 (by decide)) (q46 1 8) k46 (by omega)), (hg.eq q46)⟩
    refine jx_load c1 hm rfl rfl rfl rfl ?_
    refine jy_bp c1 hm rfl (by decide) ?_
    refine jc_gt c1 hm 111 rfl rfl (fun h47 => ?_) (fun h47 => ?_)
    ·
     refine jx_load c1 hm rfl rfl rfl rfl ?_
     refine jz_ne c1 hm 133 rfl rfl (fun h48 => ?_) (fun h48 => ?_)
     ·
      refine jx_load c1 hm rfl rfl rfl rfl ?_
      refine jx_load c1 hm rfl rfl rfl rfl ?_
      refine jz_ne c1 hm 147 rfl rfl (fun h49 => ?_) (fun h49 => ?_)
      ·
       refine jy_ic c1 hm rfl (by decide) ?_
       obtain ⟨M50, e50, hH50, hF50, k50, n50, q50⟩ := mup hH10 hF10 (c := 1) (i := 6) (v := 4) (A := 0) (B := 4) (bs_19_4 _ _ (by omega) (by omega)) ⟨by omega, by omega⟩ (jin_of 1 rfl ⟨by omega, by omega⟩)
       refine jm_puti c1 hm rfl sh_1 rfl e50 ?_
       exact jx_retv c2 hm rfl rfl ⟨rfl, hH50, hF50, (RRI.fin hri (by omega) (fun y => by rw [k15, uC_at (by omega), ← hF10 2 (b14).toNat rfl, k35]; exact chA_no (by omega)) (n50 1 4 (by decide)) (n50 1 9 (by decide)) (q50 1 8) k50 (by omega)), (hg.eq q50)⟩
      refine jx_load c1 hm rfl rfl rfl rfl ?_
      refine jy_ic c1 hm rfl (by decide) ?_
      refine jc_gt c1 hm 147 rfl rfl (fun h51 => ?_) (fun h51 => ?_)
      ·
       refine jy_ic c1 hm rfl (by decide) ?_
       obtain ⟨M52, e52, hH52, hF52, k52, n52, q52⟩ := mup hH10 hF10 (c := 1) (i := 6) (v := 4) (A := 0) (B := 4) (bs_19_4 _ _ (by omega) (by omega)) ⟨by omega, by omega⟩ (jin_of 1 rfl ⟨by omega, by omega⟩)
       refine jm_puti c1 hm rfl sh_1 rfl e52 ?_
       exact jx_retv c2 hm rfl rfl ⟨rfl, hH52, hF52, (RRI.fin hri (by omega) (fun y => by rw [k15, uC_at (by omega), ← hF10 2 (b14).toNat rfl, k35]; exact chA_no (by omega)) (n52 1 4 (by decide)) (n52 1 9 (by decide)) (q52 1 8) k52 (by omega)), (hg.eq q52)⟩
      refine jy_ic c1 hm rfl (by decide) ?_
      refine jx_goto c1 hm 148 rfl rfl ?_
      obtain ⟨M53, e53, hH53, hF53, k53, n53, q53⟩ := mup hH10 hF10 (c := 1) (i := 6) (v := 2) (A := 0) (B := 4) (bs_19_4 _ _ (by omega) (by omega)) ⟨by omega, by omega⟩ (jin_of 1 rfl ⟨by omega, by omega⟩)
      refine jm_puti c1 hm rfl sh_1 rfl e53 ?_
      exact jx_retv c2 hm rfl rfl ⟨rfl, hH53, hF53, (RRI.fin hri (by omega) (fun y => by rw [k15, uC_at (by omega), ← hF10 2 (b14).toNat rfl, k35]; exact chA_no (by omega)) (n53 1 4 (by decide)) (n53 1 9 (by decide)) (q53 1 8) k53 (by omega)), (hg.eq q53)⟩
     refine jx_load c1 hm rfl rfl rfl rfl ?_
     refine jx_load c1 hm rfl rfl rfl rfl ?_
     refine jy_bp c1 hm rfl (by decide) ?_
     refine jc_gt c1 hm 126 rfl rfl (fun h54 => ?_) (fun h54 => ?_)
     ·
      refine jy_ic c1 hm rfl (by decide) ?_
      obtain ⟨M55, e55, hH55, hF55, k55, n55, q55⟩ := mup hH10 hF10 (c := 1) (i := 6) (v := 4) (A := 0) (B := 4) (bs_19_4 _ _ (by omega) (by omega)) ⟨by omega, by omega⟩ (jin_of 1 rfl ⟨by omega, by omega⟩)
      refine jm_puti c1 hm rfl sh_1 rfl e55 ?_
      refine jx_goto c1 hm 151 rfl rfl ?_
      exact jx_retv c2 hm rfl rfl ⟨rfl, hH55, hF55, (RRI.fin hri (by omega) (fun y => by rw [k15, uC_at (by omega), ← hF10 2 (b14).toNat rfl, k35]; exact chA_no (by omega)) (n55 1 4 (by decide)) (n55 1 9 (by decide)) (q55 1 8) k55 (by omega)), (hg.eq q55)⟩
     refine jy_ic c1 hm rfl (by decide) ?_
     refine jx_goto c1 hm 127 rfl rfl ?_
     obtain ⟨M56, e56, hH56, hF56, k56, n56, q56⟩ := mup hH10 hF10 (c := 1) (i := 6) (v := 1) (A := 0) (B := 4) (bs_19_4 _ _ (by omega) (by omega)) ⟨by omega, by omega⟩ (jin_of 1 rfl ⟨by omega, by omega⟩)
     refine jm_puti c1 hm rfl sh_1 rfl e56 ?_
     refine jx_goto c1 hm 151 rfl rfl ?_
     exact jx_retv c2 hm rfl rfl ⟨rfl, hH56, hF56, (RRI.fin hri (by omega) (fun y => by rw [k15, uC_at (by omega), ← hF10 2 (b14).toNat rfl, k35]; exact chA_no (by omega)) (n56 1 4 (by decide)) (n56 1 9 (by decide)) (q56 1 8) k56 (by omega)), (hg.eq q56)⟩
    refine jx_iinc c1 hm (v := (b8 + 1)) (L' := [some (.inr (.inr (.inl 1))), some (.inl b7), some (.inl (b8 + 1)), some (.inl z34)]) rfl rfl (by omega) (by omega) rfl ?_
    refine jx_load c1 hm rfl rfl rfl rfl ?_
    refine jx_load c1 hm rfl rfl rfl rfl ?_
    refine jx_geti c1 hm rfl sh_1 rfl k17 ?_
    refine jy_bp c1 hm rfl (by decide) ?_
    refine jx_iope c1 hm rfl rfl (fun z57 lz57 uz57 ez57 => ?_)
    refine jx_load c1 hm rfl rfl rfl rfl ?_
    refine jy_bp c1 hm rfl (by decide) ?_
    refine jy_sub c1 hm (z34 - 48) rfl (by omega) ?_
    refine jx_iope c1 hm rfl rfl (fun z58 lz58 uz58 ez58 => ?_)
    obtain ⟨M59, e59, hH59, hF59, k59, n59, q59⟩ := mup hH10 hF10 (c := 1) (i := 9) (v := z58) (A := (-2147483648)) (B := 2147483647) (bs_19_6 _ _ (by omega) (by omega)) ⟨by omega, by omega⟩ (jin_of 2 rfl ⟨by omega, by omega⟩)
    refine jm_puti c1 hm rfl sh_1 rfl e59 ?_
    refine jx_load c1 hm rfl rfl rfl rfl ?_
    refine jx_dup c1 hm rfl rfl ?_
    have k60 : M59.1 1 4 = b14 := (n59 1 4 (by decide)).trans k15
    refine jx_geti c1 hm rfl sh_1 rfl k60 ?_
    refine jy_ic c1 hm rfl (by decide) ?_
    refine jy_add c1 hm (b14 + 1) rfl (by omega) ?_
    obtain ⟨M61, e61, hH61, hF61, k61, n61, q61⟩ := mup hH59 hF59 (c := 1) (i := 4) (v := (b14 + 1)) (A := 0) (B := 940) (bs_19_3 _ _ (by omega) (by omega)) ⟨by omega, by omega⟩ (jin_of 0 rfl ⟨by omega, by omega⟩)
    refine jm_puti c1 hm rfl sh_1 rfl e61 ?_
    refine jx_goto c1 hm 14 rfl rfl ?_
    have k81 : M61.1 1 2 = z3 := (n61 1 2 (by decide)).trans ((n59 1 2 (by decide)).trans k12)
    have k82 : M61.1 1 9 = z58 := (n61 1 9 (by decide)).trans k59
    exact ihW22 b7 (by omega) (b8 + 1) (by omega) (some (.inl z34)) (Or.inr (Or.inl ⟨_, rfl⟩)) M61 hH61 hF61 k81 (b14 + 1) (by omega) k61 z58 (by omega) k82 (by omega) (by omega) (RRI.digt (b := z34) hri (by omega) (by omega) (by omega) (by rw [k15, ← hF10 2 (b14).toNat rfl]; exact k35) (by omega) (by omega) (fun z9 y1 y2 y3 => by rw [(n61 1 9 (by decide)).trans k59]; exact iv_dig ez57 ez58 (by omega) y2 y3 (by omega))) ((hg.eq q59).eq q61) (by omega)
   refine jx_load c1 hm rfl rfl rfl rfl ?_
   refine jy_bp c1 hm rfl (by decide) ?_
   refine jc_gt c1 hm 67 rfl rfl (fun h62 => ?_) (fun h62 => ?_)
   ·
    refine jx_load c1 hm rfl rfl rfl rfl ?_
    refine jy_bp c1 hm rfl (by decide) ?_
    refine jc_lt c1 hm 111 rfl rfl (fun h63 => ?_) (fun h63 => ?_)
    ·
     exfalso; omega
    refine jx_load c1 hm rfl rfl rfl rfl ?_
    refine jy_bp c1 hm rfl (by decide) ?_
    refine jc_gt c1 hm 111 rfl rfl (fun h64 => ?_) (fun h64 => ?_)
    ·
     refine jx_load c1 hm rfl rfl rfl rfl ?_
     refine jz_ne c1 hm 133 rfl rfl (fun h65 => ?_) (fun h65 => ?_)
     ·
      refine jx_load c1 hm rfl rfl rfl rfl ?_
      refine jx_load c1 hm rfl rfl rfl rfl ?_
      refine jz_ne c1 hm 147 rfl rfl (fun h66 => ?_) (fun h66 => ?_)
      ·
       refine jy_ic c1 hm rfl (by decide) ?_
       obtain ⟨M67, e67, hH67, hF67, k67, n67, q67⟩ := mup hH10 hF10 (c := 1) (i := 6) (v := 4) (A := 0) (B := 4) (bs_19_4 _ _ (by omega) (by omega)) ⟨by omega, by omega⟩ (jin_of 1 rfl ⟨by omega, by omega⟩)
       refine jm_puti c1 hm rfl sh_1 rfl e67 ?_
       exact jx_retv c2 hm rfl rfl ⟨rfl, hH67, hF67, (RRI.fin hri (by omega) (fun y => by rw [k15, uC_at (by omega), ← hF10 2 (b14).toNat rfl, k35]; exact chA_no (by omega)) (n67 1 4 (by decide)) (n67 1 9 (by decide)) (q67 1 8) k67 (by omega)), (hg.eq q67)⟩
      refine jx_load c1 hm rfl rfl rfl rfl ?_
      refine jy_ic c1 hm rfl (by decide) ?_
      refine jc_gt c1 hm 147 rfl rfl (fun h68 => ?_) (fun h68 => ?_)
      ·
       refine jy_ic c1 hm rfl (by decide) ?_
       obtain ⟨M69, e69, hH69, hF69, k69, n69, q69⟩ := mup hH10 hF10 (c := 1) (i := 6) (v := 4) (A := 0) (B := 4) (bs_19_4 _ _ (by omega) (by omega)) ⟨by omega, by omega⟩ (jin_of 1 rfl ⟨by omega, by omega⟩)
       refine jm_puti c1 hm rfl sh_1 rfl e69 ?_
       exact jx_retv c2 hm rfl rfl ⟨rfl, hH69, hF69, (RRI.fin hri (by omega) (fun y => by rw [k15, uC_at (by omega), ← hF10 2 (b14).toNat rfl, k35]; exact chA_no (by omega)) (n69 1 4 (by decide)) (n69 1 9 (by decide)) (q69 1 8) k69 (by omega)), (hg.eq q69)⟩
      refine jy_ic c1 hm rfl (by decide) ?_
      refine jx_goto c1 hm 148 rfl rfl ?_
      obtain ⟨M70, e70, hH70, hF70, k70, n70, q70⟩ := mup hH10 hF10 (c := 1) (i := 6) (v := 2) (A := 0) (B := 4) (bs_19_4 _ _ (by omega) (by omega)) ⟨by omega, by omega⟩ (jin_of 1 rfl ⟨by omega, by omega⟩)
      refine jm_puti c1 hm rfl sh_1 rfl e70 ?_
      exact jx_retv c2 hm rfl rfl ⟨rfl, hH70, hF70, (RRI.fin hri (by omega) (fun y => by rw [k15, uC_at (by omega), ← hF10 2 (b14).toNat rfl, k35]; exact chA_no (by omega)) (n70 1 4 (by decide)) (n70 1 9 (by decide)) (q70 1 8) k70 (by omega)), (hg.eq q70)⟩
     refine jx_load c1 hm rfl rfl rfl rfl ?_
     refine jx_load c1 hm rfl rfl rfl rfl ?_
     refine jy_bp c1 hm rfl (by decide) ?_
     refine jc_gt c1 hm 126 rfl rfl (fun h71 => ?_) (fun h71 => ?_)
     ·
      refine jy_ic c1 hm rfl (by decide) ?_
      obtain ⟨M72, e72, hH72, hF72, k72, n72, q72⟩ := mup hH10 hF10 (c := 1) (i := 6) (v := 4) (A := 0) (B := 4) (bs_19_4 _ _ (by omega) (by omega)) ⟨by omega, by omega⟩ (jin_of 1 rfl ⟨by omega, by omega⟩)
      refine jm_puti c1 hm rfl sh_1 rfl e72 ?_
      refine jx_goto c1 hm 151 rfl rfl ?_
      exact jx_retv c2 hm rfl rfl ⟨rfl, hH72, hF72, (RRI.fin hri (by omega) (fun y => by rw [k15, uC_at (by omega), ← hF10 2 (b14).toNat rfl, k35]; exact chA_no (by omega)) (n72 1 4 (by decide)) (n72 1 9 (by decide)) (q72 1 8) k72 (by omega)), (hg.eq q72)⟩
     refine jy_ic c1 hm rfl (by decide) ?_
     refine jx_goto c1 hm 127 rfl rfl ?_
     obtain ⟨M73, e73, hH73, hF73, k73, n73, q73⟩ := mup hH10 hF10 (c := 1) (i := 6) (v := 1) (A := 0) (B := 4) (bs_19_4 _ _ (by omega) (by omega)) ⟨by omega, by omega⟩ (jin_of 1 rfl ⟨by omega, by omega⟩)
     refine jm_puti c1 hm rfl sh_1 rfl e73 ?_
     refine jx_goto c1 hm 151 rfl rfl ?_
     exact jx_retv c2 hm rfl rfl ⟨rfl, hH73, hF73, (RRI.fin hri (by omega) (fun y => by rw [k15, uC_at (by omega), ← hF10 2 (b14).toNat rfl, k35]; exact chA_no (by omega)) (n73 1 4 (by decide)) (n73 1 9 (by decide)) (q73 1 8) k73 (by omega)), (hg.eq q73)⟩
    exfalso; omega
   refine jx_iinc c1 hm (v := (b7 + 1)) (L' := [some (.inr (.inr (.inl 1))), some (.inl (b7 + 1)), some (.inl b8), some (.inl z34)]) rfl rfl (by omega) (by omega) rfl ?_
   refine jx_load c1 hm rfl rfl rfl rfl ?_
   refine jx_load c1 hm rfl rfl rfl rfl ?_
   obtain ⟨w74, kw74⟩ : ∃ w, M10.2 1 8 = w := ⟨_, rfl⟩
   refine jx_getl c1 hm rfl sh_1 rfl kw74 ?_
   refine jy_bp c1 hm rfl (by decide) ?_
   skip
   refine jx_lsh c1 hm rfl rfl (fun w75 ew75 => ?_)
   refine jx_load c1 hm rfl rfl rfl rfl ?_
   refine jx_i2l c1 hm rfl (fun w76 ew76 => ?_)
   skip
   refine jx_lop c1 hm rfl rfl (fun w77 ew77 => ?_)
   skip
   obtain ⟨M78, e78, hH78, hF78, n78, k78, g78⟩ := mul hH10 hF10 (c := 1) (i := 8) (v := w77) (fun h => absurd h (by decide))
   refine jm_putl c1 hm rfl sh_1 rfl e78 ?_
   refine jx_goto c1 hm 98 rfl rfl ?_
   refine jx_load c1 hm rfl rfl rfl rfl ?_
   refine jx_dup c1 hm rfl rfl ?_
   have k79 : M78.1 1 4 = b14 := (n78 1 4).trans k15
   refine jx_geti c1 hm rfl sh_1 rfl k79 ?_
   refine jy_ic c1 hm rfl (by decide) ?_
   refine jy_add c1 hm (b14 + 1) rfl (by omega) ?_
   obtain ⟨M80, e80, hH80, hF80, k80, n80, q80⟩ := mup hH78 hF78 (c := 1) (i := 4) (v := (b14 + 1)) (A := 0) (B := 940) (bs_19_3 _ _ (by omega) (by omega)) ⟨by omega, by omega⟩ (jin_of 0 rfl ⟨by omega, by omega⟩)
   refine jm_puti c1 hm rfl sh_1 rfl e80 ?_
   refine jx_goto c1 hm 14 rfl rfl ?_
   have k83 : M80.1 1 2 = z3 := (n80 1 2 (by decide)).trans ((n78 1 2).trans k12)
   have k84 : M80.1 1 9 = b16 := (n80 1 9 (by decide)).trans ((n78 1 9).trans k17)
   exact ihW22 (b7 + 1) (by omega) b8 (by omega) (some (.inl z34)) (Or.inr (Or.inl ⟨_, rfl⟩)) M80 hH80 hF80 k83 (b14 + 1) (by omega) k80 b16 (by omega) k84 (by omega) (by omega) (RRI.lett (b := z34) hri (by omega) (by omega) (by omega) (by rw [k15, ← hF10 2 (b14).toNat rfl]; exact k35) (by omega) (by omega) (fun z9 y1 y2 y3 => by rw [q80 1 8, k78]; exact lw_let ew75 ew76 ew77 ((congrArg Int64.toInt kw74).symm.trans y1) y2 y3 (by omega))) ((hg.st g78 rfl).eq q80) (by omega)
 have k11 : M6.1 1 2 = z3 := (n6 1 2 (by decide)).trans ((n5 1 2).trans k4)
 have k13 : M6.1 1 4 = z1 := (n6 1 4 (by decide)).trans ((n5 1 4).trans k2)
 exact W22 ((-z1 + 940) + 1 : Int).toNat 0 (by omega) 0 (by omega) none (Or.inl rfl) M6 hH6 hF6 k11 z1 (by omega) k13 0 (by omega) k6 (by omega) (by omega) (RRI.start ((n6 1 4 (by decide)).trans (n5 1 4)) k6 (by rw [q6 1 8, k5]; rfl)) (((LFr.rf _ _).st g5 rfl).eq q6) (by omega)
theorem ct_X10_keyOf_1p (X : Int) (hX : 0 ≤ X ∧ X ≤ 100000000) (M0 : JM) (hH0 : HI X M0) (a0 : Int64) : JOk shp PJ 1 16 [.inr (.inr (.inl 1)), .inr (.inl a0)] M0 (jRi (fun v M' => M0 = M' ∧ (-1) ≤ v ∧ v ≤ 23 ∧ (∀ r : Int, wok 7 r → a0.toInt = cw r → v = keyS r))) := by
 refine ⟨jr_X10_keyOf, pj_X10_keyOf, fun F c1 c2 c3 => ?_⟩
 have hm := pj_X10_keyOf
 change F 0 [some (.inr (.inr (.inl 1))), some (.inr (.inl a0)), none, none] [] M0
 refine jy_ic c1 hm rfl (by decide) ?_
 refine jx_stor c1 hm (L' := [some (.inr (.inr (.inl 1))), some (.inr (.inl a0)), none, some (.inl 0)]) rfl rfl rfl rfl rfl ?_
 have W3 : ∀ (n4 : Nat) (b1 : Int) (hb1 : 0 ≤ b1 ∧ b1 ≤ 24) (hky : KYI a0 b1), (-b1 + 24) < (n4 : Int) → F 2 [some (.inr (.inr (.inl 1))), some (.inr (.inl a0)), none, some (.inl b1)] [] M0 := by
  intro n4
  induction n4 with
  | zero => intros; omega
  | succ n4 ihW3 =>
   intro b1 hb1 hky hrW3
   refine jx_load c1 hm rfl rfl rfl rfl ?_
   refine jy_bp c1 hm rfl (by decide) ?_
   refine jc_ge c1 hm 27 rfl rfl (fun h5 => ?_) (fun h5 => ?_)
   ·
    refine jy_ic c1 hm rfl (by decide) ?_
    exact jx_reti c2 hm rfl rfl ⟨_, rfl, rfl, by omega, by omega, (KYI.none hky (by omega))⟩
   refine jx_load c1 hm rfl rfl rfl rfl ?_
   refine jx_getr c1 hm rfl sh_1 rfl ?_
   refine jx_load c1 hm rfl rfl rfl rfl ?_
   obtain ⟨w6, kw6⟩ : ∃ w, M0.2 3 (b1).toNat = w := ⟨_, rfl⟩
   refine jx_lald c1 hm rfl sh_3 ⟨by omega, by omega⟩ kw6 ?_
   skip
   refine jx_load c1 hm rfl rfl rfl rfl ?_
   refine jx_lcmp c1 hm rfl (fun z7 lz7 uz7 ez7 fz7 => ?_)
   skip
   refine jz_ne c1 hm 21 rfl rfl (fun h8 => ?_) (fun h8 => ?_)
   ·
    refine jx_iinc c1 hm (v := (b1 + 1)) (L' := [some (.inr (.inr (.inl 1))), some (.inr (.inl a0)), none, some (.inl (b1 + 1))]) rfl rfl (by omega) (by omega) rfl ?_
    refine jx_goto c1 hm 2 rfl rfl ?_
    exact ihW3 (b1 + 1) (by omega) (KYI.st hky ⟨by omega, by omega⟩ (fun e9 => absurd (ez7.mpr (kw6.symm.trans ((hH0.2.2 (b1).toNat (by omega)).trans e9))) (by omega))) (by omega)
   refine jx_load c1 hm rfl rfl rfl rfl ?_
   exact jx_reti c2 hm rfl rfl ⟨_, rfl, rfl, by omega, by omega, (KYI.hit hky ⟨by omega, by omega⟩ ((hH0.2.2 (b1).toNat (by omega)).symm.trans (kw6.trans (ez7.mp (by omega)))))⟩
 exact W3 (24 + 1 : Int).toNat 0 (by omega) KYI.start (by omega)
def ml_X10_readSign_1p : List (Nat × (Nat × Nat)) := []
def md_X10_readSign_1p : List (Nat × (Nat × Nat)) := [(1, (4, 4)), (1, (6, 6)), (1, (9, 9))]
theorem ct_X10_readSign_1p (X : Int) (hX : 0 ≤ X ∧ X ≤ 100000000) (M0 : JM) (hH0 : HI X M0) (hp0 : M0.1 1 4 < M0.1 1 2) : JOk shp PJ 1 19 [.inr (.inr (.inl 1))] M0 (jRv (fun M' => HI X M' ∧ Fr md_X10_readSign_1p M0 M' ∧ (RSP M0 M') ∧ (LFr ml_X10_readSign_1p M0 M'))) := by
 refine ⟨jr_X10_readSign, pj_X10_readSign, fun F c1 c2 c3 => ?_⟩
 have hm := pj_X10_readSign
 change F 0 [some (.inr (.inr (.inl 1))), none] [] M0
 have hF0 : Fr md_X10_readSign_1p M0 M0 := Fr.rf _ _
 obtain ⟨z1, k2, lz1, uz1⟩ := hH0.ld (c := 1) (i := 4) (A := 0) (B := 940) (bs_19_3 _ _ (by omega) (by omega))
 obtain ⟨z3, k4, lz3, uz3⟩ := hH0.ld (c := 1) (i := 2) (A := 0) (B := 940) (bs_19_1 _ _ (by omega) (by omega))
 refine jx_load c1 hm rfl rfl rfl rfl ?_
 refine jx_load c1 hm rfl rfl rfl rfl ?_
 refine jx_geti c1 hm rfl sh_1 rfl k2 ?_
 skip
 refine jx_load c1 hm rfl rfl rfl rfl ?_
 refine jx_geti c1 hm rfl sh_1 rfl k4 ?_
 refine jc_ge c1 hm 24 rfl rfl (fun h5 => ?_) (fun h5 => ?_)
 ·
  refine jy_ic c1 hm rfl (by decide) ?_
  obtain ⟨M6, e6, hH6, hF6, k6, n6, q6⟩ := mup hH0 hF0 (c := 1) (i := 9) (v := 0) (A := (-2147483648)) (B := 2147483647) (bs_19_6 _ _ (by omega) (by omega)) ⟨by omega, by omega⟩ (jin_of 2 rfl ⟨by omega, by omega⟩)
  refine jm_puti c1 hm rfl sh_1 rfl e6 ?_
  refine jx_load c1 hm rfl rfl rfl rfl ?_
  refine jx_dup c1 hm rfl rfl ?_
  have k7 : M6.1 1 4 = z1 := (n6 1 4 (by decide)).trans k2
  refine jx_geti c1 hm rfl sh_1 rfl k7 ?_
  refine jy_ic c1 hm rfl (by decide) ?_
  refine jy_add c1 hm (z1 + 1) rfl (by omega) ?_
  obtain ⟨M8, e8, hH8, hF8, k8, n8, q8⟩ := mup hH6 hF6 (c := 1) (i := 4) (v := (z1 + 1)) (A := 0) (B := 940) (bs_19_3 _ _ (by omega) (by omega)) ⟨by omega, by omega⟩ (jin_of 0 rfl ⟨by omega, by omega⟩)
  refine jm_puti c1 hm rfl sh_1 rfl e8 ?_
  refine jx_load c1 hm rfl rfl rfl rfl ?_
  have k9 : M8.1 1 9 = 0 := (n8 1 9 (by decide)).trans k6
  refine jx_geti c1 hm rfl sh_1 rfl k9 ?_
  refine jy_bp c1 hm rfl (by decide) ?_
  refine jc_eq c1 hm 92 rfl rfl (fun h10 => ?_) (fun h10 => ?_)
  ·
   exfalso; omega
  refine jx_load c1 hm rfl rfl rfl rfl ?_
  refine jx_geti c1 hm rfl sh_1 rfl k9 ?_
  refine jy_bp c1 hm rfl (by decide) ?_
  refine jc_eq c1 hm 92 rfl rfl (fun h11 => ?_) (fun h11 => ?_)
  ·
   exfalso; omega
  refine jx_load c1 hm rfl rfl rfl rfl ?_
  refine jx_geti c1 hm rfl sh_1 rfl k9 ?_
  refine jy_bp c1 hm rfl (by decide) ?_
  refine jc_eq c1 hm 92 rfl rfl (fun h12 => ?_) (fun h12 => ?_)
  ·
   exfalso; omega
  refine jx_load c1 hm rfl rfl rfl rfl ?_
  refine jx_geti c1 hm rfl sh_1 rfl k9 ?_
  refine jy_bp c1 hm rfl (by decide) ?_
  refine jc_eq c1 hm 92 rfl rfl (fun h13 => ?_) (fun h13 => ?_)
  ·
   exfalso; omega
  refine jx_load c1 hm rfl rfl rfl rfl ?_
  refine jx_geti c1 hm rfl sh_1 rfl k9 ?_
  refine jy_bp c1 hm rfl (by decide) ?_
  refine jc_eq c1 hm 92 rfl rfl (fun h14 => ?_) (fun h14 => ?_)
  ·
   exfalso; omega
  refine jx_load c1 hm rfl rfl rfl rfl ?_
  refine jx_geti c1 hm rfl sh_1 rfl k9 ?_
  refine jy_bp c1 hm rfl (by decide) ?_
  refine jc_ne c1 hm 96 rfl rfl (fun h15 => ?_) (fun h15 => ?_)
  ·
   refine jy_ic c1 hm rfl (by decide) ?_
   refine jx_stor c1 hm (L' := [some (.inr (.inr (.inl 1))), some (.inl 0)]) rfl rfl rfl rfl rfl ?_
   refine jx_load c1 hm rfl rfl rfl rfl ?_
   refine jx_load c1 hm rfl rfl rfl rfl ?_
   refine jz_eq c1 hm 107 rfl rfl (fun h16 => ?_) (fun h16 => ?_)
   ·
    refine jy_ic c1 hm rfl (by decide) ?_
    obtain ⟨M17, e17, hH17, hF17, k17, n17, q17⟩ := mup hH8 hF8 (c := 1) (i := 6) (v := 4) (A := 0) (B := 4) (bs_19_4 _ _ (by omega) (by omega)) ⟨by omega, by omega⟩ (jin_of 1 rfl ⟨by omega, by omega⟩)
    refine jm_puti c1 hm rfl sh_1 rfl e17 ?_
    exact jx_retv c2 hm rfl rfl ⟨rfl, hH17, hF17, (by exfalso; omega), ((((LFr.rf _ _).eq q6).eq q8).eq q17)⟩
   exfalso; omega
  exfalso; omega
 refine jx_load c1 hm rfl rfl rfl rfl ?_
 refine jx_getr c1 hm rfl sh_1 rfl ?_
 refine jx_load c1 hm rfl rfl rfl rfl ?_
 refine jx_geti c1 hm rfl sh_1 rfl k2 ?_
 obtain ⟨z18, k19, lz18, uz18⟩ := hH0.ld (c := 2) (i := (z1).toNat) (A := (-128)) (B := 127) rfl
 refine jx_bald c1 hm rfl sh_2 rfl ⟨by omega, by omega⟩ k19 ?_
 refine jx_goto c1 hm 25 rfl rfl ?_
 obtain ⟨M20, e20, hH20, hF20, k20, n20, q20⟩ := mup hH0 hF0 (c := 1) (i := 9) (v := z18) (A := (-2147483648)) (B := 2147483647) (bs_19_6 _ _ (by omega) (by omega)) ⟨by omega, by omega⟩ (jin_of 2 rfl ⟨by omega, by omega⟩)
 refine jm_puti c1 hm rfl sh_1 rfl e20 ?_
 refine jx_load c1 hm rfl rfl rfl rfl ?_
 refine jx_dup c1 hm rfl rfl ?_
 have k21 : M20.1 1 4 = z1 := (n20 1 4 (by decide)).trans k2
 refine jx_geti c1 hm rfl sh_1 rfl k21 ?_
 refine jy_ic c1 hm rfl (by decide) ?_
 refine jy_add c1 hm (z1 + 1) rfl (by omega) ?_
 obtain ⟨M22, e22, hH22, hF22, k22, n22, q22⟩ := mup hH20 hF20 (c := 1) (i := 4) (v := (z1 + 1)) (A := 0) (B := 940) (bs_19_3 _ _ (by omega) (by omega)) ⟨by omega, by omega⟩ (jin_of 0 rfl ⟨by omega, by omega⟩)
 refine jm_puti c1 hm rfl sh_1 rfl e22 ?_
 refine jx_load c1 hm rfl rfl rfl rfl ?_
 have k23 : M22.1 1 9 = z18 := (n22 1 9 (by decide)).trans k20
 refine jx_geti c1 hm rfl sh_1 rfl k23 ?_
 refine jy_bp c1 hm rfl (by decide) ?_
 refine jc_eq c1 hm 92 rfl rfl (fun h24 => ?_) (fun h24 => ?_)
 ·
  refine jy_ic c1 hm rfl (by decide) ?_
  refine jx_goto c1 hm 97 rfl rfl ?_
  refine jx_stor c1 hm (L' := [some (.inr (.inr (.inl 1))), some (.inl 1)]) rfl rfl rfl rfl rfl ?_
  refine jx_load c1 hm rfl rfl rfl rfl ?_
  refine jx_load c1 hm rfl rfl rfl rfl ?_
  refine jz_eq c1 hm 107 rfl rfl (fun h25 => ?_) (fun h25 => ?_)
  ·
   exfalso; omega
  refine jy_ic c1 hm rfl (by decide) ?_
  refine jx_goto c1 hm 108 rfl rfl ?_
  obtain ⟨M26, e26, hH26, hF26, k26, n26, q26⟩ := mup hH22 hF22 (c := 1) (i := 6) (v := 3) (A := 0) (B := 4) (bs_19_4 _ _ (by omega) (by omega)) ⟨by omega, by omega⟩ (jin_of 1 rfl ⟨by omega, by omega⟩)
  refine jm_puti c1 hm rfl sh_1 rfl e26 ?_
  exact jx_retv c2 hm rfl rfl ⟨rfl, hH26, hF26, (RSP.mk k2 k19 ((n26 1 4 (by decide)).trans k22) (((n26 1 9 (by decide)).trans (n22 1 9 (by decide))).trans k20) k26 (by omega)), ((((LFr.rf _ _).eq q20).eq q22).eq q26)⟩
 refine jx_load c1 hm rfl rfl rfl rfl ?_
 refine jx_geti c1 hm rfl sh_1 rfl k23 ?_
 refine jy_bp c1 hm rfl (by decide) ?_
 refine jc_eq c1 hm 92 rfl rfl (fun h27 => ?_) (fun h27 => ?_)
 ·
  refine jy_ic c1 hm rfl (by decide) ?_
  refine jx_goto c1 hm 97 rfl rfl ?_
  refine jx_stor c1 hm (L' := [some (.inr (.inr (.inl 1))), some (.inl 1)]) rfl rfl rfl rfl rfl ?_
  refine jx_load c1 hm rfl rfl rfl rfl ?_
  refine jx_load c1 hm rfl rfl rfl rfl ?_
  refine jz_eq c1 hm 107 rfl rfl (fun h28 => ?_) (fun h28 => ?_)
  ·
   exfalso; omega
  refine jy_ic c1 hm rfl (by decide) ?_
  refine jx_goto c1 hm 108 rfl rfl ?_
  obtain ⟨M29, e29, hH29, hF29, k29, n29, q29⟩ := mup hH22 hF22 (c := 1) (i := 6) (v := 3) (A := 0) (B := 4) (bs_19_4 _ _ (by omega) (by omega)) ⟨by omega, by omega⟩ (jin_of 1 rfl ⟨by omega, by omega⟩)
  refine jm_puti c1 hm rfl sh_1 rfl e29 ?_
  exact jx_retv c2 hm rfl rfl ⟨rfl, hH29, hF29, (RSP.mk k2 k19 ((n29 1 4 (by decide)).trans k22) (((n29 1 9 (by decide)).trans (n22 1 9 (by decide))).trans k20) k29 (by omega)), ((((LFr.rf _ _).eq q20).eq q22).eq q29)⟩
 refine jx_load c1 hm rfl rfl rfl rfl ?_
 refine jx_geti c1 hm rfl sh_1 rfl k23 ?_
 refine jy_bp c1 hm rfl (by decide) ?_
 refine jc_eq c1 hm 92 rfl rfl (fun h30 => ?_) (fun h30 => ?_)
 ·
  refine jy_ic c1 hm rfl (by decide) ?_
  refine jx_goto c1 hm 97 rfl rfl ?_
  refine jx_stor c1 hm (L' := [some (.inr (.inr (.inl 1))), some (.inl 1)]) rfl rfl rfl rfl rfl ?_
  refine jx_load c1 hm rfl rfl rfl rfl ?_
  refine jx_load c1 hm rfl rfl rfl rfl ?_
  refine jz_eq c1 hm 107 rfl rfl (fun h31 => ?_) (fun h31 => ?_)
  ·
   exfalso; omega
  refine jy_ic c1 hm rfl (by decide) ?_
  refine jx_goto c1 hm 108 rfl rfl ?_
  obtain ⟨M32, e32, hH32, hF32, k32, n32, q32⟩ := mup hH22 hF22 (c := 1) (i := 6) (v := 3) (A := 0) (B := 4) (bs_19_4 _ _ (by omega) (by omega)) ⟨by omega, by omega⟩ (jin_of 1 rfl ⟨by omega, by omega⟩)
  refine jm_puti c1 hm rfl sh_1 rfl e32 ?_
  exact jx_retv c2 hm rfl rfl ⟨rfl, hH32, hF32, (RSP.mk k2 k19 ((n32 1 4 (by decide)).trans k22) (((n32 1 9 (by decide)).trans (n22 1 9 (by decide))).trans k20) k32 (by omega)), ((((LFr.rf _ _).eq q20).eq q22).eq q32)⟩
 refine jx_load c1 hm rfl rfl rfl rfl ?_
 refine jx_geti c1 hm rfl sh_1 rfl k23 ?_
 refine jy_bp c1 hm rfl (by decide) ?_
 refine jc_eq c1 hm 92 rfl rfl (fun h33 => ?_) (fun h33 => ?_)
 ·
  refine jy_ic c1 hm rfl (by decide) ?_
  refine jx_goto c1 hm 97 rfl rfl ?_
  refine jx_stor c1 hm (L' := [some (.inr (.inr (.inl 1))), some (.inl 1)]) rfl rfl rfl rfl rfl ?_
  refine jx_load c1 hm rfl rfl rfl rfl ?_
  refine jx_load c1 hm rfl rfl rfl rfl ?_
  refine jz_eq c1 hm 107 rfl rfl (fun h34 => ?_) (fun h34 => ?_)
  ·
   exfalso; omega
  refine jy_ic c1 hm rfl (by decide) ?_
  refine jx_goto c1 hm 108 rfl rfl ?_
  obtain ⟨M35, e35, hH35, hF35, k35, n35, q35⟩ := mup hH22 hF22 (c := 1) (i := 6) (v := 3) (A := 0) (B := 4) (bs_19_4 _ _ (by omega) (by omega)) ⟨by omega, by omega⟩ (jin_of 1 rfl ⟨by omega, by omega⟩)
  refine jm_puti c1 hm rfl sh_1 rfl e35 ?_
  exact jx_retv c2 hm rfl rfl ⟨rfl, hH35, hF35, (RSP.mk k2 k19 ((n35 1 4 (by decide)).trans k22) (((n35 1 9 (by decide)).trans (n22 1 9 (by decide))).trans k20) k35 (by omega)), ((((LFr.rf _ _).eq q20).eq q22).eq q35)⟩
 refine jx_load c1 hm rfl rfl rfl rfl ?_
 refine jx_geti c1 hm rfl sh_1 rfl k23 ?_
 refine jy_bp c1 hm rfl (by decide) ?_
 refine jc_eq c1 hm 92 rfl rfl (fun h36 => ?_) (fun h36 => ?_)
 ·
  refine jy_ic c1 hm rfl (by decide) ?_
  refine jx_goto c1 hm 97 rfl rfl ?_
  refine jx_stor c1 hm (L' := [some (.inr (.inr (.inl 1))), some (.inl 1)]) rfl rfl rfl rfl rfl ?_
  refine jx_load c1 hm rfl rfl rfl rfl ?_
  refine jx_load c1 hm rfl rfl rfl rfl ?_
  refine jz_eq c1 hm 107 rfl rfl (fun h37 => ?_) (fun h37 => ?_)
  ·
   exfalso; omega
  refine jy_ic c1 hm rfl (by decide) ?_
  refine jx_goto c1 hm 108 rfl rfl ?_
  obtain ⟨M38, e38, hH38, hF38, k38, n38, q38⟩ := mup hH22 hF22 (c := 1) (i := 6) (v := 3) (A := 0) (B := 4) (bs_19_4 _ _ (by omega) (by omega)) ⟨by omega, by omega⟩ (jin_of 1 rfl ⟨by omega, by omega⟩)
  refine jm_puti c1 hm rfl sh_1 rfl e38 ?_
  exact jx_retv c2 hm rfl rfl ⟨rfl, hH38, hF38, (RSP.mk k2 k19 ((n38 1 4 (by decide)).trans k22) (((n38 1 9 (by decide)).trans (n22 1 9 (by decide))).trans k20) k38 (by omega)), ((((LFr.rf _ _).eq q20).eq q22).eq q38)⟩
 refine jx_load c1 hm rfl rfl rfl rfl ?_
 refine jx_geti c1 hm rfl sh_1 rfl k23 ?_
 refine jy_bp c1 hm rfl (by decide) ?_
 refine jc_ne c1 hm 96 rfl rfl (fun h39 => ?_) (fun h39 => ?_)
 ·
  refine jy_ic c1 hm rfl (by decide) ?_
  refine jx_stor c1 hm (L' := [some (.inr (.inr (.inl 1))), some (.inl 0)]) rfl rfl rfl rfl rfl ?_
  refine jx_load c1 hm rfl rfl rfl rfl ?_
  refine jx_load c1 hm rfl rfl rfl rfl ?_
  refine jz_eq c1 hm 107 rfl rfl (fun h40 => ?_) (fun h40 => ?_)
  ·
   refine jy_ic c1 hm rfl (by decide) ?_
   obtain ⟨M41, e41, hH41, hF41, k41, n41, q41⟩ := mup hH22 hF22 (c := 1) (i := 6) (v := 4) (A := 0) (B := 4) (bs_19_4 _ _ (by omega) (by omega)) ⟨by omega, by omega⟩ (jin_of 1 rfl ⟨by omega, by omega⟩)
   refine jm_puti c1 hm rfl sh_1 rfl e41 ?_
   exact jx_retv c2 hm rfl rfl ⟨rfl, hH41, hF41, (RSP.mk k2 k19 ((n41 1 4 (by decide)).trans k22) (((n41 1 9 (by decide)).trans (n22 1 9 (by decide))).trans k20) k41 (by omega)), ((((LFr.rf _ _).eq q20).eq q22).eq q41)⟩
  exfalso; omega
 refine jy_ic c1 hm rfl (by decide) ?_
 refine jx_goto c1 hm 97 rfl rfl ?_
 refine jx_stor c1 hm (L' := [some (.inr (.inr (.inl 1))), some (.inl 1)]) rfl rfl rfl rfl rfl ?_
 refine jx_load c1 hm rfl rfl rfl rfl ?_
 refine jx_load c1 hm rfl rfl rfl rfl ?_
 refine jz_eq c1 hm 107 rfl rfl (fun h42 => ?_) (fun h42 => ?_)
 ·
  exfalso; omega
 refine jy_ic c1 hm rfl (by decide) ?_
 refine jx_goto c1 hm 108 rfl rfl ?_
 obtain ⟨M43, e43, hH43, hF43, k43, n43, q43⟩ := mup hH22 hF22 (c := 1) (i := 6) (v := 3) (A := 0) (B := 4) (bs_19_4 _ _ (by omega) (by omega)) ⟨by omega, by omega⟩ (jin_of 1 rfl ⟨by omega, by omega⟩)
 refine jm_puti c1 hm rfl sh_1 rfl e43 ?_
 exact jx_retv c2 hm rfl rfl ⟨rfl, hH43, hF43, (RSP.mk k2 k19 ((n43 1 4 (by decide)).trans k22) (((n43 1 9 (by decide)).trans (n22 1 9 (by decide))).trans k20) k43 (by omega)), ((((LFr.rf _ _).eq q20).eq q22).eq q43)⟩
def ml_X10_next_1p : List (Nat × (Nat × Nat)) := [(1, (8, 8))]
def md_X10_next_1p : List (Nat × (Nat × Nat)) := [(1, (4, 4)), (1, (5, 5)), (1, (6, 6)), (1, (7, 7)), (1, (9, 9))]
theorem ct_X10_next_1p (X : Int) (hX : 0 ≤ X ∧ X ≤ 100000000) (M0 : JM) (hH0 : HI X M0)  : JOk shp PJ 2 17 [.inr (.inr (.inl 1))] M0 (jRv (fun M' => HI X M' ∧ Fr md_X10_next_1p M0 M' ∧ (M0.1 1 4 ≤ M0.1 1 2 → CTk M' (txC M0) (M0.1 1 4)) ∧ (LFr ml_X10_next_1p M0 M'))) := by
 refine ⟨jr_X10_next, pj_X10_next, fun F c1 c2 c3 => ?_⟩
 have hm := pj_X10_next
 change F 0 [some (.inr (.inr (.inl 1)))] [] M0
 have hF0 : Fr md_X10_next_1p M0 M0 := Fr.rf _ _
 obtain ⟨z1, k2, lz1, uz1⟩ := hH0.ld (c := 1) (i := 4) (A := 0) (B := 940) (bs_19_3 _ _ (by omega) (by omega))
 obtain ⟨z3, k4, lz3, uz3⟩ := hH0.ld (c := 1) (i := 2) (A := 0) (B := 940) (bs_19_1 _ _ (by omega) (by omega))
 obtain ⟨z5, k6, lz5, uz5⟩ := hH0.ld (c := 1) (i := 3) (A := 0) (B := 900) (bs_19_2 _ _ (by omega) (by omega))
 have W14 : ∀ (n15 : Nat) (M7 : JM) (hH7 : HI (X) M7) (hF7 : Fr md_X10_next_1p M0 M7) (k8 : M7.1 1 2 = z3) (k9 : M7.1 1 3 = z5) (b10 : Int) (hb10 : 0 ≤ b10 ∧ b10 ≤ 940) (k11 : M7.1 1 4 = b10) (hsk : SKI M0 (M7.1 1 4)) (hg : LFr ml_X10_next_1p M0 M7), (-b10 + 940) < (n15 : Int) → F 0 [some (.inr (.inr (.inl 1)))] [] M7 := by
  intro n15
  induction n15 with
  | zero => intros; omega
  | succ n15 ihW14 =>
   intro M7 hH7 hF7 k8 k9 b10 hb10 k11 hsk hg hrW14
   refine jx_load c1 hm rfl rfl rfl rfl ?_
   refine jx_geti c1 hm rfl sh_1 rfl k11 ?_
   skip
   refine jx_load c1 hm rfl rfl rfl rfl ?_
   refine jx_geti c1 hm rfl sh_1 rfl k8 ?_
   refine jc_ge c1 hm 63 rfl rfl (fun h16 => ?_) (fun h16 => ?_)
   ·
    refine jx_load c1 hm rfl rfl rfl rfl ?_
    refine jy_ic c1 hm rfl (by decide) ?_
    obtain ⟨M17, e17, hH17, hF17, k17, n17, q17⟩ := mup hH7 hF7 (c := 1) (i := 7) (v := (-1)) (A := (-1)) (B := 23) (bs_19_5 _ _ (by omega) (by omega)) ⟨by omega, by omega⟩ (jin_of 3 rfl ⟨by omega, by omega⟩)
    refine jm_puti c1 hm rfl sh_1 rfl e17 ?_
    refine jx_load c1 hm rfl rfl rfl rfl ?_
    have k18 : M17.1 1 4 = b10 := (n17 1 4 (by decide)).trans k11
    refine jx_geti c1 hm rfl sh_1 rfl k18 ?_
    refine jx_load c1 hm rfl rfl rfl rfl ?_
    have k19 : M17.1 1 3 = z5 := (n17 1 3 (by decide)).trans k9
    refine jx_geti c1 hm rfl sh_1 rfl k19 ?_
    refine jc_lt c1 hm 106 rfl rfl (fun h20 => ?_) (fun h20 => ?_)
    ·
     refine jx_load c1 hm rfl rfl rfl rfl ?_
     refine jx_geti c1 hm rfl sh_1 rfl k18 ?_
     refine jx_load c1 hm rfl rfl rfl rfl ?_
     have k21 : M17.1 1 2 = z3 := (n17 1 2 (by decide)).trans k8
     refine jx_geti c1 hm rfl sh_1 rfl k21 ?_
     refine jc_lt c1 hm 133 rfl rfl (fun h22 => ?_) (fun h22 => ?_)
     ·
      refine jx_load c1 hm rfl rfl rfl rfl ?_
      refine jx_load c1 hm rfl rfl rfl rfl ?_
      refine jx_geti c1 hm rfl sh_1 rfl k18 ?_
      obtain ⟨M23, e23, hH23, hF23, k23, n23, q23⟩ := mup hH17 hF17 (c := 1) (i := 5) (v := b10) (A := 0) (B := 940) (bs_19_3 _ _ (by omega) (by omega)) ⟨by omega, by omega⟩ (jin_of 1 rfl ⟨by omega, by omega⟩)
      refine jm_puti c1 hm rfl sh_1 rfl e23 ?_
      refine jx_load c1 hm rfl rfl rfl rfl ?_
      refine jv_v c3 hm rfl pj_X10_readRun rfl rfl ⟨_, _, _, rfl, sh_1⟩ rfl ((ct_X10_readRun_1p X (by omega) M23 hH23 ).le (by decide)) (fun M26 ⟨hH26, hR26, p24, p25⟩ => ?_)
      have hF26 := hF23.tr hR26 (by decide +kernel)
      refine jx_load c1 hm rfl rfl rfl rfl ?_
      obtain ⟨z27, k28, lz27, uz27⟩ := hH26.ld (c := 1) (i := 4) (A := 0) (B := 940) (bs_19_3 _ _ (by omega) (by omega))
      refine jx_geti c1 hm rfl sh_1 rfl k28 ?_
      refine jx_load c1 hm rfl rfl rfl rfl ?_
      have k29 : M26.1 1 5 = b10 := (hR26 1 5 (by decide +kernel)).trans k23
      refine jx_geti c1 hm rfl sh_1 rfl k29 ?_
      refine jc_ne c1 hm 163 rfl rfl (fun h30 => ?_) (fun h30 => ?_)
      ·
       refine jx_load c1 hm rfl rfl rfl rfl ?_
       obtain ⟨z31, k32, lz31, uz31⟩ := hH26.ld (c := 1) (i := 6) (A := 0) (B := 4) (bs_19_4 _ _ (by omega) (by omega))
       refine jx_geti c1 hm rfl sh_1 rfl k32 ?_
       refine jy_ic c1 hm rfl (by decide) ?_
       refine jc_ne c1 hm 183 rfl rfl (fun h33 => ?_) (fun h33 => ?_)
       ·
        have k34 : M26.1 1 2 = z3 := (hR26 1 2 (by decide +kernel)).trans ((n23 1 2 (by decide)).trans k21)
        exact jx_retv c2 hm rfl rfl ⟨rfl, hH26, hF26, (by exfalso; omega), (((hg.eq q17).eq q23).tr p25 (by decide +kernel))⟩
       refine jx_load c1 hm rfl rfl rfl rfl ?_
       refine jx_load c1 hm rfl rfl rfl rfl ?_
       refine jx_load c1 hm rfl rfl rfl rfl ?_
       obtain ⟨w35, kw35⟩ : ∃ w, M26.2 1 8 = w := ⟨_, rfl⟩
       refine jx_getl c1 hm rfl sh_1 rfl kw35 ?_
       skip
       refine jv_i c3 hm rfl pj_X10_keyOf rfl rfl ⟨_, _, _, rfl, sh_1⟩ rfl ((ct_X10_keyOf_1p X (by omega) M26 hH26 w35).le (by decide)) (fun z36 _ ⟨rfl, lz36, uz36, p37⟩ => ?_)
       skip
       obtain ⟨M38, e38, hH38, hF38, k38, n38, q38⟩ := mup hH26 hF26 (c := 1) (i := 7) (v := z36) (A := (-1)) (B := 23) (bs_19_5 _ _ (by omega) (by omega)) ⟨by omega, by omega⟩ (jin_of 3 rfl ⟨by omega, by omega⟩)
       refine jm_puti c1 hm rfl sh_1 rfl e38 ?_
       have k39 : M38.1 1 2 = z3 := (n38 1 2 (by decide)).trans ((hR26 1 2 (by decide +kernel)).trans ((n23 1 2 (by decide)).trans k21))
       have k40 : M38.1 1 4 = z27 := (n38 1 4 (by decide)).trans k28
       exact jx_retv c2 hm rfl rfl ⟨rfl, hH38, hF38, (by exfalso; omega), ((((hg.eq q17).eq q23).tr p25 (by decide +kernel)).eq q38)⟩
      refine jx_load c1 hm rfl rfl rfl rfl ?_
      have k41 : M26.1 1 2 = z3 := (hR26 1 2 (by decide +kernel)).trans ((n23 1 2 (by decide)).trans k21)
      refine jv_v c3 hm rfl pj_X10_readSign rfl rfl ⟨_, _, _, rfl, sh_1⟩ rfl ((ct_X10_readSign_1p X (by omega) M26 hH26 (by omega)).le (by decide)) (fun M44 ⟨hH44, hR44, p42, p43⟩ => ?_)
      have hF44 := hF26.tr hR44 (by decide +kernel)
      refine jx_goto c1 hm 183 rfl rfl ?_
      have k45 : M44.1 1 2 = z3 := (hR44 1 2 (by decide +kernel)).trans k41
      obtain ⟨z46, k47, lz46, uz46⟩ := hH44.ld (c := 1) (i := 4) (A := 0) (B := 940) (bs_19_3 _ _ (by omega) (by omega))
      exact jx_retv c2 hm rfl rfl ⟨rfl, hH44, hF44, (by exfalso; omega), ((((hg.eq q17).eq q23).tr p25 (by decide +kernel)).tr p43 (by decide +kernel))⟩
     refine jx_load c1 hm rfl rfl rfl rfl ?_
     refine jx_load c1 hm rfl rfl rfl rfl ?_
     refine jx_geti c1 hm rfl sh_1 rfl k21 ?_
     obtain ⟨M48, e48, hH48, hF48, k48, n48, q48⟩ := mup hH17 hF17 (c := 1) (i := 5) (v := z3) (A := 0) (B := 940) (bs_19_3 _ _ (by omega) (by omega)) ⟨by omega, by omega⟩ (jin_of 1 rfl ⟨by omega, by omega⟩)
     refine jm_puti c1 hm rfl sh_1 rfl e48 ?_
     refine jx_load c1 hm rfl rfl rfl rfl ?_
     refine jy_ic c1 hm rfl (by decide) ?_
     obtain ⟨M49, e49, hH49, hF49, k49, n49, q49⟩ := mup hH48 hF48 (c := 1) (i := 6) (v := 0) (A := 0) (B := 4) (bs_19_4 _ _ (by omega) (by omega)) ⟨by omega, by omega⟩ (jin_of 2 rfl ⟨by omega, by omega⟩)
     refine jm_puti c1 hm rfl sh_1 rfl e49 ?_
     refine jx_goto c1 hm 183 rfl rfl ?_
     have k50 : M49.1 1 2 = z3 := (n49 1 2 (by decide)).trans ((n48 1 2 (by decide)).trans k21)
     have k51 : M49.1 1 4 = b10 := (n49 1 4 (by decide)).trans ((n48 1 4 (by decide)).trans k18)
     exact jx_retv c2 hm rfl rfl ⟨rfl, hH49, hF49, (fun hi => nx_end hsk (by omega) hi (by omega) (by omega) (fun j => hF49 2 j rfl) (hF49 1 2 rfl) (hF49 1 3 rfl) k49 ((n49 1 5 (by decide)).trans (k48.trans (by omega))) (((n49 1 7 (by decide)).trans (n48 1 7 (by decide))).trans k17)), (((hg.eq q17).eq q48).eq q49)⟩
    refine jx_load c1 hm rfl rfl rfl rfl ?_
    have k52 : M17.1 1 2 = z3 := (n17 1 2 (by decide)).trans k8
    refine jx_geti c1 hm rfl sh_1 rfl k52 ?_
    refine jx_load c1 hm rfl rfl rfl rfl ?_
    refine jx_geti c1 hm rfl sh_1 rfl k19 ?_
    refine jc_le c1 hm 106 rfl rfl (fun h53 => ?_) (fun h53 => ?_)
    ·
     refine jx_load c1 hm rfl rfl rfl rfl ?_
     refine jx_geti c1 hm rfl sh_1 rfl k18 ?_
     refine jx_load c1 hm rfl rfl rfl rfl ?_
     refine jx_geti c1 hm rfl sh_1 rfl k52 ?_
     refine jc_lt c1 hm 133 rfl rfl (fun h54 => ?_) (fun h54 => ?_)
     ·
      refine jx_load c1 hm rfl rfl rfl rfl ?_
      refine jx_load c1 hm rfl rfl rfl rfl ?_
      refine jx_geti c1 hm rfl sh_1 rfl k18 ?_
      obtain ⟨M55, e55, hH55, hF55, k55, n55, q55⟩ := mup hH17 hF17 (c := 1) (i := 5) (v := b10) (A := 0) (B := 940) (bs_19_3 _ _ (by omega) (by omega)) ⟨by omega, by omega⟩ (jin_of 1 rfl ⟨by omega, by omega⟩)
      refine jm_puti c1 hm rfl sh_1 rfl e55 ?_
      refine jx_load c1 hm rfl rfl rfl rfl ?_
      refine jv_v c3 hm rfl pj_X10_readRun rfl rfl ⟨_, _, _, rfl, sh_1⟩ rfl ((ct_X10_readRun_1p X (by omega) M55 hH55 ).le (by decide)) (fun M58 ⟨hH58, hR58, p56, p57⟩ => ?_)
      have hF58 := hF55.tr hR58 (by decide +kernel)
      refine jx_load c1 hm rfl rfl rfl rfl ?_
      obtain ⟨z59, k60, lz59, uz59⟩ := hH58.ld (c := 1) (i := 4) (A := 0) (B := 940) (bs_19_3 _ _ (by omega) (by omega))
      refine jx_geti c1 hm rfl sh_1 rfl k60 ?_
      refine jx_load c1 hm rfl rfl rfl rfl ?_
      have k61 : M58.1 1 5 = b10 := (hR58 1 5 (by decide +kernel)).trans k55
      refine jx_geti c1 hm rfl sh_1 rfl k61 ?_
      refine jc_ne c1 hm 163 rfl rfl (fun h62 => ?_) (fun h62 => ?_)
      ·
       refine jx_load c1 hm rfl rfl rfl rfl ?_
       obtain ⟨z63, k64, lz63, uz63⟩ := hH58.ld (c := 1) (i := 6) (A := 0) (B := 4) (bs_19_4 _ _ (by omega) (by omega))
       refine jx_geti c1 hm rfl sh_1 rfl k64 ?_
       refine jy_ic c1 hm rfl (by decide) ?_
       refine jc_ne c1 hm 183 rfl rfl (fun h65 => ?_) (fun h65 => ?_)
       ·
        have k66 : M58.1 1 2 = z3 := (hR58 1 2 (by decide +kernel)).trans ((n55 1 2 (by decide)).trans k52)
        exact jx_retv c2 hm rfl rfl ⟨rfl, hH58, hF58, (by exfalso; omega), (((hg.eq q17).eq q55).tr p57 (by decide +kernel))⟩
       refine jx_load c1 hm rfl rfl rfl rfl ?_
       refine jx_load c1 hm rfl rfl rfl rfl ?_
       refine jx_load c1 hm rfl rfl rfl rfl ?_
       obtain ⟨w67, kw67⟩ : ∃ w, M58.2 1 8 = w := ⟨_, rfl⟩
       refine jx_getl c1 hm rfl sh_1 rfl kw67 ?_
       skip
       refine jv_i c3 hm rfl pj_X10_keyOf rfl rfl ⟨_, _, _, rfl, sh_1⟩ rfl ((ct_X10_keyOf_1p X (by omega) M58 hH58 w67).le (by decide)) (fun z68 _ ⟨rfl, lz68, uz68, p69⟩ => ?_)
       skip
       obtain ⟨M70, e70, hH70, hF70, k70, n70, q70⟩ := mup hH58 hF58 (c := 1) (i := 7) (v := z68) (A := (-1)) (B := 23) (bs_19_5 _ _ (by omega) (by omega)) ⟨by omega, by omega⟩ (jin_of 3 rfl ⟨by omega, by omega⟩)
       refine jm_puti c1 hm rfl sh_1 rfl e70 ?_
       have k71 : M70.1 1 2 = z3 := (n70 1 2 (by decide)).trans ((hR58 1 2 (by decide +kernel)).trans ((n55 1 2 (by decide)).trans k52))
       have k72 : M70.1 1 4 = z59 := (n70 1 4 (by decide)).trans k60
       exact jx_retv c2 hm rfl rfl ⟨rfl, hH70, hF70, (by exfalso; omega), ((((hg.eq q17).eq q55).tr p57 (by decide +kernel)).eq q70)⟩
      refine jx_load c1 hm rfl rfl rfl rfl ?_
      have k73 : M58.1 1 2 = z3 := (hR58 1 2 (by decide +kernel)).trans ((n55 1 2 (by decide)).trans k52)
      refine jv_v c3 hm rfl pj_X10_readSign rfl rfl ⟨_, _, _, rfl, sh_1⟩ rfl ((ct_X10_readSign_1p X (by omega) M58 hH58 (by omega)).le (by decide)) (fun M76 ⟨hH76, hR76, p74, p75⟩ => ?_)
      have hF76 := hF58.tr hR76 (by decide +kernel)
      refine jx_goto c1 hm 183 rfl rfl ?_
      have k77 : M76.1 1 2 = z3 := (hR76 1 2 (by decide +kernel)).trans k73
      obtain ⟨z78, k79, lz78, uz78⟩ := hH76.ld (c := 1) (i := 4) (A := 0) (B := 940) (bs_19_3 _ _ (by omega) (by omega))
      exact jx_retv c2 hm rfl rfl ⟨rfl, hH76, hF76, (by exfalso; omega), ((((hg.eq q17).eq q55).tr p57 (by decide +kernel)).tr p75 (by decide +kernel))⟩
     refine jx_load c1 hm rfl rfl rfl rfl ?_
     refine jx_load c1 hm rfl rfl rfl rfl ?_
     refine jx_geti c1 hm rfl sh_1 rfl k52 ?_
     obtain ⟨M80, e80, hH80, hF80, k80, n80, q80⟩ := mup hH17 hF17 (c := 1) (i := 5) (v := z3) (A := 0) (B := 940) (bs_19_3 _ _ (by omega) (by omega)) ⟨by omega, by omega⟩ (jin_of 1 rfl ⟨by omega, by omega⟩)
     refine jm_puti c1 hm rfl sh_1 rfl e80 ?_
     refine jx_load c1 hm rfl rfl rfl rfl ?_
     refine jy_ic c1 hm rfl (by decide) ?_
     obtain ⟨M81, e81, hH81, hF81, k81, n81, q81⟩ := mup hH80 hF80 (c := 1) (i := 6) (v := 0) (A := 0) (B := 4) (bs_19_4 _ _ (by omega) (by omega)) ⟨by omega, by omega⟩ (jin_of 2 rfl ⟨by omega, by omega⟩)
     refine jm_puti c1 hm rfl sh_1 rfl e81 ?_
     refine jx_goto c1 hm 183 rfl rfl ?_
     have k82 : M81.1 1 2 = z3 := (n81 1 2 (by decide)).trans ((n80 1 2 (by decide)).trans k52)
     have k83 : M81.1 1 4 = b10 := (n81 1 4 (by decide)).trans ((n80 1 4 (by decide)).trans k18)
     exact jx_retv c2 hm rfl rfl ⟨rfl, hH81, hF81, (fun hi => nx_end hsk (by omega) hi (by omega) (by omega) (fun j => hF81 2 j rfl) (hF81 1 2 rfl) (hF81 1 3 rfl) k81 ((n81 1 5 (by decide)).trans (k80.trans (by omega))) (((n81 1 7 (by decide)).trans (n80 1 7 (by decide))).trans k17)), (((hg.eq q17).eq q80).eq q81)⟩
    refine jx_load c1 hm rfl rfl rfl rfl ?_
    refine jx_load c1 hm rfl rfl rfl rfl ?_
    refine jx_geti c1 hm rfl sh_1 rfl k19 ?_
    obtain ⟨M84, e84, hH84, hF84, k84, n84, q84⟩ := mup hH17 hF17 (c := 1) (i := 5) (v := z5) (A := 0) (B := 940) (bs_19_3 _ _ (by omega) (by omega)) ⟨by omega, by omega⟩ (jin_of 1 rfl ⟨by omega, by omega⟩)
    refine jm_puti c1 hm rfl sh_1 rfl e84 ?_
    refine jx_load c1 hm rfl rfl rfl rfl ?_
    refine jy_ic c1 hm rfl (by decide) ?_
    obtain ⟨M85, e85, hH85, hF85, k85, n85, q85⟩ := mup hH84 hF84 (c := 1) (i := 6) (v := 4) (A := 0) (B := 4) (bs_19_4 _ _ (by omega) (by omega)) ⟨by omega, by omega⟩ (jin_of 2 rfl ⟨by omega, by omega⟩)
    refine jm_puti c1 hm rfl sh_1 rfl e85 ?_
    refine jx_goto c1 hm 183 rfl rfl ?_
    have k86 : M85.1 1 2 = z3 := (n85 1 2 (by decide)).trans ((n84 1 2 (by decide)).trans k52)
    have k87 : M85.1 1 4 = b10 := (n85 1 4 (by decide)).trans ((n84 1 4 (by decide)).trans k18)
    exact jx_retv c2 hm rfl rfl ⟨rfl, hH85, hF85, (fun hi => nx_out hsk (by omega) (by omega) (by omega) (fun j => hF85 2 j rfl) (hF85 1 2 rfl) (hF85 1 3 rfl) k85 ((n85 1 5 (by decide)).trans (k84.trans (by omega))) (((n85 1 7 (by decide)).trans (n84 1 7 (by decide))).trans k17)), (((hg.eq q17).eq q84).eq q85)⟩
   refine jx_load c1 hm rfl rfl rfl rfl ?_
   refine jx_geti c1 hm rfl sh_1 rfl k11 ?_
   refine jx_load c1 hm rfl rfl rfl rfl ?_
   refine jx_geti c1 hm rfl sh_1 rfl k9 ?_
   refine jc_ge c1 hm 63 rfl rfl (fun h88 => ?_) (fun h88 => ?_)
   ·
    refine jx_load c1 hm rfl rfl rfl rfl ?_
    refine jy_ic c1 hm rfl (by decide) ?_
    obtain ⟨M89, e89, hH89, hF89, k89, n89, q89⟩ := mup hH7 hF7 (c := 1) (i := 7) (v := (-1)) (A := (-1)) (B := 23) (bs_19_5 _ _ (by omega) (by omega)) ⟨by omega, by omega⟩ (jin_of 3 rfl ⟨by omega, by omega⟩)
    refine jm_puti c1 hm rfl sh_1 rfl e89 ?_
    refine jx_load c1 hm rfl rfl rfl rfl ?_
    have k90 : M89.1 1 4 = b10 := (n89 1 4 (by decide)).trans k11
    refine jx_geti c1 hm rfl sh_1 rfl k90 ?_
    refine jx_load c1 hm rfl rfl rfl rfl ?_
    have k91 : M89.1 1 3 = z5 := (n89 1 3 (by decide)).trans k9
    refine jx_geti c1 hm rfl sh_1 rfl k91 ?_
    refine jc_lt c1 hm 106 rfl rfl (fun h92 => ?_) (fun h92 => ?_)
    ·
     refine jx_load c1 hm rfl rfl rfl rfl ?_
     refine jx_geti c1 hm rfl sh_1 rfl k90 ?_
     refine jx_load c1 hm rfl rfl rfl rfl ?_
     have k93 : M89.1 1 2 = z3 := (n89 1 2 (by decide)).trans k8
     refine jx_geti c1 hm rfl sh_1 rfl k93 ?_
     refine jc_lt c1 hm 133 rfl rfl (fun h94 => ?_) (fun h94 => ?_)
     ·
      refine jx_load c1 hm rfl rfl rfl rfl ?_
      refine jx_load c1 hm rfl rfl rfl rfl ?_
      refine jx_geti c1 hm rfl sh_1 rfl k90 ?_
      obtain ⟨M95, e95, hH95, hF95, k95, n95, q95⟩ := mup hH89 hF89 (c := 1) (i := 5) (v := b10) (A := 0) (B := 940) (bs_19_3 _ _ (by omega) (by omega)) ⟨by omega, by omega⟩ (jin_of 1 rfl ⟨by omega, by omega⟩)
      refine jm_puti c1 hm rfl sh_1 rfl e95 ?_
      refine jx_load c1 hm rfl rfl rfl rfl ?_
      refine jv_v c3 hm rfl pj_X10_readRun rfl rfl ⟨_, _, _, rfl, sh_1⟩ rfl ((ct_X10_readRun_1p X (by omega) M95 hH95 ).le (by decide)) (fun M98 ⟨hH98, hR98, p96, p97⟩ => ?_)
      have hF98 := hF95.tr hR98 (by decide +kernel)
      refine jx_load c1 hm rfl rfl rfl rfl ?_
      obtain ⟨z99, k100, lz99, uz99⟩ := hH98.ld (c := 1) (i := 4) (A := 0) (B := 940) (bs_19_3 _ _ (by omega) (by omega))
      refine jx_geti c1 hm rfl sh_1 rfl k100 ?_
      refine jx_load c1 hm rfl rfl rfl rfl ?_
      have k101 : M98.1 1 5 = b10 := (hR98 1 5 (by decide +kernel)).trans k95
      refine jx_geti c1 hm rfl sh_1 rfl k101 ?_
      refine jc_ne c1 hm 163 rfl rfl (fun h102 => ?_) (fun h102 => ?_)
      ·
       refine jx_load c1 hm rfl rfl rfl rfl ?_
       obtain ⟨z103, k104, lz103, uz103⟩ := hH98.ld (c := 1) (i := 6) (A := 0) (B := 4) (bs_19_4 _ _ (by omega) (by omega))
       refine jx_geti c1 hm rfl sh_1 rfl k104 ?_
       refine jy_ic c1 hm rfl (by decide) ?_
       refine jc_ne c1 hm 183 rfl rfl (fun h105 => ?_) (fun h105 => ?_)
       ·
        have k106 : M98.1 1 2 = z3 := (hR98 1 2 (by decide +kernel)).trans ((n95 1 2 (by decide)).trans k93)
        exact jx_retv c2 hm rfl rfl ⟨rfl, hH98, hF98, (by exfalso; omega), (((hg.eq q89).eq q95).tr p97 (by decide +kernel))⟩
       refine jx_load c1 hm rfl rfl rfl rfl ?_
       refine jx_load c1 hm rfl rfl rfl rfl ?_
       refine jx_load c1 hm rfl rfl rfl rfl ?_
       obtain ⟨w107, kw107⟩ : ∃ w, M98.2 1 8 = w := ⟨_, rfl⟩
       refine jx_getl c1 hm rfl sh_1 rfl kw107 ?_
       skip
       refine jv_i c3 hm rfl pj_X10_keyOf rfl rfl ⟨_, _, _, rfl, sh_1⟩ rfl ((ct_X10_keyOf_1p X (by omega) M98 hH98 w107).le (by decide)) (fun z108 _ ⟨rfl, lz108, uz108, p109⟩ => ?_)
       skip
       obtain ⟨M110, e110, hH110, hF110, k110, n110, q110⟩ := mup hH98 hF98 (c := 1) (i := 7) (v := z108) (A := (-1)) (B := 23) (bs_19_5 _ _ (by omega) (by omega)) ⟨by omega, by omega⟩ (jin_of 3 rfl ⟨by omega, by omega⟩)
       refine jm_puti c1 hm rfl sh_1 rfl e110 ?_
       have k111 : M110.1 1 2 = z3 := (n110 1 2 (by decide)).trans ((hR98 1 2 (by decide +kernel)).trans ((n95 1 2 (by decide)).trans k93))
       have k112 : M110.1 1 4 = z99 := (n110 1 4 (by decide)).trans k100
       exact jx_retv c2 hm rfl rfl ⟨rfl, hH110, hF110, (by exfalso; omega), ((((hg.eq q89).eq q95).tr p97 (by decide +kernel)).eq q110)⟩
      refine jx_load c1 hm rfl rfl rfl rfl ?_
      have k113 : M98.1 1 2 = z3 := (hR98 1 2 (by decide +kernel)).trans ((n95 1 2 (by decide)).trans k93)
      refine jv_v c3 hm rfl pj_X10_readSign rfl rfl ⟨_, _, _, rfl, sh_1⟩ rfl ((ct_X10_readSign_1p X (by omega) M98 hH98 (by omega)).le (by decide)) (fun M116 ⟨hH116, hR116, p114, p115⟩ => ?_)
      have hF116 := hF98.tr hR116 (by decide +kernel)
      refine jx_goto c1 hm 183 rfl rfl ?_
      have k117 : M116.1 1 2 = z3 := (hR116 1 2 (by decide +kernel)).trans k113
      obtain ⟨z118, k119, lz118, uz118⟩ := hH116.ld (c := 1) (i := 4) (A := 0) (B := 940) (bs_19_3 _ _ (by omega) (by omega))
      exact jx_retv c2 hm rfl rfl ⟨rfl, hH116, hF116, (by exfalso; omega), ((((hg.eq q89).eq q95).tr p97 (by decide +kernel)).tr p115 (by decide +kernel))⟩
     refine jx_load c1 hm rfl rfl rfl rfl ?_
     refine jx_load c1 hm rfl rfl rfl rfl ?_
     refine jx_geti c1 hm rfl sh_1 rfl k93 ?_
     obtain ⟨M120, e120, hH120, hF120, k120, n120, q120⟩ := mup hH89 hF89 (c := 1) (i := 5) (v := z3) (A := 0) (B := 940) (bs_19_3 _ _ (by omega) (by omega)) ⟨by omega, by omega⟩ (jin_of 1 rfl ⟨by omega, by omega⟩)
     refine jm_puti c1 hm rfl sh_1 rfl e120 ?_
     refine jx_load c1 hm rfl rfl rfl rfl ?_
     refine jy_ic c1 hm rfl (by decide) ?_
     obtain ⟨M121, e121, hH121, hF121, k121, n121, q121⟩ := mup hH120 hF120 (c := 1) (i := 6) (v := 0) (A := 0) (B := 4) (bs_19_4 _ _ (by omega) (by omega)) ⟨by omega, by omega⟩ (jin_of 2 rfl ⟨by omega, by omega⟩)
     refine jm_puti c1 hm rfl sh_1 rfl e121 ?_
     refine jx_goto c1 hm 183 rfl rfl ?_
     have k122 : M121.1 1 2 = z3 := (n121 1 2 (by decide)).trans ((n120 1 2 (by decide)).trans k93)
     have k123 : M121.1 1 4 = b10 := (n121 1 4 (by decide)).trans ((n120 1 4 (by decide)).trans k90)
     exact jx_retv c2 hm rfl rfl ⟨rfl, hH121, hF121, (fun hi => nx_end hsk (by omega) hi (by omega) (by omega) (fun j => hF121 2 j rfl) (hF121 1 2 rfl) (hF121 1 3 rfl) k121 ((n121 1 5 (by decide)).trans (k120.trans (by omega))) (((n121 1 7 (by decide)).trans (n120 1 7 (by decide))).trans k89)), (((hg.eq q89).eq q120).eq q121)⟩
    refine jx_load c1 hm rfl rfl rfl rfl ?_
    have k124 : M89.1 1 2 = z3 := (n89 1 2 (by decide)).trans k8
    refine jx_geti c1 hm rfl sh_1 rfl k124 ?_
    refine jx_load c1 hm rfl rfl rfl rfl ?_
    refine jx_geti c1 hm rfl sh_1 rfl k91 ?_
    refine jc_le c1 hm 106 rfl rfl (fun h125 => ?_) (fun h125 => ?_)
    ·
     refine jx_load c1 hm rfl rfl rfl rfl ?_
     refine jx_geti c1 hm rfl sh_1 rfl k90 ?_
     refine jx_load c1 hm rfl rfl rfl rfl ?_
     refine jx_geti c1 hm rfl sh_1 rfl k124 ?_
     refine jc_lt c1 hm 133 rfl rfl (fun h126 => ?_) (fun h126 => ?_)
     ·
      refine jx_load c1 hm rfl rfl rfl rfl ?_
      refine jx_load c1 hm rfl rfl rfl rfl ?_
      refine jx_geti c1 hm rfl sh_1 rfl k90 ?_
      obtain ⟨M127, e127, hH127, hF127, k127, n127, q127⟩ := mup hH89 hF89 (c := 1) (i := 5) (v := b10) (A := 0) (B := 940) (bs_19_3 _ _ (by omega) (by omega)) ⟨by omega, by omega⟩ (jin_of 1 rfl ⟨by omega, by omega⟩)
      refine jm_puti c1 hm rfl sh_1 rfl e127 ?_
      refine jx_load c1 hm rfl rfl rfl rfl ?_
      refine jv_v c3 hm rfl pj_X10_readRun rfl rfl ⟨_, _, _, rfl, sh_1⟩ rfl ((ct_X10_readRun_1p X (by omega) M127 hH127 ).le (by decide)) (fun M130 ⟨hH130, hR130, p128, p129⟩ => ?_)
      have hF130 := hF127.tr hR130 (by decide +kernel)
      refine jx_load c1 hm rfl rfl rfl rfl ?_
      obtain ⟨z131, k132, lz131, uz131⟩ := hH130.ld (c := 1) (i := 4) (A := 0) (B := 940) (bs_19_3 _ _ (by omega) (by omega))
      refine jx_geti c1 hm rfl sh_1 rfl k132 ?_
      refine jx_load c1 hm rfl rfl rfl rfl ?_
      have k133 : M130.1 1 5 = b10 := (hR130 1 5 (by decide +kernel)).trans k127
      refine jx_geti c1 hm rfl sh_1 rfl k133 ?_
      refine jc_ne c1 hm 163 rfl rfl (fun h134 => ?_) (fun h134 => ?_)
      ·
       refine jx_load c1 hm rfl rfl rfl rfl ?_
       obtain ⟨z135, k136, lz135, uz135⟩ := hH130.ld (c := 1) (i := 6) (A := 0) (B := 4) (bs_19_4 _ _ (by omega) (by omega))
       refine jx_geti c1 hm rfl sh_1 rfl k136 ?_
       refine jy_ic c1 hm rfl (by decide) ?_
       refine jc_ne c1 hm 183 rfl rfl (fun h137 => ?_) (fun h137 => ?_)
       ·
        have k138 : M130.1 1 2 = z3 := (hR130 1 2 (by decide +kernel)).trans ((n127 1 2 (by decide)).trans k124)
        exact jx_retv c2 hm rfl rfl ⟨rfl, hH130, hF130, (by exfalso; omega), (((hg.eq q89).eq q127).tr p129 (by decide +kernel))⟩
       refine jx_load c1 hm rfl rfl rfl rfl ?_
       refine jx_load c1 hm rfl rfl rfl rfl ?_
       refine jx_load c1 hm rfl rfl rfl rfl ?_
       obtain ⟨w139, kw139⟩ : ∃ w, M130.2 1 8 = w := ⟨_, rfl⟩
       refine jx_getl c1 hm rfl sh_1 rfl kw139 ?_
       skip
       refine jv_i c3 hm rfl pj_X10_keyOf rfl rfl ⟨_, _, _, rfl, sh_1⟩ rfl ((ct_X10_keyOf_1p X (by omega) M130 hH130 w139).le (by decide)) (fun z140 _ ⟨rfl, lz140, uz140, p141⟩ => ?_)
       skip
       obtain ⟨M142, e142, hH142, hF142, k142, n142, q142⟩ := mup hH130 hF130 (c := 1) (i := 7) (v := z140) (A := (-1)) (B := 23) (bs_19_5 _ _ (by omega) (by omega)) ⟨by omega, by omega⟩ (jin_of 3 rfl ⟨by omega, by omega⟩)
       refine jm_puti c1 hm rfl sh_1 rfl e142 ?_
       have k143 : M142.1 1 2 = z3 := (n142 1 2 (by decide)).trans ((hR130 1 2 (by decide +kernel)).trans ((n127 1 2 (by decide)).trans k124))
       have k144 : M142.1 1 4 = z131 := (n142 1 4 (by decide)).trans k132
       exact jx_retv c2 hm rfl rfl ⟨rfl, hH142, hF142, (by exfalso; omega), ((((hg.eq q89).eq q127).tr p129 (by decide +kernel)).eq q142)⟩
      refine jx_load c1 hm rfl rfl rfl rfl ?_
      have k145 : M130.1 1 2 = z3 := (hR130 1 2 (by decide +kernel)).trans ((n127 1 2 (by decide)).trans k124)
      refine jv_v c3 hm rfl pj_X10_readSign rfl rfl ⟨_, _, _, rfl, sh_1⟩ rfl ((ct_X10_readSign_1p X (by omega) M130 hH130 (by omega)).le (by decide)) (fun M148 ⟨hH148, hR148, p146, p147⟩ => ?_)
      have hF148 := hF130.tr hR148 (by decide +kernel)
      refine jx_goto c1 hm 183 rfl rfl ?_
      have k149 : M148.1 1 2 = z3 := (hR148 1 2 (by decide +kernel)).trans k145
      obtain ⟨z150, k151, lz150, uz150⟩ := hH148.ld (c := 1) (i := 4) (A := 0) (B := 940) (bs_19_3 _ _ (by omega) (by omega))
      exact jx_retv c2 hm rfl rfl ⟨rfl, hH148, hF148, (by exfalso; omega), ((((hg.eq q89).eq q127).tr p129 (by decide +kernel)).tr p147 (by decide +kernel))⟩
     refine jx_load c1 hm rfl rfl rfl rfl ?_
     refine jx_load c1 hm rfl rfl rfl rfl ?_
     refine jx_geti c1 hm rfl sh_1 rfl k124 ?_
     obtain ⟨M152, e152, hH152, hF152, k152, n152, q152⟩ := mup hH89 hF89 (c := 1) (i := 5) (v := z3) (A := 0) (B := 940) (bs_19_3 _ _ (by omega) (by omega)) ⟨by omega, by omega⟩ (jin_of 1 rfl ⟨by omega, by omega⟩)
     refine jm_puti c1 hm rfl sh_1 rfl e152 ?_
     refine jx_load c1 hm rfl rfl rfl rfl ?_
     refine jy_ic c1 hm rfl (by decide) ?_
     obtain ⟨M153, e153, hH153, hF153, k153, n153, q153⟩ := mup hH152 hF152 (c := 1) (i := 6) (v := 0) (A := 0) (B := 4) (bs_19_4 _ _ (by omega) (by omega)) ⟨by omega, by omega⟩ (jin_of 2 rfl ⟨by omega, by omega⟩)
     refine jm_puti c1 hm rfl sh_1 rfl e153 ?_
     refine jx_goto c1 hm 183 rfl rfl ?_
     have k154 : M153.1 1 2 = z3 := (n153 1 2 (by decide)).trans ((n152 1 2 (by decide)).trans k124)
     have k155 : M153.1 1 4 = b10 := (n153 1 4 (by decide)).trans ((n152 1 4 (by decide)).trans k90)
     exact jx_retv c2 hm rfl rfl ⟨rfl, hH153, hF153, (fun hi => nx_end hsk (by omega) hi (by omega) (by omega) (fun j => hF153 2 j rfl) (hF153 1 2 rfl) (hF153 1 3 rfl) k153 ((n153 1 5 (by decide)).trans (k152.trans (by omega))) (((n153 1 7 (by decide)).trans (n152 1 7 (by decide))).trans k89)), (((hg.eq q89).eq q152).eq q153)⟩
    refine jx_load c1 hm rfl rfl rfl rfl ?_
    refine jx_load c1 hm rfl rfl rfl rfl ?_
    refine jx_geti c1 hm rfl sh_1 rfl k91 ?_
    obtain ⟨M156, e156, hH156, hF156, k156, n156, q156⟩ := mup hH89 hF89 (c := 1) (i := 5) (v := z5) (A := 0) (B := 940) (bs_19_3 _ _ (by omega) (by omega)) ⟨by omega, by omega⟩ (jin_of 1 rfl ⟨by omega, by omega⟩)
    refine jm_puti c1 hm rfl sh_1 rfl e156 ?_
    refine jx_load c1 hm rfl rfl rfl rfl ?_
    refine jy_ic c1 hm rfl (by decide) ?_
    obtain ⟨M157, e157, hH157, hF157, k157, n157, q157⟩ := mup hH156 hF156 (c := 1) (i := 6) (v := 4) (A := 0) (B := 4) (bs_19_4 _ _ (by omega) (by omega)) ⟨by omega, by omega⟩ (jin_of 2 rfl ⟨by omega, by omega⟩)
    refine jm_puti c1 hm rfl sh_1 rfl e157 ?_
    refine jx_goto c1 hm 183 rfl rfl ?_
    have k158 : M157.1 1 2 = z3 := (n157 1 2 (by decide)).trans ((n156 1 2 (by decide)).trans k124)
    have k159 : M157.1 1 4 = b10 := (n157 1 4 (by decide)).trans ((n156 1 4 (by decide)).trans k90)
    exact jx_retv c2 hm rfl rfl ⟨rfl, hH157, hF157, (fun hi => nx_out hsk (by omega) (by omega) (by omega) (fun j => hF157 2 j rfl) (hF157 1 2 rfl) (hF157 1 3 rfl) k157 ((n157 1 5 (by decide)).trans (k156.trans (by omega))) (((n157 1 7 (by decide)).trans (n156 1 7 (by decide))).trans k89)), (((hg.eq q89).eq q156).eq q157)⟩
   refine jx_load c1 hm rfl rfl rfl rfl ?_
   refine jx_getr c1 hm rfl sh_1 rfl ?_
   refine jx_load c1 hm rfl rfl rfl rfl ?_
   refine jx_geti c1 hm rfl sh_1 rfl k11 ?_
   obtain ⟨z160, k161, lz160, uz160⟩ := hH7.ld (c := 2) (i := (b10).toNat) (A := (-128)) (B := 127) rfl
   refine jx_bald c1 hm rfl sh_2 rfl ⟨by omega, by omega⟩ k161 ?_
   refine jy_bp c1 hm rfl (by decide) ?_
   refine jc_eq c1 hm 50 rfl rfl (fun h162 => ?_) (fun h162 => ?_)
   ·
    refine jx_load c1 hm rfl rfl rfl rfl ?_
    refine jx_dup c1 hm rfl rfl ?_
    refine jx_geti c1 hm rfl sh_1 rfl k11 ?_
    refine jy_ic c1 hm rfl (by decide) ?_
    refine jy_add c1 hm (b10 + 1) rfl (by omega) ?_
    obtain ⟨M163, e163, hH163, hF163, k163, n163, q163⟩ := mup hH7 hF7 (c := 1) (i := 4) (v := (b10 + 1)) (A := 0) (B := 940) (bs_19_3 _ _ (by omega) (by omega)) ⟨by omega, by omega⟩ (jin_of 0 rfl ⟨by omega, by omega⟩)
    refine jm_puti c1 hm rfl sh_1 rfl e163 ?_
    refine jx_goto c1 hm 0 rfl rfl ?_
    have k237 : M163.1 1 2 = z3 := (n163 1 2 (by decide)).trans k8
    have k238 : M163.1 1 3 = z5 := (n163 1 3 (by decide)).trans k9
    exact ihW14 M163 hH163 hF163 k237 k238 (b10 + 1) (by omega) k163 (SKI.cg (SKI.st (b := z160) hsk (by omega) (by omega) (by omega) (by rw [k11, ← hF7 2 (b10).toNat rfl]; exact k161) (by omega)) (by omega)) (hg.eq q163) (by omega)
   refine jx_load c1 hm rfl rfl rfl rfl ?_
   refine jx_getr c1 hm rfl sh_1 rfl ?_
   refine jx_load c1 hm rfl rfl rfl rfl ?_
   refine jx_geti c1 hm rfl sh_1 rfl k11 ?_
   refine jx_bald c1 hm rfl sh_2 rfl ⟨by omega, by omega⟩ k161 ?_
   refine jy_bp c1 hm rfl (by decide) ?_
   refine jc_ne c1 hm 63 rfl rfl (fun h164 => ?_) (fun h164 => ?_)
   ·
    refine jx_load c1 hm rfl rfl rfl rfl ?_
    refine jy_ic c1 hm rfl (by decide) ?_
    obtain ⟨M165, e165, hH165, hF165, k165, n165, q165⟩ := mup hH7 hF7 (c := 1) (i := 7) (v := (-1)) (A := (-1)) (B := 23) (bs_19_5 _ _ (by omega) (by omega)) ⟨by omega, by omega⟩ (jin_of 3 rfl ⟨by omega, by omega⟩)
    refine jm_puti c1 hm rfl sh_1 rfl e165 ?_
    refine jx_load c1 hm rfl rfl rfl rfl ?_
    have k166 : M165.1 1 4 = b10 := (n165 1 4 (by decide)).trans k11
    refine jx_geti c1 hm rfl sh_1 rfl k166 ?_
    refine jx_load c1 hm rfl rfl rfl rfl ?_
    have k167 : M165.1 1 3 = z5 := (n165 1 3 (by decide)).trans k9
    refine jx_geti c1 hm rfl sh_1 rfl k167 ?_
    refine jc_lt c1 hm 106 rfl rfl (fun h168 => ?_) (fun h168 => ?_)
    ·
     refine jx_load c1 hm rfl rfl rfl rfl ?_
     refine jx_geti c1 hm rfl sh_1 rfl k166 ?_
     refine jx_load c1 hm rfl rfl rfl rfl ?_
     have k169 : M165.1 1 2 = z3 := (n165 1 2 (by decide)).trans k8
     refine jx_geti c1 hm rfl sh_1 rfl k169 ?_
     refine jc_lt c1 hm 133 rfl rfl (fun h170 => ?_) (fun h170 => ?_)
     ·
      refine jx_load c1 hm rfl rfl rfl rfl ?_
      refine jx_load c1 hm rfl rfl rfl rfl ?_
      refine jx_geti c1 hm rfl sh_1 rfl k166 ?_
      obtain ⟨M171, e171, hH171, hF171, k171, n171, q171⟩ := mup hH165 hF165 (c := 1) (i := 5) (v := b10) (A := 0) (B := 940) (bs_19_3 _ _ (by omega) (by omega)) ⟨by omega, by omega⟩ (jin_of 1 rfl ⟨by omega, by omega⟩)
      refine jm_puti c1 hm rfl sh_1 rfl e171 ?_
      refine jx_load c1 hm rfl rfl rfl rfl ?_
      refine jv_v c3 hm rfl pj_X10_readRun rfl rfl ⟨_, _, _, rfl, sh_1⟩ rfl ((ct_X10_readRun_1p X (by omega) M171 hH171 ).le (by decide)) (fun M174 ⟨hH174, hR174, p172, p173⟩ => ?_)
      have hF174 := hF171.tr hR174 (by decide +kernel)
      refine jx_load c1 hm rfl rfl rfl rfl ?_
      obtain ⟨z175, k176, lz175, uz175⟩ := hH174.ld (c := 1) (i := 4) (A := 0) (B := 940) (bs_19_3 _ _ (by omega) (by omega))
      refine jx_geti c1 hm rfl sh_1 rfl k176 ?_
      refine jx_load c1 hm rfl rfl rfl rfl ?_
      have k177 : M174.1 1 5 = b10 := (hR174 1 5 (by decide +kernel)).trans k171
      refine jx_geti c1 hm rfl sh_1 rfl k177 ?_
      refine jc_ne c1 hm 163 rfl rfl (fun h178 => ?_) (fun h178 => ?_)
      ·
       refine jx_load c1 hm rfl rfl rfl rfl ?_
       obtain ⟨z179, k180, lz179, uz179⟩ := hH174.ld (c := 1) (i := 6) (A := 0) (B := 4) (bs_19_4 _ _ (by omega) (by omega))
       refine jx_geti c1 hm rfl sh_1 rfl k180 ?_
       refine jy_ic c1 hm rfl (by decide) ?_
       refine jc_ne c1 hm 183 rfl rfl (fun h181 => ?_) (fun h181 => ?_)
       ·
        have k182 : M174.1 1 2 = z3 := (hR174 1 2 (by decide +kernel)).trans ((n171 1 2 (by decide)).trans k169)
        exact jx_retv c2 hm rfl rfl ⟨rfl, hH174, hF174, (fun hi => nx_run hsk (by omega) (by omega) (by omega) (by rw [k11, uC_at (by omega), ← hF7 2 (b10).toNat rfl, k161]; exact chW_no (by omega)) p172 (fun j => hF171 2 j rfl) (hF171 1 2 rfl) ((n171 1 4 (by decide)).trans (n165 1 4 (by decide))) (by omega) (fun j => hF174 2 j rfl) (hF174 1 2 rfl) (hF174 1 3 rfl) rfl ((hR174 1 5 rfl).trans (k171.trans k11.symm)) rfl rfl rfl (Or.inl ⟨by omega, ((hR174 1 7 rfl).trans (n171 1 7 (by decide))).trans k165⟩)), (((hg.eq q165).eq q171).tr p173 (by decide +kernel))⟩
       refine jx_load c1 hm rfl rfl rfl rfl ?_
       refine jx_load c1 hm rfl rfl rfl rfl ?_
       refine jx_load c1 hm rfl rfl rfl rfl ?_
       obtain ⟨w183, kw183⟩ : ∃ w, M174.2 1 8 = w := ⟨_, rfl⟩
       refine jx_getl c1 hm rfl sh_1 rfl kw183 ?_
       skip
       refine jv_i c3 hm rfl pj_X10_keyOf rfl rfl ⟨_, _, _, rfl, sh_1⟩ rfl ((ct_X10_keyOf_1p X (by omega) M174 hH174 w183).le (by decide)) (fun z184 _ ⟨rfl, lz184, uz184, p185⟩ => ?_)
       skip
       obtain ⟨M186, e186, hH186, hF186, k186, n186, q186⟩ := mup hH174 hF174 (c := 1) (i := 7) (v := z184) (A := (-1)) (B := 23) (bs_19_5 _ _ (by omega) (by omega)) ⟨by omega, by omega⟩ (jin_of 3 rfl ⟨by omega, by omega⟩)
       refine jm_puti c1 hm rfl sh_1 rfl e186 ?_
       have k187 : M186.1 1 2 = z3 := (n186 1 2 (by decide)).trans ((hR174 1 2 (by decide +kernel)).trans ((n171 1 2 (by decide)).trans k169))
       have k188 : M186.1 1 4 = z175 := (n186 1 4 (by decide)).trans k176
       exact jx_retv c2 hm rfl rfl ⟨rfl, hH186, hF186, (fun hi => nx_run hsk (by omega) (by omega) (by omega) (by rw [k11, uC_at (by omega), ← hF7 2 (b10).toNat rfl, k161]; exact chW_no (by omega)) p172 (fun j => hF171 2 j rfl) (hF171 1 2 rfl) ((n171 1 4 (by decide)).trans (n165 1 4 (by decide))) (by omega) (fun j => hF186 2 j rfl) (hF186 1 2 rfl) (hF186 1 3 rfl) (n186 1 4 (by decide)) (((n186 1 5 (by decide)).trans (hR174 1 5 rfl)).trans (k171.trans k11.symm)) (n186 1 6 (by decide)) (q186 1 8) (n186 1 9 (by decide)) (Or.inr ⟨by omega, fun r9 y1 y2 => k186.trans (p185 r9 y1 (by rw [← kw183]; exact y2))⟩)), ((((hg.eq q165).eq q171).tr p173 (by decide +kernel)).eq q186)⟩
      refine jx_load c1 hm rfl rfl rfl rfl ?_
      have k189 : M174.1 1 2 = z3 := (hR174 1 2 (by decide +kernel)).trans ((n171 1 2 (by decide)).trans k169)
      refine jv_v c3 hm rfl pj_X10_readSign rfl rfl ⟨_, _, _, rfl, sh_1⟩ rfl ((ct_X10_readSign_1p X (by omega) M174 hH174 (by omega)).le (by decide)) (fun M192 ⟨hH192, hR192, p190, p191⟩ => ?_)
      have hF192 := hF174.tr hR192 (by decide +kernel)
      refine jx_goto c1 hm 183 rfl rfl ?_
      have k193 : M192.1 1 2 = z3 := (hR192 1 2 (by decide +kernel)).trans k189
      obtain ⟨z194, k195, lz194, uz194⟩ := hH192.ld (c := 1) (i := 4) (A := 0) (B := 940) (bs_19_3 _ _ (by omega) (by omega))
      exact jx_retv c2 hm rfl rfl ⟨rfl, hH192, hF192, (fun hi => nx_sgn hsk (by omega) (by omega) (by omega) (by omega) (by rw [k11, uC_at (by omega), ← hF7 2 (b10).toNat rfl, k161]; exact chW_no (by omega)) p172 (fun j => hF171 2 j rfl) (hF171 1 2 rfl) ((n171 1 4 (by decide)).trans (n165 1 4 (by decide))) (by omega) p190 (fun j => hF174 2 j rfl) (by rw [k11, ← hF7 2 (b10).toNat rfl, k161]; omega) (fun j => hF192 2 j rfl) (hF192 1 2 rfl) (hF192 1 3 rfl) (((hR192 1 5 rfl).trans (hR174 1 5 rfl)).trans (k171.trans k11.symm)) ((((hR192 1 7 rfl).trans (hR174 1 7 rfl)).trans (n171 1 7 (by decide))).trans k165)), ((((hg.eq q165).eq q171).tr p173 (by decide +kernel)).tr p191 (by decide +kernel))⟩
     refine jx_load c1 hm rfl rfl rfl rfl ?_
     refine jx_load c1 hm rfl rfl rfl rfl ?_
     refine jx_geti c1 hm rfl sh_1 rfl k169 ?_
     obtain ⟨M196, e196, hH196, hF196, k196, n196, q196⟩ := mup hH165 hF165 (c := 1) (i := 5) (v := z3) (A := 0) (B := 940) (bs_19_3 _ _ (by omega) (by omega)) ⟨by omega, by omega⟩ (jin_of 1 rfl ⟨by omega, by omega⟩)
     refine jm_puti c1 hm rfl sh_1 rfl e196 ?_
     refine jx_load c1 hm rfl rfl rfl rfl ?_
     refine jy_ic c1 hm rfl (by decide) ?_
     obtain ⟨M197, e197, hH197, hF197, k197, n197, q197⟩ := mup hH196 hF196 (c := 1) (i := 6) (v := 0) (A := 0) (B := 4) (bs_19_4 _ _ (by omega) (by omega)) ⟨by omega, by omega⟩ (jin_of 2 rfl ⟨by omega, by omega⟩)
     refine jm_puti c1 hm rfl sh_1 rfl e197 ?_
     refine jx_goto c1 hm 183 rfl rfl ?_
     have k198 : M197.1 1 2 = z3 := (n197 1 2 (by decide)).trans ((n196 1 2 (by decide)).trans k169)
     have k199 : M197.1 1 4 = b10 := (n197 1 4 (by decide)).trans ((n196 1 4 (by decide)).trans k166)
     exact jx_retv c2 hm rfl rfl ⟨rfl, hH197, hF197, (fun hi => nx_end hsk (by omega) hi (by omega) (by omega) (fun j => hF197 2 j rfl) (hF197 1 2 rfl) (hF197 1 3 rfl) k197 ((n197 1 5 (by decide)).trans (k196.trans (by omega))) (((n197 1 7 (by decide)).trans (n196 1 7 (by decide))).trans k165)), (((hg.eq q165).eq q196).eq q197)⟩
    refine jx_load c1 hm rfl rfl rfl rfl ?_
    have k200 : M165.1 1 2 = z3 := (n165 1 2 (by decide)).trans k8
    refine jx_geti c1 hm rfl sh_1 rfl k200 ?_
    refine jx_load c1 hm rfl rfl rfl rfl ?_
    refine jx_geti c1 hm rfl sh_1 rfl k167 ?_
    refine jc_le c1 hm 106 rfl rfl (fun h201 => ?_) (fun h201 => ?_)
    ·
     refine jx_load c1 hm rfl rfl rfl rfl ?_
     refine jx_geti c1 hm rfl sh_1 rfl k166 ?_
     refine jx_load c1 hm rfl rfl rfl rfl ?_
     refine jx_geti c1 hm rfl sh_1 rfl k200 ?_
     refine jc_lt c1 hm 133 rfl rfl (fun h202 => ?_) (fun h202 => ?_)
     ·
      refine jx_load c1 hm rfl rfl rfl rfl ?_
      refine jx_load c1 hm rfl rfl rfl rfl ?_
      refine jx_geti c1 hm rfl sh_1 rfl k166 ?_
      obtain ⟨M203, e203, hH203, hF203, k203, n203, q203⟩ := mup hH165 hF165 (c := 1) (i := 5) (v := b10) (A := 0) (B := 940) (bs_19_3 _ _ (by omega) (by omega)) ⟨by omega, by omega⟩ (jin_of 1 rfl ⟨by omega, by omega⟩)
      refine jm_puti c1 hm rfl sh_1 rfl e203 ?_
      refine jx_load c1 hm rfl rfl rfl rfl ?_
      refine jv_v c3 hm rfl pj_X10_readRun rfl rfl ⟨_, _, _, rfl, sh_1⟩ rfl ((ct_X10_readRun_1p X (by omega) M203 hH203 ).le (by decide)) (fun M206 ⟨hH206, hR206, p204, p205⟩ => ?_)
      have hF206 := hF203.tr hR206 (by decide +kernel)
      refine jx_load c1 hm rfl rfl rfl rfl ?_
      obtain ⟨z207, k208, lz207, uz207⟩ := hH206.ld (c := 1) (i := 4) (A := 0) (B := 940) (bs_19_3 _ _ (by omega) (by omega))
      refine jx_geti c1 hm rfl sh_1 rfl k208 ?_
      refine jx_load c1 hm rfl rfl rfl rfl ?_
      have k209 : M206.1 1 5 = b10 := (hR206 1 5 (by decide +kernel)).trans k203
      refine jx_geti c1 hm rfl sh_1 rfl k209 ?_
      refine jc_ne c1 hm 163 rfl rfl (fun h210 => ?_) (fun h210 => ?_)
      ·
       refine jx_load c1 hm rfl rfl rfl rfl ?_
       obtain ⟨z211, k212, lz211, uz211⟩ := hH206.ld (c := 1) (i := 6) (A := 0) (B := 4) (bs_19_4 _ _ (by omega) (by omega))
       refine jx_geti c1 hm rfl sh_1 rfl k212 ?_
       refine jy_ic c1 hm rfl (by decide) ?_
       refine jc_ne c1 hm 183 rfl rfl (fun h213 => ?_) (fun h213 => ?_)
       ·
        have k214 : M206.1 1 2 = z3 := (hR206 1 2 (by decide +kernel)).trans ((n203 1 2 (by decide)).trans k200)
        exact jx_retv c2 hm rfl rfl ⟨rfl, hH206, hF206, (fun hi => nx_run hsk (by omega) (by omega) (by omega) (by rw [k11, uC_at (by omega), ← hF7 2 (b10).toNat rfl, k161]; exact chW_no (by omega)) p204 (fun j => hF203 2 j rfl) (hF203 1 2 rfl) ((n203 1 4 (by decide)).trans (n165 1 4 (by decide))) (by omega) (fun j => hF206 2 j rfl) (hF206 1 2 rfl) (hF206 1 3 rfl) rfl ((hR206 1 5 rfl).trans (k203.trans k11.symm)) rfl rfl rfl (Or.inl ⟨by omega, ((hR206 1 7 rfl).trans (n203 1 7 (by decide))).trans k165⟩)), (((hg.eq q165).eq q203).tr p205 (by decide +kernel))⟩
       refine jx_load c1 hm rfl rfl rfl rfl ?_
       refine jx_load c1 hm rfl rfl rfl rfl ?_
       refine jx_load c1 hm rfl rfl rfl rfl ?_
       obtain ⟨w215, kw215⟩ : ∃ w, M206.2 1 8 = w := ⟨_, rfl⟩
       refine jx_getl c1 hm rfl sh_1 rfl kw215 ?_
       skip
       refine jv_i c3 hm rfl pj_X10_keyOf rfl rfl ⟨_, _, _, rfl, sh_1⟩ rfl ((ct_X10_keyOf_1p X (by omega) M206 hH206 w215).le (by decide)) (fun z216 _ ⟨rfl, lz216, uz216, p217⟩ => ?_)
       skip
       obtain ⟨M218, e218, hH218, hF218, k218, n218, q218⟩ := mup hH206 hF206 (c := 1) (i := 7) (v := z216) (A := (-1)) (B := 23) (bs_19_5 _ _ (by omega) (by omega)) ⟨by omega, by omega⟩ (jin_of 3 rfl ⟨by omega, by omega⟩)
       refine jm_puti c1 hm rfl sh_1 rfl e218 ?_
       have k219 : M218.1 1 2 = z3 := (n218 1 2 (by decide)).trans ((hR206 1 2 (by decide +kernel)).trans ((n203 1 2 (by decide)).trans k200))
       have k220 : M218.1 1 4 = z207 := (n218 1 4 (by decide)).trans k208
       exact jx_retv c2 hm rfl rfl ⟨rfl, hH218, hF218, (fun hi => nx_run hsk (by omega) (by omega) (by omega) (by rw [k11, uC_at (by omega), ← hF7 2 (b10).toNat rfl, k161]; exact chW_no (by omega)) p204 (fun j => hF203 2 j rfl) (hF203 1 2 rfl) ((n203 1 4 (by decide)).trans (n165 1 4 (by decide))) (by omega) (fun j => hF218 2 j rfl) (hF218 1 2 rfl) (hF218 1 3 rfl) (n218 1 4 (by decide)) (((n218 1 5 (by decide)).trans (hR206 1 5 rfl)).trans (k203.trans k11.symm)) (n218 1 6 (by decide)) (q218 1 8) (n218 1 9 (by decide)) (Or.inr ⟨by omega, fun r9 y1 y2 => k218.trans (p217 r9 y1 (by rw [← kw215]; exact y2))⟩)), ((((hg.eq q165).eq q203).tr p205 (by decide +kernel)).eq q218)⟩
      refine jx_load c1 hm rfl rfl rfl rfl ?_
      have k221 : M206.1 1 2 = z3 := (hR206 1 2 (by decide +kernel)).trans ((n203 1 2 (by decide)).trans k200)
      refine jv_v c3 hm rfl pj_X10_readSign rfl rfl ⟨_, _, _, rfl, sh_1⟩ rfl ((ct_X10_readSign_1p X (by omega) M206 hH206 (by omega)).le (by decide)) (fun M224 ⟨hH224, hR224, p222, p223⟩ => ?_)
      have hF224 := hF206.tr hR224 (by decide +kernel)
      refine jx_goto c1 hm 183 rfl rfl ?_
      have k225 : M224.1 1 2 = z3 := (hR224 1 2 (by decide +kernel)).trans k221
      obtain ⟨z226, k227, lz226, uz226⟩ := hH224.ld (c := 1) (i := 4) (A := 0) (B := 940) (bs_19_3 _ _ (by omega) (by omega))
      exact jx_retv c2 hm rfl rfl ⟨rfl, hH224, hF224, (fun hi => nx_sgn hsk (by omega) (by omega) (by omega) (by omega) (by rw [k11, uC_at (by omega), ← hF7 2 (b10).toNat rfl, k161]; exact chW_no (by omega)) p204 (fun j => hF203 2 j rfl) (hF203 1 2 rfl) ((n203 1 4 (by decide)).trans (n165 1 4 (by decide))) (by omega) p222 (fun j => hF206 2 j rfl) (by rw [k11, ← hF7 2 (b10).toNat rfl, k161]; omega) (fun j => hF224 2 j rfl) (hF224 1 2 rfl) (hF224 1 3 rfl) (((hR224 1 5 rfl).trans (hR206 1 5 rfl)).trans (k203.trans k11.symm)) ((((hR224 1 7 rfl).trans (hR206 1 7 rfl)).trans (n203 1 7 (by decide))).trans k165)), ((((hg.eq q165).eq q203).tr p205 (by decide +kernel)).tr p223 (by decide +kernel))⟩
     refine jx_load c1 hm rfl rfl rfl rfl ?_
     refine jx_load c1 hm rfl rfl rfl rfl ?_
     refine jx_geti c1 hm rfl sh_1 rfl k200 ?_
     obtain ⟨M228, e228, hH228, hF228, k228, n228, q228⟩ := mup hH165 hF165 (c := 1) (i := 5) (v := z3) (A := 0) (B := 940) (bs_19_3 _ _ (by omega) (by omega)) ⟨by omega, by omega⟩ (jin_of 1 rfl ⟨by omega, by omega⟩)
     refine jm_puti c1 hm rfl sh_1 rfl e228 ?_
     refine jx_load c1 hm rfl rfl rfl rfl ?_
     refine jy_ic c1 hm rfl (by decide) ?_
     obtain ⟨M229, e229, hH229, hF229, k229, n229, q229⟩ := mup hH228 hF228 (c := 1) (i := 6) (v := 0) (A := 0) (B := 4) (bs_19_4 _ _ (by omega) (by omega)) ⟨by omega, by omega⟩ (jin_of 2 rfl ⟨by omega, by omega⟩)
     refine jm_puti c1 hm rfl sh_1 rfl e229 ?_
     refine jx_goto c1 hm 183 rfl rfl ?_
     have k230 : M229.1 1 2 = z3 := (n229 1 2 (by decide)).trans ((n228 1 2 (by decide)).trans k200)
     have k231 : M229.1 1 4 = b10 := (n229 1 4 (by decide)).trans ((n228 1 4 (by decide)).trans k166)
     exact jx_retv c2 hm rfl rfl ⟨rfl, hH229, hF229, (fun hi => nx_end hsk (by omega) hi (by omega) (by omega) (fun j => hF229 2 j rfl) (hF229 1 2 rfl) (hF229 1 3 rfl) k229 ((n229 1 5 (by decide)).trans (k228.trans (by omega))) (((n229 1 7 (by decide)).trans (n228 1 7 (by decide))).trans k165)), (((hg.eq q165).eq q228).eq q229)⟩
    refine jx_load c1 hm rfl rfl rfl rfl ?_
    refine jx_load c1 hm rfl rfl rfl rfl ?_
    refine jx_geti c1 hm rfl sh_1 rfl k167 ?_
    obtain ⟨M232, e232, hH232, hF232, k232, n232, q232⟩ := mup hH165 hF165 (c := 1) (i := 5) (v := z5) (A := 0) (B := 940) (bs_19_3 _ _ (by omega) (by omega)) ⟨by omega, by omega⟩ (jin_of 1 rfl ⟨by omega, by omega⟩)
    refine jm_puti c1 hm rfl sh_1 rfl e232 ?_
    refine jx_load c1 hm rfl rfl rfl rfl ?_
    refine jy_ic c1 hm rfl (by decide) ?_
    obtain ⟨M233, e233, hH233, hF233, k233, n233, q233⟩ := mup hH232 hF232 (c := 1) (i := 6) (v := 4) (A := 0) (B := 4) (bs_19_4 _ _ (by omega) (by omega)) ⟨by omega, by omega⟩ (jin_of 2 rfl ⟨by omega, by omega⟩)
    refine jm_puti c1 hm rfl sh_1 rfl e233 ?_
    refine jx_goto c1 hm 183 rfl rfl ?_
    have k234 : M233.1 1 2 = z3 := (n233 1 2 (by decide)).trans ((n232 1 2 (by decide)).trans k200)
    have k235 : M233.1 1 4 = b10 := (n233 1 4 (by decide)).trans ((n232 1 4 (by decide)).trans k166)
    exact jx_retv c2 hm rfl rfl ⟨rfl, hH233, hF233, (fun hi => nx_out hsk (by omega) (by omega) (by omega) (fun j => hF233 2 j rfl) (hF233 1 2 rfl) (hF233 1 3 rfl) k233 ((n233 1 5 (by decide)).trans (k232.trans (by omega))) (((n233 1 7 (by decide)).trans (n232 1 7 (by decide))).trans k165)), (((hg.eq q165).eq q232).eq q233)⟩
   refine jx_load c1 hm rfl rfl rfl rfl ?_
   refine jx_dup c1 hm rfl rfl ?_
   refine jx_geti c1 hm rfl sh_1 rfl k11 ?_
   refine jy_ic c1 hm rfl (by decide) ?_
   refine jy_add c1 hm (b10 + 1) rfl (by omega) ?_
   obtain ⟨M236, e236, hH236, hF236, k236, n236, q236⟩ := mup hH7 hF7 (c := 1) (i := 4) (v := (b10 + 1)) (A := 0) (B := 940) (bs_19_3 _ _ (by omega) (by omega)) ⟨by omega, by omega⟩ (jin_of 0 rfl ⟨by omega, by omega⟩)
   refine jm_puti c1 hm rfl sh_1 rfl e236 ?_
   refine jx_goto c1 hm 0 rfl rfl ?_
   have k239 : M236.1 1 2 = z3 := (n236 1 2 (by decide)).trans k8
   have k240 : M236.1 1 3 = z5 := (n236 1 3 (by decide)).trans k9
   exact ihW14 M236 hH236 hF236 k239 k240 (b10 + 1) (by omega) k236 (SKI.cg (SKI.st (b := z160) hsk (by omega) (by omega) (by omega) (by rw [k11, ← hF7 2 (b10).toNat rfl]; exact k161) (by omega)) (by omega)) (hg.eq q236) (by omega)
 exact W14 ((-z1 + 940) + 1 : Int).toNat M0 hH0 hF0 k4 k6 z1 (by omega) k2 SKI.start (LFr.rf _ _) (by omega)
theorem ct_X10_isSign_1p (X : Int) (hX : 0 ≤ X ∧ X ≤ 100000000) (M0 : JM) (hH0 : HI X M0) (a0 : Int) (ha0 : (-2147483648) ≤ a0 ∧ a0 ≤ 2147483647) : JOk shp PJ 1 15 [.inr (.inr (.inl 1)), .inl a0] M0 (jRi (fun v M' => M0 = M' ∧ 0 ≤ v ∧ v ≤ 1 ∧ (v = 1 → M0.1 1 6 = 3 ∧ M0.1 1 9 = a0) ∧ (v = 1 ∨ M0.1 1 6 ≠ 3 ∨ M0.1 1 9 ≠ a0))) := by
 refine ⟨jr_X10_isSign, pj_X10_isSign, fun F c1 c2 c3 => ?_⟩
 have hm := pj_X10_isSign
 change F 0 [some (.inr (.inr (.inl 1))), some (.inl a0)] [] M0
 obtain ⟨z1, k2, lz1, uz1⟩ := hH0.ld (c := 1) (i := 6) (A := 0) (B := 4) (bs_19_4 _ _ (by omega) (by omega))
 obtain ⟨z3, k4, lz3, uz3⟩ := hH0.ld (c := 1) (i := 9) (A := (-2147483648)) (B := 2147483647) (bs_19_6 _ _ (by omega) (by omega))
 refine jx_load c1 hm rfl rfl rfl rfl ?_
 refine jx_geti c1 hm rfl sh_1 rfl k2 ?_
 refine jy_ic c1 hm rfl (by decide) ?_
 refine jc_ne c1 hm 20 rfl rfl (fun h5 => ?_) (fun h5 => ?_)
 ·
  refine jy_ic c1 hm rfl (by decide) ?_
  exact jx_retz c2 hm rfl rfl ⟨by omega, by omega⟩ ⟨_, rfl, rfl, by omega, by omega, (by omega), (by omega)⟩
 refine jx_load c1 hm rfl rfl rfl rfl ?_
 refine jx_geti c1 hm rfl sh_1 rfl k4 ?_
 refine jx_load c1 hm rfl rfl rfl rfl ?_
 refine jc_ne c1 hm 20 rfl rfl (fun h6 => ?_) (fun h6 => ?_)
 ·
  refine jy_ic c1 hm rfl (by decide) ?_
  exact jx_retz c2 hm rfl rfl ⟨by omega, by omega⟩ ⟨_, rfl, rfl, by omega, by omega, (by omega), (by omega)⟩
 refine jy_ic c1 hm rfl (by decide) ?_
 refine jx_goto c1 hm 21 rfl rfl ?_
 exact jx_retz c2 hm rfl rfl ⟨by omega, by omega⟩ ⟨_, rfl, rfl, by omega, by omega, (by omega), (by omega)⟩
def ml_X10_fails_1p : List (Nat × (Nat × Nat)) := []
def md_X10_fails_1p : List (Nat × (Nat × Nat)) := [(1, (12, 12)), (1, (13, 13))]
theorem ct_X10_fails_1p (X : Int) (hX : 0 ≤ X ∧ X ≤ 100000000) (M0 : JM) (hH0 : HI X M0) (a0 : Int) (ha0 : 1 ≤ a0 ∧ a0 ≤ 4) (a1 : Int) (ha1 : 0 ≤ a1 ∧ a1 ≤ 940) : JOk shp PJ 1 14 [.inr (.inr (.inl 1)), .inl a0, .inl a1] M0 (jRi (fun v M' => HI X M' ∧ Fr md_X10_fails_1p M0 M' ∧ 0 ≤ v ∧ v ≤ 1 ∧ (v = 0) ∧ (v = 0) ∧ (M'.1 1 12 = a0) ∧ (M'.1 1 13 = a1) ∧ (LFr ml_X10_fails_1p M0 M'))) := by
 refine ⟨jr_X10_fails, pj_X10_fails, fun F c1 c2 c3 => ?_⟩
 have hm := pj_X10_fails
 change F 0 [some (.inr (.inr (.inl 1))), some (.inl a0), some (.inl a1)] [] M0
 have hF0 : Fr md_X10_fails_1p M0 M0 := Fr.rf _ _
 refine jx_load c1 hm rfl rfl rfl rfl ?_
 refine jx_load c1 hm rfl rfl rfl rfl ?_
 obtain ⟨M1, e1, hH1, hF1, k1, n1, q1⟩ := mup hH0 hF0 (c := 1) (i := 12) (v := a0) (A := 0) (B := 4) (bs_19_8 _ _ (by omega) (by omega)) ⟨by omega, by omega⟩ (jin_of 0 rfl ⟨by omega, by omega⟩)
 refine jm_puti c1 hm rfl sh_1 rfl e1 ?_
 refine jx_load c1 hm rfl rfl rfl rfl ?_
 refine jx_load c1 hm rfl rfl rfl rfl ?_
 obtain ⟨M2, e2, hH2, hF2, k2, n2, q2⟩ := mup hH1 hF1 (c := 1) (i := 13) (v := a1) (A := 0) (B := 940) (bs_19_9 _ _ (by omega) (by omega)) ⟨by omega, by omega⟩ (jin_of 1 rfl ⟨by omega, by omega⟩)
 refine jm_puti c1 hm rfl sh_1 rfl e2 ?_
 refine jy_ic c1 hm rfl (by decide) ?_
 have k3 : M2.1 1 12 = a0 := (n2 1 12 (by decide)).trans k1
 exact jx_retz c2 hm rfl rfl ⟨by omega, by omega⟩ ⟨_, rfl, hH2, hF2, by omega, by omega, (by omega), (by omega), (by omega), (by omega), (((LFr.rf _ _).eq q1).eq q2)⟩
def ml_X10_takesSign_1p : List (Nat × (Nat × Nat)) := [(1, (8, 8))]
def md_X10_takesSign_1p : List (Nat × (Nat × Nat)) := [(1, (4, 4)), (1, (5, 5)), (1, (6, 6)), (1, (7, 7)), (1, (9, 9)), (1, (12, 12)), (1, (13, 13))]
theorem ct_X10_takesSign_1p (X : Int) (hX : 0 ≤ X ∧ X ≤ 100000000) (M0 : JM) (hH0 : HI X M0) (a0 : Int) (ha0 : (-2147483648) ≤ a0 ∧ a0 ≤ 2147483647) : JOk shp PJ 3 24 [.inr (.inr (.inl 1)), .inl a0] M0 (jRi (fun v M' => HI X M' ∧ Fr md_X10_takesSign_1p M0 M' ∧ 0 ≤ v ∧ v ≤ 1 ∧ (∀ (t : TXT) (σ : PSt), CS M0 t σ → LRc t (sgnS t a0 σ) v M') ∧ (LFr ml_X10_takesSign_1p M0 M'))) := by
 refine ⟨jr_X10_takesSign, pj_X10_takesSign, fun F c1 c2 c3 => ?_⟩
 have hm := pj_X10_takesSign
 change F 0 [some (.inr (.inr (.inl 1))), some (.inl a0)] [] M0
 have hF0 : Fr md_X10_takesSign_1p M0 M0 := Fr.rf _ _
 refine jx_load c1 hm rfl rfl rfl rfl ?_
 refine jx_load c1 hm rfl rfl rfl rfl ?_
 obtain ⟨z1, k2, lz1, uz1⟩ := hH0.ld (c := 1) (i := 6) (A := 0) (B := 4) (bs_19_4 _ _ (by omega) (by omega))
 obtain ⟨z3, k4, lz3, uz3⟩ := hH0.ld (c := 1) (i := 9) (A := (-2147483648)) (B := 2147483647) (bs_19_6 _ _ (by omega) (by omega))
 refine jv_i c3 hm rfl pj_X10_isSign rfl rfl ⟨_, _, _, rfl, sh_1⟩ rfl ((ct_X10_isSign_1p X (by omega) M0 hH0 a0 ⟨by omega, by omega⟩).le (by decide)) (fun z5 _ ⟨rfl, lz5, uz5, p6, p7⟩ => ?_)
 refine jz_ne c1 hm 18 rfl rfl (fun h8 => ?_) (fun h8 => ?_)
 ·
  refine jx_load c1 hm rfl rfl rfl rfl ?_
  obtain ⟨z9, k10, lz9, uz9⟩ := hH0.ld (c := 1) (i := 2) (A := 0) (B := 940) (bs_19_1 _ _ (by omega) (by omega))
  obtain ⟨z11, k12, lz11, uz11⟩ := hH0.ld (c := 1) (i := 4) (A := 0) (B := 940) (bs_19_3 _ _ (by omega) (by omega))
  refine jv_v c3 hm rfl pj_X10_next rfl rfl ⟨_, _, _, rfl, sh_1⟩ rfl ((ct_X10_next_1p X (by omega) M0 hH0 ).le (by decide)) (fun M15 ⟨hH15, hR15, p13, p14⟩ => ?_)
  have hF15 := hF0.tr hR15 (by decide +kernel)
  refine jy_ic c1 hm rfl (by decide) ?_
  exact jx_retz c2 hm rfl rfl ⟨by omega, by omega⟩ ⟨_, rfl, hH15, hF15, by omega, by omega, (fun t σ hσ => sgn_go hσ (by omega) (by omega) rfl p13 (hR15 1 12 rfl) hR15 p14 (by decide +kernel)), ((LFr.rf _ _).tr p14 (by decide +kernel))⟩
 refine jx_load c1 hm rfl rfl rfl rfl ?_
 refine jy_ic c1 hm rfl (by decide) ?_
 refine jx_load c1 hm rfl rfl rfl rfl ?_
 obtain ⟨z16, k17, lz16, uz16⟩ := hH0.ld (c := 1) (i := 5) (A := 0) (B := 940) (bs_19_3 _ _ (by omega) (by omega))
 refine jx_geti c1 hm rfl sh_1 rfl k17 ?_
 refine jv_i c3 hm rfl pj_X10_fails rfl rfl ⟨_, _, _, rfl, sh_1⟩ rfl ((ct_X10_fails_1p X (by omega) M0 hH0 1 ⟨by omega, by omega⟩ z16 ⟨by omega, by omega⟩).le (by decide)) (fun z18 M24 ⟨hH24, hR24, lz18, uz18, p19, p20, p21, p22, p23⟩ => ?_)
 have hF24 := hF0.tr hR24 (by decide +kernel)
 obtain ⟨z25, k26, lz25, uz25⟩ := hH24.ld (c := 1) (i := 12) (A := 0) (B := 4) (bs_19_8 _ _ (by omega) (by omega))
 obtain ⟨z27, k28, lz27, uz27⟩ := hH24.ld (c := 1) (i := 13) (A := 0) (B := 940) (bs_19_9 _ _ (by omega) (by omega))
 exact jx_retz c2 hm rfl rfl ⟨by omega, by omega⟩ ⟨_, rfl, hH24, hF24, by omega, by omega, (fun t σ hσ => sgn_no hσ (by omega) (by omega) (by omega) (by omega)), ((LFr.rf _ _).tr p23 (by decide +kernel))⟩
def ml_X10_takesNumber_1p : List (Nat × (Nat × Nat)) := [(1, (8, 8))]
def md_X10_takesNumber_1p : List (Nat × (Nat × Nat)) := [(1, (4, 4)), (1, (5, 5)), (1, (6, 6)), (1, (7, 7)), (1, (9, 9)), (1, (11, 11)), (1, (12, 12)), (1, (13, 13))]
theorem ct_X10_takesNumber_1p (X : Int) (hX : 0 ≤ X ∧ X ≤ 100000000) (M0 : JM) (hH0 : HI X M0) (a0 : Int) (ha0 : 0 ≤ a0 ∧ a0 ≤ 1) (a1 : Int) (ha1 : 0 ≤ a1 ∧ a1 ≤ 999) : JOk shp PJ 3 23 [.inr (.inr (.inl 1)), .inl a0, .inl a1] M0 (jRi (fun v M' => HI X M' ∧ Fr md_X10_takesNumber_1p M0 M' ∧ 0 ≤ v ∧ v ≤ 1 ∧ (v = 1 → a0 ≤ M'.1 1 11 ∧ M'.1 1 11 ≤ a1) ∧ (∀ (t : TXT) (σ : PSt), CS M0 t σ → LRc t (numS t a0 a1 σ) v M') ∧ (∀ (t : TXT) (σ : PSt), CS M0 t σ → v = 1 → M'.1 1 11 = kV t σ) ∧ (LFr ml_X10_takesNumber_1p M0 M'))) := by
 refine ⟨jr_X10_takesNumber, pj_X10_takesNumber, fun F c1 c2 c3 => ?_⟩
 have hm := pj_X10_takesNumber
 change F 0 [some (.inr (.inr (.inl 1))), some (.inl a0), some (.inl a1)] [] M0
 have hF0 : Fr md_X10_takesNumber_1p M0 M0 := Fr.rf _ _
 refine jx_load c1 hm rfl rfl rfl rfl ?_
 obtain ⟨z1, k2, lz1, uz1⟩ := hH0.ld (c := 1) (i := 6) (A := 0) (B := 4) (bs_19_4 _ _ (by omega) (by omega))
 refine jx_geti c1 hm rfl sh_1 rfl k2 ?_
 refine jy_ic c1 hm rfl (by decide) ?_
 refine jc_eq c1 hm 18 rfl rfl (fun h3 => ?_) (fun h3 => ?_)
 ·
  refine jx_load c1 hm rfl rfl rfl rfl ?_
  obtain ⟨z4, k5, lz4, uz4⟩ := hH0.ld (c := 1) (i := 9) (A := (-2147483648)) (B := 2147483647) (bs_19_6 _ _ (by omega) (by omega))
  refine jx_geti c1 hm rfl sh_1 rfl k5 ?_
  refine jx_load c1 hm rfl rfl rfl rfl ?_
  refine jc_lt c1 hm 34 rfl rfl (fun h6 => ?_) (fun h6 => ?_)
  ·
   refine jx_load c1 hm rfl rfl rfl rfl ?_
   refine jy_ic c1 hm rfl (by decide) ?_
   refine jx_load c1 hm rfl rfl rfl rfl ?_
   obtain ⟨z7, k8, lz7, uz7⟩ := hH0.ld (c := 1) (i := 5) (A := 0) (B := 940) (bs_19_3 _ _ (by omega) (by omega))
   refine jx_geti c1 hm rfl sh_1 rfl k8 ?_
   refine jv_i c3 hm rfl pj_X10_fails rfl rfl ⟨_, _, _, rfl, sh_1⟩ rfl ((ct_X10_fails_1p X (by omega) M0 hH0 2 ⟨by omega, by omega⟩ z7 ⟨by omega, by omega⟩).le (by decide)) (fun z9 M15 ⟨hH15, hR15, lz9, uz9, p10, p11, p12, p13, p14⟩ => ?_)
   have hF15 := hF0.tr hR15 (by decide +kernel)
   obtain ⟨z16, k17, lz16, uz16⟩ := hH15.ld (c := 1) (i := 12) (A := 0) (B := 4) (bs_19_8 _ _ (by omega) (by omega))
   obtain ⟨z18, k19, lz18, uz18⟩ := hH15.ld (c := 1) (i := 13) (A := 0) (B := 940) (bs_19_9 _ _ (by omega) (by omega))
   obtain ⟨z20, k21, lz20, uz20⟩ := hH15.ld (c := 1) (i := 11) (A := 0) (B := 999) (bs_19_7 _ _ (by omega) (by omega))
   exact jx_retz c2 hm rfl rfl ⟨by omega, by omega⟩ ⟨_, rfl, hH15, hF15, by omega, by omega, (by omega), (fun t σ hσ => num_no hσ (by omega) (by omega) (by omega) (by omega)), (fun t σ hσ y => absurd y (by omega)), ((LFr.rf _ _).tr p14 (by decide +kernel))⟩
  refine jx_load c1 hm rfl rfl rfl rfl ?_
  refine jx_geti c1 hm rfl sh_1 rfl k5 ?_
  refine jx_load c1 hm rfl rfl rfl rfl ?_
  refine jc_le c1 hm 44 rfl rfl (fun h22 => ?_) (fun h22 => ?_)
  ·
   refine jx_load c1 hm rfl rfl rfl rfl ?_
   refine jx_load c1 hm rfl rfl rfl rfl ?_
   refine jx_geti c1 hm rfl sh_1 rfl k5 ?_
   skip
   obtain ⟨M23, e23, hH23, hF23, k23, n23, q23⟩ := mup hH0 hF0 (c := 1) (i := 11) (v := z4) (A := 0) (B := 999) (bs_19_7 _ _ (by omega) (by omega)) ⟨by omega, by omega⟩ (jin_of 5 rfl ⟨by omega, by omega⟩)
   refine jm_puti c1 hm rfl sh_1 rfl e23 ?_
   refine jx_load c1 hm rfl rfl rfl rfl ?_
   obtain ⟨z24, k25, lz24, uz24⟩ := hH23.ld (c := 1) (i := 2) (A := 0) (B := 940) (bs_19_1 _ _ (by omega) (by omega))
   obtain ⟨z26, k27, lz26, uz26⟩ := hH23.ld (c := 1) (i := 4) (A := 0) (B := 940) (bs_19_3 _ _ (by omega) (by omega))
   refine jv_v c3 hm rfl pj_X10_next rfl rfl ⟨_, _, _, rfl, sh_1⟩ rfl ((ct_X10_next_1p X (by omega) M23 hH23 ).le (by decide)) (fun M30 ⟨hH30, hR30, p28, p29⟩ => ?_)
   have hF30 := hF23.tr hR30 (by decide +kernel)
   refine jy_ic c1 hm rfl (by decide) ?_
   have k31 : M30.1 1 11 = z4 := (hR30 1 11 (by decide +kernel)).trans k23
   exact jx_retz c2 hm rfl rfl ⟨by omega, by omega⟩ ⟨_, rfl, hH30, hF30, by omega, by omega, (by omega), (fun t σ hσ => num_go hσ (by omega) ⟨by omega, by omega⟩ (CS.put rfl hσ n23 q23) rfl p28 (hR30 1 12 rfl) hR30 p29 (by decide +kernel)), (fun t σ hσ _ => ((hR30 1 11 rfl).trans k23).trans (k5.symm.trans (hσ.val (by have y9 := hσ.kind; omega)))), (((LFr.rf _ _).eq q23).tr p29 (by decide +kernel))⟩
  refine jx_load c1 hm rfl rfl rfl rfl ?_
  refine jy_ic c1 hm rfl (by decide) ?_
  refine jx_load c1 hm rfl rfl rfl rfl ?_
  obtain ⟨z32, k33, lz32, uz32⟩ := hH0.ld (c := 1) (i := 5) (A := 0) (B := 940) (bs_19_3 _ _ (by omega) (by omega))
  refine jx_geti c1 hm rfl sh_1 rfl k33 ?_
  refine jv_i c3 hm rfl pj_X10_fails rfl rfl ⟨_, _, _, rfl, sh_1⟩ rfl ((ct_X10_fails_1p X (by omega) M0 hH0 2 ⟨by omega, by omega⟩ z32 ⟨by omega, by omega⟩).le (by decide)) (fun z34 M40 ⟨hH40, hR40, lz34, uz34, p35, p36, p37, p38, p39⟩ => ?_)
  have hF40 := hF0.tr hR40 (by decide +kernel)
  obtain ⟨z41, k42, lz41, uz41⟩ := hH40.ld (c := 1) (i := 12) (A := 0) (B := 4) (bs_19_8 _ _ (by omega) (by omega))
  obtain ⟨z43, k44, lz43, uz43⟩ := hH40.ld (c := 1) (i := 13) (A := 0) (B := 940) (bs_19_9 _ _ (by omega) (by omega))
  obtain ⟨z45, k46, lz45, uz45⟩ := hH40.ld (c := 1) (i := 11) (A := 0) (B := 999) (bs_19_7 _ _ (by omega) (by omega))
  exact jx_retz c2 hm rfl rfl ⟨by omega, by omega⟩ ⟨_, rfl, hH40, hF40, by omega, by omega, (by omega), (fun t σ hσ => num_no hσ (by omega) (by omega) (by omega) (by omega)), (fun t σ hσ y => absurd y (by omega)), ((LFr.rf _ _).tr p39 (by decide +kernel))⟩
 refine jx_load c1 hm rfl rfl rfl rfl ?_
 refine jy_ic c1 hm rfl (by decide) ?_
 refine jx_load c1 hm rfl rfl rfl rfl ?_
 obtain ⟨z47, k48, lz47, uz47⟩ := hH0.ld (c := 1) (i := 5) (A := 0) (B := 940) (bs_19_3 _ _ (by omega) (by omega))
 refine jx_geti c1 hm rfl sh_1 rfl k48 ?_
 refine jv_i c3 hm rfl pj_X10_fails rfl rfl ⟨_, _, _, rfl, sh_1⟩ rfl ((ct_X10_fails_1p X (by omega) M0 hH0 1 ⟨by omega, by omega⟩ z47 ⟨by omega, by omega⟩).le (by decide)) (fun z49 M55 ⟨hH55, hR55, lz49, uz49, p50, p51, p52, p53, p54⟩ => ?_)
 have hF55 := hF0.tr hR55 (by decide +kernel)
 obtain ⟨z56, k57, lz56, uz56⟩ := hH55.ld (c := 1) (i := 12) (A := 0) (B := 4) (bs_19_8 _ _ (by omega) (by omega))
 obtain ⟨z58, k59, lz58, uz58⟩ := hH55.ld (c := 1) (i := 13) (A := 0) (B := 940) (bs_19_9 _ _ (by omega) (by omega))
 obtain ⟨z60, k61, lz60, uz60⟩ := hH55.ld (c := 1) (i := 11) (A := 0) (B := 999) (bs_19_7 _ _ (by omega) (by omega))
 exact jx_retz c2 hm rfl rfl ⟨by omega, by omega⟩ ⟨_, rfl, hH55, hF55, by omega, by omega, (by omega), (fun t σ hσ => num_no hσ (by omega) (by omega) (by omega) (by omega)), (fun t σ hσ y => absurd y (by omega)), ((LFr.rf _ _).tr p54 (by decide +kernel))⟩
theorem ct_X2_placeOf_27p (X : Int) (hX : 0 ≤ X ∧ X ≤ 100000000) (M0 : JM) (hH0 : HI X M0) (a0 : Int64) : JOk shp PJ 1 221 [.inr (.inr (.inl 27)), .inr (.inl a0)] M0 (jRi (fun v M' => M0 = M' ∧ (-1) ≤ v ∧ v ≤ 17 ∧ (∀ (t : TXT) (σ : PSt), DR M0 σ → PI t σ → ∀ r : Int, wok 7 r → a0.toInt = cw r → v = fndS σ r))) := by
 refine ⟨jr_X2_placeOf, pj_X2_placeOf, fun F c1 c2 c3 => ?_⟩
 have hm := pj_X2_placeOf
 change F 0 [some (.inr (.inr (.inl 27))), some (.inr (.inl a0)), none, none, none] [] M0
 refine jy_ic c1 hm rfl (by decide) ?_
 refine jx_stor c1 hm (L' := [some (.inr (.inr (.inl 27))), some (.inr (.inl a0)), none, some (.inl 0), none]) rfl rfl rfl rfl rfl ?_
 have W4 : ∀ (n5 : Nat) (b1 : Int) (hb1 : 0 ≤ b1 ∧ b1 ≤ 3) (o2 : Option JV) (ho2 : o2 = none ∨ (∃ z, o2 = some (.inl z)) ∨ ∃ r, o2 = some (.inr (.inr r))) (hfo : FNI M0 a0 (6 * b1)), (-b1 + 3) < (n5 : Int) → F 2 [some (.inr (.inr (.inl 27))), some (.inr (.inl a0)), none, some (.inl b1), o2] [] M0 := by
  intro n5
  induction n5 with
  | zero => intros; omega
  | succ n5 ihW4 =>
   intro b1 hb1 o2 ho2 hfo hrW4
   refine jx_load c1 hm rfl rfl rfl rfl ?_
   refine jy_ic c1 hm rfl (by decide) ?_
   refine jc_ge c1 hm 58 rfl rfl (fun h6 => ?_) (fun h6 => ?_)
   ·
    refine jy_ic c1 hm rfl (by decide) ?_
    exact jx_reti c2 hm rfl rfl ⟨_, rfl, rfl, by omega, by omega, (FNI.none hfo (by omega))⟩
   refine jy_ic c1 hm rfl (by decide) ?_
   refine jx_stor c1 hm (L' := [some (.inr (.inr (.inl 27))), some (.inr (.inl a0)), none, some (.inl b1), some (.inl 0)]) rfl rfl rfl rfl rfl ?_
   have W9 : ∀ (n10 : Nat) (b7 : Int) (hb7 : 0 ≤ b7 ∧ b7 ≤ 6) (hfi : FNI M0 a0 (6 * b1 + b7)), (-b7 + 6) < (n10 : Int) → F 10 [some (.inr (.inr (.inl 27))), some (.inr (.inl a0)), none, some (.inl b1), some (.inl b7)] [] M0 := by
    intro n10
    induction n10 with
    | zero => intros; omega
    | succ n10 ihW9 =>
     intro b7 hb7 hfi hrW9
     refine jx_load c1 hm rfl rfl rfl rfl ?_
     refine jx_load c1 hm rfl rfl rfl rfl ?_
     refine jx_getr c1 hm rfl sh_27 rfl ?_
     refine jx_load c1 hm rfl rfl rfl rfl ?_
     obtain ⟨z11, k12, lz11, uz11⟩ := hH0.ld (c := 28) (i := (b1).toNat) (A := 0) (B := 6) rfl
     refine jx_iald c1 hm rfl sh_28 ⟨by omega, by omega⟩ k12 ?_
     refine jc_ge c1 hm 52 rfl rfl (fun h13 => ?_) (fun h13 => ?_)
     ·
      refine jx_iinc c1 hm (v := (b1 + 1)) (L' := [some (.inr (.inr (.inl 27))), some (.inr (.inl a0)), none, some (.inl (b1 + 1)), some (.inl b7)]) rfl rfl (by omega) (by omega) rfl ?_
      refine jx_goto c1 hm 2 rfl rfl ?_
      exact ihW4 (b1 + 1) (by omega) (some (.inl b7)) (Or.inr (Or.inl ⟨_, rfl⟩)) (FNI.done hfi ⟨by omega, by omega⟩ ⟨by omega, by omega⟩ (by omega)) (by omega)
     refine jx_load c1 hm rfl rfl rfl rfl ?_
     refine jx_getr c1 hm rfl sh_27 rfl ?_
     refine jx_load c1 hm rfl rfl rfl rfl ?_
     refine jy_bp c1 hm rfl (by decide) ?_
     refine jy_mul c1 hm (6 * b1) rfl (by omega) ?_
     refine jx_load c1 hm rfl rfl rfl rfl ?_
     refine jy_add c1 hm (6 * b1 + b7) rfl (by omega) ?_
     obtain ⟨w14, kw14⟩ : ∃ w, M0.2 29 ((6 * b1 + b7)).toNat = w := ⟨_, rfl⟩
     refine jx_lald c1 hm rfl sh_29 ⟨by omega, by omega⟩ kw14 ?_
     skip
     refine jx_load c1 hm rfl rfl rfl rfl ?_
     refine jx_lcmp c1 hm rfl (fun z15 lz15 uz15 ez15 fz15 => ?_)
     skip
     refine jz_ne c1 hm 46 rfl rfl (fun h16 => ?_) (fun h16 => ?_)
     ·
      refine jx_iinc c1 hm (v := (b7 + 1)) (L' := [some (.inr (.inr (.inl 27))), some (.inr (.inl a0)), none, some (.inl b1), some (.inl (b7 + 1))]) rfl rfl (by omega) (by omega) rfl ?_
      refine jx_goto c1 hm 10 rfl rfl ?_
      exact ihW9 (b7 + 1) (by omega) (FNI.st hfi ⟨by omega, by omega⟩ ⟨by omega, by omega⟩ (Or.inr (fun e9 => absurd (ez15.mpr (kw14.symm.trans e9)) (by omega)))) (by omega)
     refine jx_load c1 hm rfl rfl rfl rfl ?_
     refine jy_bp c1 hm rfl (by decide) ?_
     refine jy_mul c1 hm (6 * b1) rfl (by omega) ?_
     refine jx_load c1 hm rfl rfl rfl rfl ?_
     refine jy_add c1 hm (6 * b1 + b7) rfl (by omega) ?_
     exact jx_reti c2 hm rfl rfl ⟨_, rfl, rfl, by omega, by omega, (FNI.hit hfi ⟨by omega, by omega⟩ ⟨by omega, by omega⟩ (by omega) (kw14.trans (ez15.mp (by omega))))⟩
   exact W9 (6 + 1 : Int).toNat 0 (by omega) (hfo.cg (by omega)) (by omega)
 exact W4 (3 + 1 : Int).toNat 0 (by omega) none (Or.inl rfl) FNI.start (by omega)
def ml_X10_takesNewName_1_27p : List (Nat × (Nat × Nat)) := [(1, (8, 8)), (1, (10, 10))]
def md_X10_takesNewName_1_27p : List (Nat × (Nat × Nat)) := [(1, (4, 4)), (1, (5, 5)), (1, (6, 6)), (1, (7, 7)), (1, (9, 9)), (1, (12, 12)), (1, (13, 13))]
theorem ct_X10_takesNewName_1_27p (X : Int) (hX : 0 ≤ X ∧ X ≤ 100000000) (M0 : JM) (hH0 : HI X M0)  : JOk shp PJ 3 22 [.inr (.inr (.inl 1)), .inr (.inr (.inl 27))] M0 (jRi (fun v M' => HI X M' ∧ Fr md_X10_takesNewName_1_27p M0 M' ∧ 0 ≤ v ∧ v ≤ 1 ∧ (∀ (t : TXT) (σ : PSt) (s : Nat), s < 3 → CS M0 t σ → σ.2.1 s < 6 → LRc t (newS t s σ) v M') ∧ (∀ (t : TXT) (σ : PSt), CS M0 t σ → v = 1 → kK t σ = 2 ∧ fndS σ (kV t σ) < 0 ∧ (M'.2 1 10).toInt = cw (kV t σ)) ∧ (LFr ml_X10_takesNewName_1_27p M0 M'))) := by
 refine ⟨jr_X10_takesNewName, pj_X10_takesNewName, fun F c1 c2 c3 => ?_⟩
 have hm := pj_X10_takesNewName
 change F 0 [some (.inr (.inr (.inl 1))), some (.inr (.inr (.inl 27)))] [] M0
 have hF0 : Fr md_X10_takesNewName_1_27p M0 M0 := Fr.rf _ _
 refine jx_load c1 hm rfl rfl rfl rfl ?_
 obtain ⟨z1, k2, lz1, uz1⟩ := hH0.ld (c := 1) (i := 6) (A := 0) (B := 4) (bs_19_4 _ _ (by omega) (by omega))
 refine jx_geti c1 hm rfl sh_1 rfl k2 ?_
 refine jy_ic c1 hm rfl (by decide) ?_
 refine jc_ne c1 hm 16 rfl rfl (fun h3 => ?_) (fun h3 => ?_)
 ·
  refine jx_load c1 hm rfl rfl rfl rfl ?_
  refine jy_ic c1 hm rfl (by decide) ?_
  refine jx_load c1 hm rfl rfl rfl rfl ?_
  obtain ⟨z4, k5, lz4, uz4⟩ := hH0.ld (c := 1) (i := 5) (A := 0) (B := 940) (bs_19_3 _ _ (by omega) (by omega))
  refine jx_geti c1 hm rfl sh_1 rfl k5 ?_
  refine jv_i c3 hm rfl pj_X10_fails rfl rfl ⟨_, _, _, rfl, sh_1⟩ rfl ((ct_X10_fails_1p X (by omega) M0 hH0 1 ⟨by omega, by omega⟩ z4 ⟨by omega, by omega⟩).le (by decide)) (fun z6 M12 ⟨hH12, hR12, lz6, uz6, p7, p8, p9, p10, p11⟩ => ?_)
  have hF12 := hF0.tr hR12 (by decide +kernel)
  obtain ⟨z13, k14, lz13, uz13⟩ := hH12.ld (c := 1) (i := 12) (A := 0) (B := 4) (bs_19_8 _ _ (by omega) (by omega))
  obtain ⟨z15, k16, lz15, uz15⟩ := hH12.ld (c := 1) (i := 13) (A := 0) (B := 940) (bs_19_9 _ _ (by omega) (by omega))
  exact jx_retz c2 hm rfl rfl ⟨by omega, by omega⟩ ⟨_, rfl, hH12, hF12, by omega, by omega, (fun t σ s hs hσ hc => new_no hσ (Or.inl (by omega)) (by omega) (by omega) (by omega)), (fun t σ hσ y => absurd y (by omega)), ((LFr.rf _ _).tr p11 (by decide +kernel))⟩
 refine jx_load c1 hm rfl rfl rfl rfl ?_
 obtain ⟨z17, k18, lz17, uz17⟩ := hH0.ld (c := 1) (i := 7) (A := (-1)) (B := 23) (bs_19_5 _ _ (by omega) (by omega))
 refine jx_geti c1 hm rfl sh_1 rfl k18 ?_
 refine jy_ic c1 hm rfl (by decide) ?_
 refine jc_eq c1 hm 26 rfl rfl (fun h19 => ?_) (fun h19 => ?_)
 ·
  refine jx_load c1 hm rfl rfl rfl rfl ?_
  refine jx_load c1 hm rfl rfl rfl rfl ?_
  obtain ⟨w20, kw20⟩ : ∃ w, M0.2 1 8 = w := ⟨_, rfl⟩
  refine jx_getl c1 hm rfl sh_1 rfl kw20 ?_
  skip
  refine jv_i c3 hm rfl pj_X2_placeOf rfl rfl ⟨_, _, _, rfl, sh_27⟩ rfl ((ct_X2_placeOf_27p X (by omega) M0 hH0 w20).le (by decide)) (fun z21 _ ⟨rfl, lz21, uz21, p22⟩ => ?_)
  skip
  refine jy_ic c1 hm rfl (by decide) ?_
  refine jc_eq c1 hm 48 rfl rfl (fun h23 => ?_) (fun h23 => ?_)
  ·
   refine jx_load c1 hm rfl rfl rfl rfl ?_
   refine jx_load c1 hm rfl rfl rfl rfl ?_
   refine jx_getl c1 hm rfl sh_1 rfl kw20 ?_
   skip
   obtain ⟨M24, e24, hH24, hF24, n24, k24, g24⟩ := mul hH0 hF0 (c := 1) (i := 10) (v := w20) (fun h => absurd h (by decide))
   refine jm_putl c1 hm rfl sh_1 rfl e24 ?_
   refine jx_load c1 hm rfl rfl rfl rfl ?_
   obtain ⟨z25, k26, lz25, uz25⟩ := hH24.ld (c := 1) (i := 2) (A := 0) (B := 940) (bs_19_1 _ _ (by omega) (by omega))
   obtain ⟨z27, k28, lz27, uz27⟩ := hH24.ld (c := 1) (i := 4) (A := 0) (B := 940) (bs_19_3 _ _ (by omega) (by omega))
   refine jv_v c3 hm rfl pj_X10_next rfl rfl ⟨_, _, _, rfl, sh_1⟩ rfl ((ct_X10_next_1p X (by omega) M24 hH24 ).le (by decide)) (fun M31 ⟨hH31, hR31, p29, p30⟩ => ?_)
   have hF31 := hF24.tr hR31 (by decide +kernel)
   refine jy_ic c1 hm rfl (by decide) ?_
   exact jx_retz c2 hm rfl rfl ⟨by omega, by omega⟩ ⟨_, rfl, hH31, hF31, by omega, by omega, (fun t σ s hs hσ hc => new_go hσ hs hc (by omega) (by omega) (by have y9 := p22 t σ hσ.2.2.1 hσ.2.2.2 _ (hσ.wkk (hσ.kind.2.2.1.mp (by omega))) ((congrArg Int64.toInt kw20).symm.trans (hσ.word (hσ.kind.2.2.1.mp (by omega)))); omega) (CS.putl hσ n24 g24) rfl p29 (hR31 1 12 rfl) hR31 p30 (by decide +kernel)), (fun t σ hσ _ => ⟨(hσ.kind.2.2.1.mp (by omega)), by have y9 := p22 t σ hσ.2.2.1 hσ.2.2.2 _ (hσ.wkk (hσ.kind.2.2.1.mp (by omega))) ((congrArg Int64.toInt kw20).symm.trans (hσ.word (hσ.kind.2.2.1.mp (by omega)))); omega, by rw [p30 1 10 rfl, k24, ← kw20]; exact hσ.word (hσ.kind.2.2.1.mp (by omega))⟩), (((LFr.rf _ _).st g24 rfl).tr p30 (by decide +kernel))⟩
  refine jx_load c1 hm rfl rfl rfl rfl ?_
  refine jy_ic c1 hm rfl (by decide) ?_
  refine jx_load c1 hm rfl rfl rfl rfl ?_
  obtain ⟨z32, k33, lz32, uz32⟩ := hH0.ld (c := 1) (i := 5) (A := 0) (B := 940) (bs_19_3 _ _ (by omega) (by omega))
  refine jx_geti c1 hm rfl sh_1 rfl k33 ?_
  refine jv_i c3 hm rfl pj_X10_fails rfl rfl ⟨_, _, _, rfl, sh_1⟩ rfl ((ct_X10_fails_1p X (by omega) M0 hH0 3 ⟨by omega, by omega⟩ z32 ⟨by omega, by omega⟩).le (by decide)) (fun z34 M40 ⟨hH40, hR40, lz34, uz34, p35, p36, p37, p38, p39⟩ => ?_)
  have hF40 := hF0.tr hR40 (by decide +kernel)
  obtain ⟨z41, k42, lz41, uz41⟩ := hH40.ld (c := 1) (i := 12) (A := 0) (B := 4) (bs_19_8 _ _ (by omega) (by omega))
  obtain ⟨z43, k44, lz43, uz43⟩ := hH40.ld (c := 1) (i := 13) (A := 0) (B := 940) (bs_19_9 _ _ (by omega) (by omega))
  exact jx_retz c2 hm rfl rfl ⟨by omega, by omega⟩ ⟨_, rfl, hH40, hF40, by omega, by omega, (fun t σ s hs hσ hc => new_no hσ (Or.inr (by have y9 := p22 t σ hσ.2.2.1 hσ.2.2.2 _ (hσ.wkk (hσ.kind.2.2.1.mp (by omega))) ((congrArg Int64.toInt kw20).symm.trans (hσ.word (hσ.kind.2.2.1.mp (by omega)))); omega)) (by omega) (by omega) (by omega)), (fun t σ hσ y => absurd y (by omega)), ((LFr.rf _ _).tr p39 (by decide +kernel))⟩
 refine jx_load c1 hm rfl rfl rfl rfl ?_
 refine jy_ic c1 hm rfl (by decide) ?_
 refine jx_load c1 hm rfl rfl rfl rfl ?_
 obtain ⟨z45, k46, lz45, uz45⟩ := hH0.ld (c := 1) (i := 5) (A := 0) (B := 940) (bs_19_3 _ _ (by omega) (by omega))
 refine jx_geti c1 hm rfl sh_1 rfl k46 ?_
 refine jv_i c3 hm rfl pj_X10_fails rfl rfl ⟨_, _, _, rfl, sh_1⟩ rfl ((ct_X10_fails_1p X (by omega) M0 hH0 1 ⟨by omega, by omega⟩ z45 ⟨by omega, by omega⟩).le (by decide)) (fun z47 M53 ⟨hH53, hR53, lz47, uz47, p48, p49, p50, p51, p52⟩ => ?_)
 have hF53 := hF0.tr hR53 (by decide +kernel)
 obtain ⟨z54, k55, lz54, uz54⟩ := hH53.ld (c := 1) (i := 12) (A := 0) (B := 4) (bs_19_8 _ _ (by omega) (by omega))
 obtain ⟨z56, k57, lz56, uz56⟩ := hH53.ld (c := 1) (i := 13) (A := 0) (B := 940) (bs_19_9 _ _ (by omega) (by omega))
 exact jx_retz c2 hm rfl rfl ⟨by omega, by omega⟩ ⟨_, rfl, hH53, hF53, by omega, by omega, (fun t σ s hs hσ hc => new_no hσ (Or.inl (by omega)) (by omega) (by omega) (by omega)), (fun t σ hσ y => absurd y (by omega)), ((LFr.rf _ _).tr p52 (by decide +kernel))⟩
def ml_X10_takesName_1_27p : List (Nat × (Nat × Nat)) := [(1, (8, 8))]
def md_X10_takesName_1_27p : List (Nat × (Nat × Nat)) := [(1, (4, 4)), (1, (5, 5)), (1, (6, 6)), (1, (7, 7)), (1, (9, 9)), (1, (11, 11)), (1, (12, 12)), (1, (13, 13))]
theorem ct_X10_takesName_1_27p (X : Int) (hX : 0 ≤ X ∧ X ≤ 100000000) (M0 : JM) (hH0 : HI X M0) (a0 : Int) (ha0 : 0 ≤ a0 ∧ a0 ≤ 2) : JOk shp PJ 3 21 [.inr (.inr (.inl 1)), .inr (.inr (.inl 27)), .inl a0] M0 (jRi (fun v M' => HI X M' ∧ Fr md_X10_takesName_1_27p M0 M' ∧ 0 ≤ v ∧ v ≤ 1 ∧ (v = 1 → M'.1 1 11 ≤ 5) ∧ (∀ (t : TXT) (σ : PSt) (g : Int → PSt → RES), CS M0 t σ → NMP t a0 g σ v M') ∧ (LFr ml_X10_takesName_1_27p M0 M'))) := by
 refine ⟨jr_X10_takesName, pj_X10_takesName, fun F c1 c2 c3 => ?_⟩
 have hm := pj_X10_takesName
 change F 0 [some (.inr (.inr (.inl 1))), some (.inr (.inr (.inl 27))), some (.inl a0), none] [] M0
 have hF0 : Fr md_X10_takesName_1_27p M0 M0 := Fr.rf _ _
 refine jx_load c1 hm rfl rfl rfl rfl ?_
 obtain ⟨z1, k2, lz1, uz1⟩ := hH0.ld (c := 1) (i := 6) (A := 0) (B := 4) (bs_19_4 _ _ (by omega) (by omega))
 refine jx_geti c1 hm rfl sh_1 rfl k2 ?_
 refine jy_ic c1 hm rfl (by decide) ?_
 refine jc_ne c1 hm 16 rfl rfl (fun h3 => ?_) (fun h3 => ?_)
 ·
  refine jx_load c1 hm rfl rfl rfl rfl ?_
  refine jy_ic c1 hm rfl (by decide) ?_
  refine jx_load c1 hm rfl rfl rfl rfl ?_
  obtain ⟨z4, k5, lz4, uz4⟩ := hH0.ld (c := 1) (i := 5) (A := 0) (B := 940) (bs_19_3 _ _ (by omega) (by omega))
  refine jx_geti c1 hm rfl sh_1 rfl k5 ?_
  refine jv_i c3 hm rfl pj_X10_fails rfl rfl ⟨_, _, _, rfl, sh_1⟩ rfl ((ct_X10_fails_1p X (by omega) M0 hH0 1 ⟨by omega, by omega⟩ z4 ⟨by omega, by omega⟩).le (by decide)) (fun z6 M12 ⟨hH12, hR12, lz6, uz6, p7, p8, p9, p10, p11⟩ => ?_)
  have hF12 := hF0.tr hR12 (by decide +kernel)
  obtain ⟨z13, k14, lz13, uz13⟩ := hH12.ld (c := 1) (i := 12) (A := 0) (B := 4) (bs_19_8 _ _ (by omega) (by omega))
  obtain ⟨z15, k16, lz15, uz15⟩ := hH12.ld (c := 1) (i := 13) (A := 0) (B := 940) (bs_19_9 _ _ (by omega) (by omega))
  obtain ⟨z17, k18, lz17, uz17⟩ := hH12.ld (c := 1) (i := 11) (A := 0) (B := 999) (bs_19_7 _ _ (by omega) (by omega))
  exact jx_retz c2 hm rfl rfl ⟨by omega, by omega⟩ ⟨_, rfl, hH12, hF12, by omega, by omega, (by omega), (fun t σ g hσ => nam_no hσ (Or.inl (by omega)) (by omega) (by omega) (by omega)), ((LFr.rf _ _).tr p11 (by decide +kernel))⟩
 refine jx_load c1 hm rfl rfl rfl rfl ?_
 obtain ⟨z19, k20, lz19, uz19⟩ := hH0.ld (c := 1) (i := 7) (A := (-1)) (B := 23) (bs_19_5 _ _ (by omega) (by omega))
 refine jx_geti c1 hm rfl sh_1 rfl k20 ?_
 refine jy_ic c1 hm rfl (by decide) ?_
 refine jc_eq c1 hm 26 rfl rfl (fun h21 => ?_) (fun h21 => ?_)
 ·
  refine jx_load c1 hm rfl rfl rfl rfl ?_
  refine jx_load c1 hm rfl rfl rfl rfl ?_
  obtain ⟨w22, kw22⟩ : ∃ w, M0.2 1 8 = w := ⟨_, rfl⟩
  refine jx_getl c1 hm rfl sh_1 rfl kw22 ?_
  skip
  refine jv_i c3 hm rfl pj_X2_placeOf rfl rfl ⟨_, _, _, rfl, sh_27⟩ rfl ((ct_X2_placeOf_27p X (by omega) M0 hH0 w22).le (by decide)) (fun z23 _ ⟨rfl, lz23, uz23, p24⟩ => ?_)
  skip
  refine jx_stor c1 hm (L' := [some (.inr (.inr (.inl 1))), some (.inr (.inr (.inl 27))), some (.inl a0), some (.inl z23)]) rfl rfl rfl rfl rfl ?_
  refine jx_load c1 hm rfl rfl rfl rfl ?_
  refine jy_ic c1 hm rfl (by decide) ?_
  refine jc_eq c1 hm 48 rfl rfl (fun h25 => ?_) (fun h25 => ?_)
  ·
   refine jx_load c1 hm rfl rfl rfl rfl ?_
   refine jy_ic c1 hm rfl (by decide) ?_
   refine jx_load c1 hm rfl rfl rfl rfl ?_
   obtain ⟨z26, k27, lz26, uz26⟩ := hH0.ld (c := 1) (i := 5) (A := 0) (B := 940) (bs_19_3 _ _ (by omega) (by omega))
   refine jx_geti c1 hm rfl sh_1 rfl k27 ?_
   refine jv_i c3 hm rfl pj_X10_fails rfl rfl ⟨_, _, _, rfl, sh_1⟩ rfl ((ct_X10_fails_1p X (by omega) M0 hH0 3 ⟨by omega, by omega⟩ z26 ⟨by omega, by omega⟩).le (by decide)) (fun z28 M34 ⟨hH34, hR34, lz28, uz28, p29, p30, p31, p32, p33⟩ => ?_)
   have hF34 := hF0.tr hR34 (by decide +kernel)
   obtain ⟨z35, k36, lz35, uz35⟩ := hH34.ld (c := 1) (i := 12) (A := 0) (B := 4) (bs_19_8 _ _ (by omega) (by omega))
   obtain ⟨z37, k38, lz37, uz37⟩ := hH34.ld (c := 1) (i := 13) (A := 0) (B := 940) (bs_19_9 _ _ (by omega) (by omega))
   obtain ⟨z39, k40, lz39, uz39⟩ := hH34.ld (c := 1) (i := 11) (A := 0) (B := 999) (bs_19_7 _ _ (by omega) (by omega))
   exact jx_retz c2 hm rfl rfl ⟨by omega, by omega⟩ ⟨_, rfl, hH34, hF34, by omega, by omega, (by omega), (fun t σ g hσ => nam_no hσ (Or.inr (by have y9 := p24 t σ hσ.2.2.1 hσ.2.2.2 _ (hσ.wkk (hσ.kind.2.2.1.mp (by omega))) ((congrArg Int64.toInt kw22).symm.trans (hσ.word (hσ.kind.2.2.1.mp (by omega)))); omega)) (by omega) (by omega) (by omega)), ((LFr.rf _ _).tr p33 (by decide +kernel))⟩
  refine jx_load c1 hm rfl rfl rfl rfl ?_
  refine jy_bp c1 hm rfl (by decide) ?_
  refine jy_div c1 hm rfl ⟨by omega, by omega, by omega, by omega⟩ (fun z41 ez41 lz41 uz41 => ?_)
  refine jx_load c1 hm rfl rfl rfl rfl ?_
  refine jc_eq c1 hm 58 rfl rfl (fun h42 => ?_) (fun h42 => ?_)
  ·
   refine jx_load c1 hm rfl rfl rfl rfl ?_
   refine jx_load c1 hm rfl rfl rfl rfl ?_
   refine jy_bp c1 hm rfl (by decide) ?_
   refine jy_rem c1 hm rfl ⟨by omega, by omega, by omega, by omega⟩ (fun z43 ez43 lz43 uz43 => ?_)
   obtain ⟨M44, e44, hH44, hF44, k44, n44, q44⟩ := mup hH0 hF0 (c := 1) (i := 11) (v := z43) (A := 0) (B := 999) (bs_19_7 _ _ (by omega) (by omega)) ⟨by omega, by omega⟩ (jin_of 5 rfl ⟨by omega, by omega⟩)
   refine jm_puti c1 hm rfl sh_1 rfl e44 ?_
   refine jx_load c1 hm rfl rfl rfl rfl ?_
   obtain ⟨z45, k46, lz45, uz45⟩ := hH44.ld (c := 1) (i := 2) (A := 0) (B := 940) (bs_19_1 _ _ (by omega) (by omega))
   obtain ⟨z47, k48, lz47, uz47⟩ := hH44.ld (c := 1) (i := 4) (A := 0) (B := 940) (bs_19_3 _ _ (by omega) (by omega))
   refine jv_v c3 hm rfl pj_X10_next rfl rfl ⟨_, _, _, rfl, sh_1⟩ rfl ((ct_X10_next_1p X (by omega) M44 hH44 ).le (by decide)) (fun M51 ⟨hH51, hR51, p49, p50⟩ => ?_)
   have hF51 := hF44.tr hR51 (by decide +kernel)
   refine jy_ic c1 hm rfl (by decide) ?_
   have k52 : M51.1 1 11 = z43 := (hR51 1 11 (by decide +kernel)).trans k44
   exact jx_retz c2 hm rfl rfl ⟨by omega, by omega⟩ ⟨_, rfl, hH51, hF51, by omega, by omega, (by omega), (fun t σ g hσ => nam_go hσ (by omega) (by omega) (p24 t σ hσ.2.2.1 hσ.2.2.2 _ (hσ.wkk (hσ.kind.2.2.1.mp (by omega))) ((congrArg Int64.toInt kw22).symm.trans (hσ.word (hσ.kind.2.2.1.mp (by omega))))) (by omega) (by omega) (CS.put rfl hσ n44 q44) rfl ((hR51 1 11 rfl).trans (by omega)) p49 (hR51 1 12 rfl) hR51 p50 (by decide +kernel)), (((LFr.rf _ _).eq q44).tr p50 (by decide +kernel))⟩
  refine jx_load c1 hm rfl rfl rfl rfl ?_
  refine jy_ic c1 hm rfl (by decide) ?_
  refine jx_load c1 hm rfl rfl rfl rfl ?_
  obtain ⟨z53, k54, lz53, uz53⟩ := hH0.ld (c := 1) (i := 5) (A := 0) (B := 940) (bs_19_3 _ _ (by omega) (by omega))
  refine jx_geti c1 hm rfl sh_1 rfl k54 ?_
  refine jv_i c3 hm rfl pj_X10_fails rfl rfl ⟨_, _, _, rfl, sh_1⟩ rfl ((ct_X10_fails_1p X (by omega) M0 hH0 3 ⟨by omega, by omega⟩ z53 ⟨by omega, by omega⟩).le (by decide)) (fun z55 M61 ⟨hH61, hR61, lz55, uz55, p56, p57, p58, p59, p60⟩ => ?_)
  have hF61 := hF0.tr hR61 (by decide +kernel)
  obtain ⟨z62, k63, lz62, uz62⟩ := hH61.ld (c := 1) (i := 12) (A := 0) (B := 4) (bs_19_8 _ _ (by omega) (by omega))
  obtain ⟨z64, k65, lz64, uz64⟩ := hH61.ld (c := 1) (i := 13) (A := 0) (B := 940) (bs_19_9 _ _ (by omega) (by omega))
  obtain ⟨z66, k67, lz66, uz66⟩ := hH61.ld (c := 1) (i := 11) (A := 0) (B := 999) (bs_19_7 _ _ (by omega) (by omega))
  exact jx_retz c2 hm rfl rfl ⟨by omega, by omega⟩ ⟨_, rfl, hH61, hF61, by omega, by omega, (by omega), (fun t σ g hσ => nam_no hσ (Or.inr (by have y9 := p24 t σ hσ.2.2.1 hσ.2.2.2 _ (hσ.wkk (hσ.kind.2.2.1.mp (by omega))) ((congrArg Int64.toInt kw22).symm.trans (hσ.word (hσ.kind.2.2.1.mp (by omega)))); omega)) (by omega) (by omega) (by omega)), ((LFr.rf _ _).tr p60 (by decide +kernel))⟩
 refine jx_load c1 hm rfl rfl rfl rfl ?_
 refine jy_ic c1 hm rfl (by decide) ?_
 refine jx_load c1 hm rfl rfl rfl rfl ?_
 obtain ⟨z68, k69, lz68, uz68⟩ := hH0.ld (c := 1) (i := 5) (A := 0) (B := 940) (bs_19_3 _ _ (by omega) (by omega))
 refine jx_geti c1 hm rfl sh_1 rfl k69 ?_
 refine jv_i c3 hm rfl pj_X10_fails rfl rfl ⟨_, _, _, rfl, sh_1⟩ rfl ((ct_X10_fails_1p X (by omega) M0 hH0 1 ⟨by omega, by omega⟩ z68 ⟨by omega, by omega⟩).le (by decide)) (fun z70 M76 ⟨hH76, hR76, lz70, uz70, p71, p72, p73, p74, p75⟩ => ?_)
 have hF76 := hF0.tr hR76 (by decide +kernel)
 obtain ⟨z77, k78, lz77, uz77⟩ := hH76.ld (c := 1) (i := 12) (A := 0) (B := 4) (bs_19_8 _ _ (by omega) (by omega))
 obtain ⟨z79, k80, lz79, uz79⟩ := hH76.ld (c := 1) (i := 13) (A := 0) (B := 940) (bs_19_9 _ _ (by omega) (by omega))
 obtain ⟨z81, k82, lz81, uz81⟩ := hH76.ld (c := 1) (i := 11) (A := 0) (B := 999) (bs_19_7 _ _ (by omega) (by omega))
 exact jx_retz c2 hm rfl rfl ⟨by omega, by omega⟩ ⟨_, rfl, hH76, hF76, by omega, by omega, (by omega), (fun t σ g hσ => nam_no hσ (Or.inl (by omega)) (by omega) (by omega) (by omega)), ((LFr.rf _ _).tr p75 (by decide +kernel))⟩
def ml_X2_takesFirstWord_27_1p : List (Nat × (Nat × Nat)) := [(1, (8, 8))]
def md_X2_takesFirstWord_27_1p : List (Nat × (Nat × Nat)) := [(1, (4, 4)), (1, (5, 5)), (1, (6, 6)), (1, (7, 7)), (1, (9, 9)), (1, (12, 12)), (1, (13, 13))]
theorem ct_X2_takesFirstWord_27_1p (X : Int) (hX : 0 ≤ X ∧ X ≤ 100000000) (M0 : JM) (hH0 : HI X M0) (a0 : Int) (ha0 : 0 ≤ a0 ∧ a0 ≤ 2) : JOk shp PJ 3 232 [.inr (.inr (.inl 27)), .inr (.inr (.inl 1)), .inl a0] M0 (jRi (fun v M' => HI X M' ∧ Fr md_X2_takesFirstWord_27_1p M0 M' ∧ 0 ≤ v ∧ v ≤ 1 ∧ (∀ (t : TXT) (σ : PSt), CS M0 t σ → 2 ≤ kK t σ → LRc t (firstS t a0.toNat σ) v M') ∧ (LFr ml_X2_takesFirstWord_27_1p M0 M'))) := by
 refine ⟨jr_X2_takesFirstWord, pj_X2_takesFirstWord, fun F c1 c2 c3 => ?_⟩
 have hm := pj_X2_takesFirstWord
 change F 0 [some (.inr (.inr (.inl 27))), some (.inr (.inr (.inl 1))), some (.inl a0)] [] M0
 have hF0 : Fr md_X2_takesFirstWord_27_1p M0 M0 := Fr.rf _ _
 refine jx_load c1 hm rfl rfl rfl rfl ?_
 refine jx_getr c1 hm rfl sh_27 rfl ?_
 refine jx_load c1 hm rfl rfl rfl rfl ?_
 obtain ⟨z1, k2, lz1, uz1⟩ := hH0.ld (c := 28) (i := (a0).toNat) (A := 0) (B := 6) rfl
 refine jx_iald c1 hm rfl sh_28 ⟨by omega, by omega⟩ k2 ?_
 refine jy_bp c1 hm rfl (by decide) ?_
 refine jc_lt c1 hm 21 rfl rfl (fun h3 => ?_) (fun h3 => ?_)
 ·
  refine jx_load c1 hm rfl rfl rfl rfl ?_
  obtain ⟨z4, k5, lz4, uz4⟩ := hH0.ld (c := 1) (i := 2) (A := 0) (B := 940) (bs_19_1 _ _ (by omega) (by omega))
  obtain ⟨z6, k7, lz6, uz6⟩ := hH0.ld (c := 1) (i := 4) (A := 0) (B := 940) (bs_19_3 _ _ (by omega) (by omega))
  refine jv_v c3 hm rfl pj_X10_next rfl rfl ⟨_, _, _, rfl, sh_1⟩ rfl ((ct_X10_next_1p X (by omega) M0 hH0 ).le (by decide)) (fun M10 ⟨hH10, hR10, p8, p9⟩ => ?_)
  have hF10 := hF0.tr hR10 (by decide +kernel)
  refine jy_ic c1 hm rfl (by decide) ?_
  exact jx_retz c2 hm rfl rfl ⟨by omega, by omega⟩ ⟨_, rfl, hH10, hF10, by omega, by omega, (fun t σ hσ hk => fst_go hσ hk (by omega) (by omega) rfl p8 (hR10 1 12 rfl) hR10 p9 (by decide +kernel)), ((LFr.rf _ _).tr p9 (by decide +kernel))⟩
 refine jx_load c1 hm rfl rfl rfl rfl ?_
 refine jy_ic c1 hm rfl (by decide) ?_
 refine jx_load c1 hm rfl rfl rfl rfl ?_
 obtain ⟨z11, k12, lz11, uz11⟩ := hH0.ld (c := 1) (i := 5) (A := 0) (B := 940) (bs_19_3 _ _ (by omega) (by omega))
 refine jx_geti c1 hm rfl sh_1 rfl k12 ?_
 refine jv_i c3 hm rfl pj_X10_fails rfl rfl ⟨_, _, _, rfl, sh_1⟩ rfl ((ct_X10_fails_1p X (by omega) M0 hH0 4 ⟨by omega, by omega⟩ z11 ⟨by omega, by omega⟩).le (by decide)) (fun z13 M19 ⟨hH19, hR19, lz13, uz13, p14, p15, p16, p17, p18⟩ => ?_)
 have hF19 := hF0.tr hR19 (by decide +kernel)
 obtain ⟨z20, k21, lz20, uz20⟩ := hH19.ld (c := 1) (i := 12) (A := 0) (B := 4) (bs_19_8 _ _ (by omega) (by omega))
 obtain ⟨z22, k23, lz22, uz22⟩ := hH19.ld (c := 1) (i := 13) (A := 0) (B := 940) (bs_19_9 _ _ (by omega) (by omega))
 exact jx_retz c2 hm rfl rfl ⟨by omega, by omega⟩ ⟨_, rfl, hH19, hF19, by omega, by omega, (fun t σ hσ hk => fst_no hσ (by omega) (by omega) (by omega) (by omega) (by omega)), ((LFr.rf _ _).tr p18 (by decide +kernel))⟩
def ml_X2_addName_27p : List (Nat × (Nat × Nat)) := [(29, (0, 17))]
def md_X2_addName_27p : List (Nat × (Nat × Nat)) := [(28, (0, 2))]
theorem ct_X2_addName_27p (X : Int) (hX : 0 ≤ X ∧ X ≤ 100000000) (M0 : JM) (hH0 : HI X M0) (a0 : Int) (ha0 : 0 ≤ a0 ∧ a0 ≤ 2) (a1 : Int64) : JOk shp PJ 1 212 [.inr (.inr (.inl 27)), .inl a0, .inr (.inl a1)] M0 (jRi (fun v M' => HI X M' ∧ Fr md_X2_addName_27p M0 M' ∧ 0 ≤ v ∧ v ≤ 5 ∧ (M0.1 28 (a0).toNat ≤ 5 → v = M0.1 28 (a0).toNat ∧ ADP M0 M' (a0).toNat a1) ∧ (LFr ml_X2_addName_27p M0 M'))) := by
 refine ⟨jr_X2_addName, pj_X2_addName, fun F c1 c2 c3 => ?_⟩
 have hm := pj_X2_addName
 change F 0 [some (.inr (.inr (.inl 27))), some (.inl a0), some (.inr (.inl a1)), none, none] [] M0
 have hF0 : Fr md_X2_addName_27p M0 M0 := Fr.rf _ _
 refine jx_load c1 hm rfl rfl rfl rfl ?_
 refine jx_getr c1 hm rfl sh_27 rfl ?_
 refine jx_load c1 hm rfl rfl rfl rfl ?_
 obtain ⟨z1, k2, lz1, uz1⟩ := hH0.ld (c := 28) (i := (a0).toNat) (A := 0) (B := 6) rfl
 refine jx_iald c1 hm rfl sh_28 ⟨by omega, by omega⟩ k2 ?_
 refine jy_ic c1 hm rfl (by decide) ?_
 refine jx_min c1 hm rfl rfl (fun z3 lz3 uz3 ez3 => ?_)
 skip
 refine jx_stor c1 hm (L' := [some (.inr (.inr (.inl 27))), some (.inl a0), some (.inr (.inl a1)), none, some (.inl z3)]) rfl rfl rfl rfl rfl ?_
 refine jx_load c1 hm rfl rfl rfl rfl ?_
 refine jx_getr c1 hm rfl sh_27 rfl ?_
 refine jx_load c1 hm rfl rfl rfl rfl ?_
 refine jy_bp c1 hm rfl (by decide) ?_
 refine jy_mul c1 hm (6 * a0) rfl (by omega) ?_
 refine jx_load c1 hm rfl rfl rfl rfl ?_
 refine jy_add c1 hm (6 * a0 + z3) rfl (by omega) ?_
 refine jx_load c1 hm rfl rfl rfl rfl ?_
 obtain ⟨M4, e4, hH4, hF4, n4, k4, g4⟩ := mul hH0 hF0 (c := 29) (i := ((6 * a0 + z3)).toNat) (v := a1) (fun h => absurd h (by decide))
 refine jm_last c1 hm rfl sh_29 ⟨by omega, by omega⟩ e4 ?_
 refine jx_load c1 hm rfl rfl rfl rfl ?_
 refine jx_getr c1 hm rfl sh_27 rfl ?_
 refine jx_load c1 hm rfl rfl rfl rfl ?_
 refine jx_load c1 hm rfl rfl rfl rfl ?_
 refine jy_ic c1 hm rfl (by decide) ?_
 refine jy_add c1 hm (z3 + 1) rfl (by omega) ?_
 obtain ⟨M5, e5, hH5, hF5, k5, n5, q5⟩ := mup hH4 hF4 (c := 28) (i := (a0).toNat) (v := (z3 + 1)) (A := 0) (B := 6) rfl ⟨by omega, by omega⟩ (jin_of 0 rfl ⟨by omega, by omega⟩)
 refine jm_iast c1 hm rfl sh_28 ⟨by omega, by omega⟩ e5 ?_
 refine jx_load c1 hm rfl rfl rfl rfl ?_
 exact jx_reti c2 hm rfl rfl ⟨_, rfl, hH5, hF5, by omega, by omega, (fun hc => ⟨by omega, ⟨by omega, fun s' y => (n5 28 s' (fun e => y e.2)).trans (n4 28 s'), by rw [show 6 * (a0).toNat + (M0.1 28 (a0).toNat).toNat = ((6 * a0 + z3)).toNat by omega]; exact (q5 29 _).trans k4, fun c i y => (q5 c i).trans (g4 c i (fun e => y ⟨e.1, by have y9 := e.2; omega⟩)), fun c i y => (n5 c i (fun e => y e.1)).trans (n4 c i)⟩⟩), (((LFr.rf _ _).st g4 (jin_of 0 rfl ⟨by omega, by omega⟩)).eq q5)⟩
def ml_X2_readMan_27_1p : List (Nat × (Nat × Nat)) := [(1, (8, 8)), (1, (10, 10)), (29, (0, 17))]
def md_X2_readMan_27_1p : List (Nat × (Nat × Nat)) := [(1, (4, 4)), (1, (5, 5)), (1, (6, 6)), (1, (7, 7)), (1, (9, 9)), (1, (11, 11)), (1, (12, 12)), (1, (13, 13)), (28, (0, 2)), (30, (0, 5)), (35, (0, 5))]
theorem ct_X2_readMan_27_1p (X : Int) (hX : 0 ≤ X ∧ X ≤ 100000000) (M0 : JM) (hH0 : HI X M0)  : JOk shp PJ 4 226 [.inr (.inr (.inl 27)), .inr (.inr (.inl 1))] M0 (jRi (fun v M' => HI X M' ∧ Fr md_X2_readMan_27_1p M0 M' ∧ 0 ≤ v ∧ v ≤ 1 ∧ (∀ (t : TXT) (σ : PSt), CS M0 t σ → 2 ≤ kK t σ → LRc t (manS t σ) v M') ∧ (LFr ml_X2_readMan_27_1p M0 M'))) := by
 refine ⟨jr_X2_readMan, pj_X2_readMan, fun F c1 c2 c3 => ?_⟩
 have hm := pj_X2_readMan
 change F 0 [some (.inr (.inr (.inl 27))), some (.inr (.inr (.inl 1))), none] [] M0
 have hF0 : Fr md_X2_readMan_27_1p M0 M0 := Fr.rf _ _
 refine jx_load c1 hm rfl rfl rfl rfl ?_
 refine jx_load c1 hm rfl rfl rfl rfl ?_
 refine jy_ic c1 hm rfl (by decide) ?_
 refine jv_i c3 hm rfl pj_X2_takesFirstWord rfl rfl ⟨_, _, _, rfl, sh_27⟩ rfl ((ct_X2_takesFirstWord_27_1p X (by omega) M0 hH0 0 ⟨by omega, by omega⟩).le (by decide)) (fun z1 M4 ⟨hH4, hR4, lz1, uz1, p2, p3⟩ => ?_)
 have hF4 := hF0.tr hR4 (by decide +kernel)
 refine jz_eq c1 hm 27 rfl rfl (fun h5 => ?_) (fun h5 => ?_)
 ·
  refine jy_ic c1 hm rfl (by decide) ?_
  exact jx_retz c2 hm rfl rfl ⟨by omega, by omega⟩ ⟨_, rfl, hH4, hF4, by omega, by omega, (fun t σ hσ hk => LRc.seqz (p2 t σ hσ hk) (by omega)), ((LFr.rf _ _).tr p3 (by decide +kernel))⟩
 refine jx_load c1 hm rfl rfl rfl rfl ?_
 refine jx_load c1 hm rfl rfl rfl rfl ?_
 refine jv_i c3 hm rfl pj_X10_takesNewName rfl rfl ⟨_, _, _, rfl, sh_1⟩ rfl ((ct_X10_takesNewName_1_27p X (by omega) M4 hH4 ).le (by decide)) (fun z6 M10 ⟨hH10, hR10, lz6, uz6, p7, p8, p9⟩ => ?_)
 have hF10 := hF4.tr hR10 (by decide +kernel)
 refine jz_eq c1 hm 27 rfl rfl (fun h11 => ?_) (fun h11 => ?_)
 ·
  refine jy_ic c1 hm rfl (by decide) ?_
  exact jx_retz c2 hm rfl rfl ⟨by omega, by omega⟩ ⟨_, rfl, hH10, hF10, by omega, by omega, (fun t σ hσ hk => LRc.seqg (p2 t σ hσ hk) (by omega) (fun l1 h1 => LRc.seqz (p7 t _ 0 (by decide) h1 (by rw [(fst_lt hσ.2.2.2 l1).1]; exact (fst_lt hσ.2.2.2 l1).2)) (by omega))), (((LFr.rf _ _).tr p3 (by decide +kernel)).tr p9 (by decide +kernel))⟩
 refine jx_load c1 hm rfl rfl rfl rfl ?_
 refine jy_ic c1 hm rfl (by decide) ?_
 refine jy_bp c1 hm rfl (by decide) ?_
 refine jv_i c3 hm rfl pj_X10_takesNumber rfl rfl ⟨_, _, _, rfl, sh_1⟩ rfl ((ct_X10_takesNumber_1p X (by omega) M10 hH10 0 ⟨by omega, by omega⟩ 99 ⟨by omega, by omega⟩).le (by decide)) (fun z12 M17 ⟨hH17, hR17, lz12, uz12, p13, p14, p15, p16⟩ => ?_)
 have hF17 := hF10.tr hR17 (by decide +kernel)
 obtain ⟨z18, k19, lz18, uz18⟩ := hH17.ld (c := 1) (i := 11) (A := 0) (B := 999) (bs_19_7 _ _ (by omega) (by omega))
 refine jz_ne c1 hm 29 rfl rfl (fun h20 => ?_) (fun h20 => ?_)
 ·
  refine jx_load c1 hm rfl rfl rfl rfl ?_
  refine jy_ic c1 hm rfl (by decide) ?_
  refine jx_load c1 hm rfl rfl rfl rfl ?_
  obtain ⟨w21, kw21⟩ : ∃ w, M17.2 1 10 = w := ⟨_, rfl⟩
  refine jx_getl c1 hm rfl sh_1 rfl kw21 ?_
  skip
  refine jv_i c3 hm rfl pj_X2_addName rfl rfl ⟨_, _, _, rfl, sh_27⟩ rfl ((ct_X2_addName_27p X (by omega) M17 hH17 0 ⟨by omega, by omega⟩ w21).le (by decide)) (fun z22 M25 ⟨hH25, hR25, lz22, uz22, p23, p24⟩ => ?_)
  have hF25 := hF17.tr hR25 (by decide +kernel)
  refine jx_stor c1 hm (L' := [some (.inr (.inr (.inl 27))), some (.inr (.inr (.inl 1))), some (.inl z22)]) rfl rfl rfl rfl rfl ?_
  refine jx_load c1 hm rfl rfl rfl rfl ?_
  refine jx_getr c1 hm rfl sh_27 rfl ?_
  refine jx_load c1 hm rfl rfl rfl rfl ?_
  refine jx_load c1 hm rfl rfl rfl rfl ?_
  have k26 : M25.1 1 11 = z18 := (hR25 1 11 (by decide +kernel)).trans k19
  refine jx_geti c1 hm rfl sh_1 rfl k26 ?_
  obtain ⟨M27, e27, hH27, hF27, k27, n27, q27⟩ := mup hH25 hF25 (c := 30) (i := (z22).toNat) (v := z18) (A := 0) (B := 99) rfl ⟨by omega, by omega⟩ (jin_of 9 rfl ⟨by omega, by omega⟩)
  refine jm_iast c1 hm rfl sh_30 ⟨by omega, by omega⟩ e27 ?_
  refine jx_load c1 hm rfl rfl rfl rfl ?_
  refine jx_getr c1 hm rfl sh_27 rfl ?_
  refine jx_getr c1 hm rfl sh_34 rfl ?_
  refine jx_load c1 hm rfl rfl rfl rfl ?_
  refine jx_load c1 hm rfl rfl rfl rfl ?_
  have k28 : M27.1 1 11 = z18 := (n27 1 11 (fun h => absurd h.1 (by decide))).trans k26
  refine jx_geti c1 hm rfl sh_1 rfl k28 ?_
  obtain ⟨M29, e29, hH29, hF29, k29, n29, q29⟩ := mup hH27 hF27 (c := 35) (i := (z22).toNat) (v := z18) (A := (-2147483648)) (B := 2147483647) rfl ⟨by omega, by omega⟩ (jin_of 10 rfl ⟨by omega, by omega⟩)
  refine jm_iast c1 hm rfl sh_35 ⟨by omega, by omega⟩ e29 ?_
  refine jy_ic c1 hm rfl (by decide) ?_
  exact jx_retz c2 hm rfl rfl ⟨by omega, by omega⟩ ⟨_, rfl, hH29, hF29, by omega, by omega, (fun t σ hσ hk => LRc.seqg (p2 t σ hσ hk) (by omega) (fun l1 h1 => LRc.seqg (p7 t _ 0 (by decide) h1 (by rw [(fst_lt hσ.2.2.2 l1).1]; exact (fst_lt hσ.2.2.2 l1).2)) (by omega) (fun l2 h2 => LRc.seqg (p14 t _ h2) (by omega) (fun l3 h3 => LRc.o (CS.st (CS.st (add_fin (by decide) h1 (by rw [(fst_lt hσ.2.2.2 l1).1]; exact (fst_lt hσ.2.2.2 l1).2) (p8 t _ h1 (by omega)).1 (p8 t _ h1 (by omega)).2.1 l2 (num_e3 h2.2.2.2 l3) h3 (by rw [← kw21, (p16 1 10 rfl)]; exact (p8 t _ h1 (by omega)).2.2) (p23 (add_cnt (s := 0) (by decide) h1 (by rw [(fst_lt hσ.2.2.2 l1).1]; exact (fst_lt hσ.2.2.2 l1).2) l2 (num_e3 h2.2.2.2 l3) h3)).2) n27 q27 rfl) n29 q29 rfl) (show (-1 : Int) < 0 by decide))))), (((((((LFr.rf _ _).tr p3 (by decide +kernel)).tr p9 (by decide +kernel)).tr p16 (by decide +kernel)).tr p24 (by decide +kernel)).eq q27).eq q29)⟩
 refine jy_ic c1 hm rfl (by decide) ?_
 exact jx_retz c2 hm rfl rfl ⟨by omega, by omega⟩ ⟨_, rfl, hH17, hF17, by omega, by omega, (fun t σ hσ hk => LRc.seqg (p2 t σ hσ hk) (by omega) (fun l1 h1 => LRc.seqg (p7 t _ 0 (by decide) h1 (by rw [(fst_lt hσ.2.2.2 l1).1]; exact (fst_lt hσ.2.2.2 l1).2)) (by omega) (fun l2 h2 => LRc.seqz (p14 t _ h2) (by omega)))), ((((LFr.rf _ _).tr p3 (by decide +kernel)).tr p9 (by decide +kernel)).tr p16 (by decide +kernel))⟩
def ml_X2_readForfeit_27_1p : List (Nat × (Nat × Nat)) := [(1, (8, 8)), (1, (10, 10)), (29, (0, 17))]
def md_X2_readForfeit_27_1p : List (Nat × (Nat × Nat)) := [(1, (4, 4)), (1, (5, 5)), (1, (6, 6)), (1, (7, 7)), (1, (9, 9)), (1, (11, 11)), (1, (12, 12)), (1, (13, 13)), (28, (0, 2)), (31, (0, 5))]
theorem ct_X2_readForfeit_27_1p (X : Int) (hX : 0 ≤ X ∧ X ≤ 100000000) (M0 : JM) (hH0 : HI X M0)  : JOk shp PJ 4 222 [.inr (.inr (.inl 27)), .inr (.inr (.inl 1))] M0 (jRi (fun v M' => HI X M' ∧ Fr md_X2_readForfeit_27_1p M0 M' ∧ 0 ≤ v ∧ v ≤ 1 ∧ (∀ (t : TXT) (σ : PSt), CS M0 t σ → 2 ≤ kK t σ → LRc t (forS t σ) v M') ∧ (LFr ml_X2_readForfeit_27_1p M0 M'))) := by
 refine ⟨jr_X2_readForfeit, pj_X2_readForfeit, fun F c1 c2 c3 => ?_⟩
 have hm := pj_X2_readForfeit
 change F 0 [some (.inr (.inr (.inl 27))), some (.inr (.inr (.inl 1)))] [] M0
 have hF0 : Fr md_X2_readForfeit_27_1p M0 M0 := Fr.rf _ _
 refine jx_load c1 hm rfl rfl rfl rfl ?_
 refine jx_load c1 hm rfl rfl rfl rfl ?_
 refine jy_ic c1 hm rfl (by decide) ?_
 refine jv_i c3 hm rfl pj_X2_takesFirstWord rfl rfl ⟨_, _, _, rfl, sh_27⟩ rfl ((ct_X2_takesFirstWord_27_1p X (by omega) M0 hH0 1 ⟨by omega, by omega⟩).le (by decide)) (fun z1 M4 ⟨hH4, hR4, lz1, uz1, p2, p3⟩ => ?_)
 have hF4 := hF0.tr hR4 (by decide +kernel)
 refine jz_eq c1 hm 27 rfl rfl (fun h5 => ?_) (fun h5 => ?_)
 ·
  refine jy_ic c1 hm rfl (by decide) ?_
  exact jx_retz c2 hm rfl rfl ⟨by omega, by omega⟩ ⟨_, rfl, hH4, hF4, by omega, by omega, (fun t σ hσ hk => LRc.seqz (p2 t σ hσ hk) (by omega)), ((LFr.rf _ _).tr p3 (by decide +kernel))⟩
 refine jx_load c1 hm rfl rfl rfl rfl ?_
 refine jx_load c1 hm rfl rfl rfl rfl ?_
 refine jv_i c3 hm rfl pj_X10_takesNewName rfl rfl ⟨_, _, _, rfl, sh_1⟩ rfl ((ct_X10_takesNewName_1_27p X (by omega) M4 hH4 ).le (by decide)) (fun z6 M10 ⟨hH10, hR10, lz6, uz6, p7, p8, p9⟩ => ?_)
 have hF10 := hF4.tr hR10 (by decide +kernel)
 refine jz_eq c1 hm 27 rfl rfl (fun h11 => ?_) (fun h11 => ?_)
 ·
  refine jy_ic c1 hm rfl (by decide) ?_
  exact jx_retz c2 hm rfl rfl ⟨by omega, by omega⟩ ⟨_, rfl, hH10, hF10, by omega, by omega, (fun t σ hσ hk => LRc.seqg (p2 t σ hσ hk) (by omega) (fun l1 h1 => LRc.seqz (p7 t _ 1 (by decide) h1 (by rw [(fst_lt hσ.2.2.2 l1).1]; exact (fst_lt hσ.2.2.2 l1).2)) (by omega))), (((LFr.rf _ _).tr p3 (by decide +kernel)).tr p9 (by decide +kernel))⟩
 refine jx_load c1 hm rfl rfl rfl rfl ?_
 refine jy_ic c1 hm rfl (by decide) ?_
 refine jy_bp c1 hm rfl (by decide) ?_
 refine jv_i c3 hm rfl pj_X10_takesNumber rfl rfl ⟨_, _, _, rfl, sh_1⟩ rfl ((ct_X10_takesNumber_1p X (by omega) M10 hH10 0 ⟨by omega, by omega⟩ 20 ⟨by omega, by omega⟩).le (by decide)) (fun z12 M17 ⟨hH17, hR17, lz12, uz12, p13, p14, p15, p16⟩ => ?_)
 have hF17 := hF10.tr hR17 (by decide +kernel)
 obtain ⟨z18, k19, lz18, uz18⟩ := hH17.ld (c := 1) (i := 11) (A := 0) (B := 999) (bs_19_7 _ _ (by omega) (by omega))
 refine jz_ne c1 hm 29 rfl rfl (fun h20 => ?_) (fun h20 => ?_)
 ·
  refine jx_load c1 hm rfl rfl rfl rfl ?_
  refine jx_getr c1 hm rfl sh_27 rfl ?_
  refine jx_load c1 hm rfl rfl rfl rfl ?_
  refine jy_ic c1 hm rfl (by decide) ?_
  refine jx_load c1 hm rfl rfl rfl rfl ?_
  obtain ⟨w21, kw21⟩ : ∃ w, M17.2 1 10 = w := ⟨_, rfl⟩
  refine jx_getl c1 hm rfl sh_1 rfl kw21 ?_
  skip
  refine jv_i c3 hm rfl pj_X2_addName rfl rfl ⟨_, _, _, rfl, sh_27⟩ rfl ((ct_X2_addName_27p X (by omega) M17 hH17 1 ⟨by omega, by omega⟩ w21).le (by decide)) (fun z22 M25 ⟨hH25, hR25, lz22, uz22, p23, p24⟩ => ?_)
  have hF25 := hF17.tr hR25 (by decide +kernel)
  refine jx_load c1 hm rfl rfl rfl rfl ?_
  have k26 : M25.1 1 11 = z18 := (hR25 1 11 (by decide +kernel)).trans k19
  refine jx_geti c1 hm rfl sh_1 rfl k26 ?_
  obtain ⟨M27, e27, hH27, hF27, k27, n27, q27⟩ := mup hH25 hF25 (c := 31) (i := (z22).toNat) (v := z18) (A := 0) (B := 20) rfl ⟨by omega, by omega⟩ (jin_of 9 rfl ⟨by omega, by omega⟩)
  refine jm_iast c1 hm rfl sh_31 ⟨by omega, by omega⟩ e27 ?_
  refine jy_ic c1 hm rfl (by decide) ?_
  exact jx_retz c2 hm rfl rfl ⟨by omega, by omega⟩ ⟨_, rfl, hH27, hF27, by omega, by omega, (fun t σ hσ hk => LRc.seqg (p2 t σ hσ hk) (by omega) (fun l1 h1 => LRc.seqg (p7 t _ 1 (by decide) h1 (by rw [(fst_lt hσ.2.2.2 l1).1]; exact (fst_lt hσ.2.2.2 l1).2)) (by omega) (fun l2 h2 => LRc.seqg (p14 t _ h2) (by omega) (fun l3 h3 => LRc.o (CS.st (add_fin (by decide) h1 (by rw [(fst_lt hσ.2.2.2 l1).1]; exact (fst_lt hσ.2.2.2 l1).2) (p8 t _ h1 (by omega)).1 (p8 t _ h1 (by omega)).2.1 l2 (num_e3 h2.2.2.2 l3) h3 (by rw [← kw21, (p16 1 10 rfl)]; exact (p8 t _ h1 (by omega)).2.2) (p23 (add_cnt (s := 1) (by decide) h1 (by rw [(fst_lt hσ.2.2.2 l1).1]; exact (fst_lt hσ.2.2.2 l1).2) l2 (num_e3 h2.2.2.2 l3) h3)).2) n27 q27 rfl) (show (-1 : Int) < 0 by decide))))), ((((((LFr.rf _ _).tr p3 (by decide +kernel)).tr p9 (by decide +kernel)).tr p16 (by decide +kernel)).tr p24 (by decide +kernel)).eq q27)⟩
 refine jy_ic c1 hm rfl (by decide) ?_
 exact jx_retz c2 hm rfl rfl ⟨by omega, by omega⟩ ⟨_, rfl, hH17, hF17, by omega, by omega, (fun t σ hσ hk => LRc.seqg (p2 t σ hσ hk) (by omega) (fun l1 h1 => LRc.seqg (p7 t _ 1 (by decide) h1 (by rw [(fst_lt hσ.2.2.2 l1).1]; exact (fst_lt hσ.2.2.2 l1).2)) (by omega) (fun l2 h2 => LRc.seqz (p14 t _ h2) (by omega)))), ((((LFr.rf _ _).tr p3 (by decide +kernel)).tr p9 (by decide +kernel)).tr p16 (by decide +kernel))⟩
def ml_X2_readGood_27_1p : List (Nat × (Nat × Nat)) := [(1, (8, 8)), (1, (10, 10)), (29, (0, 17))]
def md_X2_readGood_27_1p : List (Nat × (Nat × Nat)) := [(1, (4, 4)), (1, (5, 5)), (1, (6, 6)), (1, (7, 7)), (1, (9, 9)), (1, (11, 11)), (1, (12, 12)), (1, (13, 13)), (28, (0, 2)), (33, (0, 5)), (38, (0, 5))]
theorem ct_X2_readGood_27_1p (X : Int) (hX : 0 ≤ X ∧ X ≤ 100000000) (M0 : JM) (hH0 : HI X M0)  : JOk shp PJ 4 223 [.inr (.inr (.inl 27)), .inr (.inr (.inl 1))] M0 (jRi (fun v M' => HI X M' ∧ Fr md_X2_readGood_27_1p M0 M' ∧ 0 ≤ v ∧ v ≤ 1 ∧ (∀ (t : TXT) (σ : PSt), CS M0 t σ → 2 ≤ kK t σ → LRc t (gooS t σ) v M') ∧ (LFr ml_X2_readGood_27_1p M0 M'))) := by
 refine ⟨jr_X2_readGood, pj_X2_readGood, fun F c1 c2 c3 => ?_⟩
 have hm := pj_X2_readGood
 change F 0 [some (.inr (.inr (.inl 27))), some (.inr (.inr (.inl 1))), none, none] [] M0
 have hF0 : Fr md_X2_readGood_27_1p M0 M0 := Fr.rf _ _
 refine jx_load c1 hm rfl rfl rfl rfl ?_
 refine jx_load c1 hm rfl rfl rfl rfl ?_
 refine jy_ic c1 hm rfl (by decide) ?_
 refine jv_i c3 hm rfl pj_X2_takesFirstWord rfl rfl ⟨_, _, _, rfl, sh_27⟩ rfl ((ct_X2_takesFirstWord_27_1p X (by omega) M0 hH0 2 ⟨by omega, by omega⟩).le (by decide)) (fun z1 M4 ⟨hH4, hR4, lz1, uz1, p2, p3⟩ => ?_)
 have hF4 := hF0.tr hR4 (by decide +kernel)
 refine jz_eq c1 hm 27 rfl rfl (fun h5 => ?_) (fun h5 => ?_)
 ·
  refine jy_ic c1 hm rfl (by decide) ?_
  exact jx_retz c2 hm rfl rfl ⟨by omega, by omega⟩ ⟨_, rfl, hH4, hF4, by omega, by omega, (fun t σ hσ hk => LRc.seqz (p2 t σ hσ hk) (by omega)), ((LFr.rf _ _).tr p3 (by decide +kernel))⟩
 refine jx_load c1 hm rfl rfl rfl rfl ?_
 refine jx_load c1 hm rfl rfl rfl rfl ?_
 refine jv_i c3 hm rfl pj_X10_takesNewName rfl rfl ⟨_, _, _, rfl, sh_1⟩ rfl ((ct_X10_takesNewName_1_27p X (by omega) M4 hH4 ).le (by decide)) (fun z6 M10 ⟨hH10, hR10, lz6, uz6, p7, p8, p9⟩ => ?_)
 have hF10 := hF4.tr hR10 (by decide +kernel)
 refine jz_eq c1 hm 27 rfl rfl (fun h11 => ?_) (fun h11 => ?_)
 ·
  refine jy_ic c1 hm rfl (by decide) ?_
  exact jx_retz c2 hm rfl rfl ⟨by omega, by omega⟩ ⟨_, rfl, hH10, hF10, by omega, by omega, (fun t σ hσ hk => LRc.seqg (p2 t σ hσ hk) (by omega) (fun l1 h1 => LRc.seqz (p7 t _ 2 (by decide) h1 (by rw [(fst_lt hσ.2.2.2 l1).1]; exact (fst_lt hσ.2.2.2 l1).2)) (by omega))), (((LFr.rf _ _).tr p3 (by decide +kernel)).tr p9 (by decide +kernel))⟩
 refine jx_load c1 hm rfl rfl rfl rfl ?_
 refine jy_ic c1 hm rfl (by decide) ?_
 refine jy_bp c1 hm rfl (by decide) ?_
 refine jv_i c3 hm rfl pj_X10_takesNumber rfl rfl ⟨_, _, _, rfl, sh_1⟩ rfl ((ct_X10_takesNumber_1p X (by omega) M10 hH10 1 ⟨by omega, by omega⟩ 99 ⟨by omega, by omega⟩).le (by decide)) (fun z12 M17 ⟨hH17, hR17, lz12, uz12, p13, p14, p15, p16⟩ => ?_)
 have hF17 := hF10.tr hR17 (by decide +kernel)
 obtain ⟨z18, k19, lz18, uz18⟩ := hH17.ld (c := 1) (i := 11) (A := 0) (B := 999) (bs_19_7 _ _ (by omega) (by omega))
 refine jz_ne c1 hm 29 rfl rfl (fun h20 => ?_) (fun h20 => ?_)
 ·
  refine jx_load c1 hm rfl rfl rfl rfl ?_
  refine jx_geti c1 hm rfl sh_1 rfl k19 ?_
  refine jx_stor c1 hm (L' := [some (.inr (.inr (.inl 27))), some (.inr (.inr (.inl 1))), some (.inl z18), none]) rfl rfl rfl rfl rfl ?_
  refine jx_load c1 hm rfl rfl rfl rfl ?_
  refine jy_ic c1 hm rfl (by decide) ?_
  refine jy_bp c1 hm rfl (by decide) ?_
  refine jv_i c3 hm rfl pj_X10_takesNumber rfl rfl ⟨_, _, _, rfl, sh_1⟩ rfl ((ct_X10_takesNumber_1p X (by omega) M17 hH17 0 ⟨by omega, by omega⟩ 20 ⟨by omega, by omega⟩).le (by decide)) (fun z21 M26 ⟨hH26, hR26, lz21, uz21, p22, p23, p24, p25⟩ => ?_)
  have hF26 := hF17.tr hR26 (by decide +kernel)
  obtain ⟨z27, k28, lz27, uz27⟩ := hH26.ld (c := 1) (i := 11) (A := 0) (B := 999) (bs_19_7 _ _ (by omega) (by omega))
  refine jz_ne c1 hm 46 rfl rfl (fun h29 => ?_) (fun h29 => ?_)
  ·
   refine jx_load c1 hm rfl rfl rfl rfl ?_
   refine jy_ic c1 hm rfl (by decide) ?_
   refine jx_load c1 hm rfl rfl rfl rfl ?_
   obtain ⟨w30, kw30⟩ : ∃ w, M26.2 1 10 = w := ⟨_, rfl⟩
   refine jx_getl c1 hm rfl sh_1 rfl kw30 ?_
   skip
   refine jv_i c3 hm rfl pj_X2_addName rfl rfl ⟨_, _, _, rfl, sh_27⟩ rfl ((ct_X2_addName_27p X (by omega) M26 hH26 2 ⟨by omega, by omega⟩ w30).le (by decide)) (fun z31 M34 ⟨hH34, hR34, lz31, uz31, p32, p33⟩ => ?_)
   have hF34 := hF26.tr hR34 (by decide +kernel)
   refine jx_stor c1 hm (L' := [some (.inr (.inr (.inl 27))), some (.inr (.inr (.inl 1))), some (.inl z18), some (.inl z31)]) rfl rfl rfl rfl rfl ?_
   refine jx_load c1 hm rfl rfl rfl rfl ?_
   refine jx_getr c1 hm rfl sh_27 rfl ?_
   refine jx_load c1 hm rfl rfl rfl rfl ?_
   refine jx_load c1 hm rfl rfl rfl rfl ?_
   obtain ⟨M35, e35, hH35, hF35, k35, n35, q35⟩ := mup hH34 hF34 (c := 33) (i := (z31).toNat) (v := z18) (A := 0) (B := 99) rfl ⟨by omega, by omega⟩ (jin_of 9 rfl ⟨by omega, by omega⟩)
   refine jm_iast c1 hm rfl sh_33 ⟨by omega, by omega⟩ e35 ?_
   refine jx_load c1 hm rfl rfl rfl rfl ?_
   refine jx_getr c1 hm rfl sh_27 rfl ?_
   refine jx_getr c1 hm rfl sh_34 rfl ?_
   refine jx_load c1 hm rfl rfl rfl rfl ?_
   refine jx_load c1 hm rfl rfl rfl rfl ?_
   have k36 : M35.1 1 11 = z27 := (n35 1 11 (fun h => absurd h.1 (by decide))).trans ((hR34 1 11 (by decide +kernel)).trans k28)
   refine jx_geti c1 hm rfl sh_1 rfl k36 ?_
   obtain ⟨M37, e37, hH37, hF37, k37, n37, q37⟩ := mup hH35 hF35 (c := 38) (i := (z31).toNat) (v := z27) (A := (-2147483648)) (B := 2147483647) rfl ⟨by omega, by omega⟩ (jin_of 10 rfl ⟨by omega, by omega⟩)
   refine jm_iast c1 hm rfl sh_38 ⟨by omega, by omega⟩ e37 ?_
   refine jy_ic c1 hm rfl (by decide) ?_
   exact jx_retz c2 hm rfl rfl ⟨by omega, by omega⟩ ⟨_, rfl, hH37, hF37, by omega, by omega, (fun t σ hσ hk => LRc.seqg (p2 t σ hσ hk) (by omega) (fun l1 h1 => LRc.seqg (p7 t _ 2 (by decide) h1 (by rw [(fst_lt hσ.2.2.2 l1).1]; exact (fst_lt hσ.2.2.2 l1).2)) (by omega) (fun l2 h2 => LRc.seqg (p14 t _ h2) (by omega) (fun l3 h3 => LRc.seqg (p23 t _ h3) (by omega) (fun l4 h4 => LRc.o (CS.st (CS.st (add_fin (by decide) h1 (by rw [(fst_lt hσ.2.2.2 l1).1]; exact (fst_lt hσ.2.2.2 l1).2) (p8 t _ h1 (by omega)).1 (p8 t _ h1 (by omega)).2.1 l2 ((num_e3 h3.2.2.2 l4).trans (num_e3 h2.2.2.2 l3)) h4 (by rw [← kw30, ((p25 1 10 rfl).trans (p16 1 10 rfl))]; exact (p8 t _ h1 (by omega)).2.2) (p32 (add_cnt (s := 2) (by decide) h1 (by rw [(fst_lt hσ.2.2.2 l1).1]; exact (fst_lt hσ.2.2.2 l1).2) l2 ((num_e3 h3.2.2.2 l4).trans (num_e3 h2.2.2.2 l3)) h4)).2) n35 q35 rfl) n37 q37 rfl) (show (-1 : Int) < 0 by decide)))))), ((((((((LFr.rf _ _).tr p3 (by decide +kernel)).tr p9 (by decide +kernel)).tr p16 (by decide +kernel)).tr p25 (by decide +kernel)).tr p33 (by decide +kernel)).eq q35).eq q37)⟩
  refine jy_ic c1 hm rfl (by decide) ?_
  exact jx_retz c2 hm rfl rfl ⟨by omega, by omega⟩ ⟨_, rfl, hH26, hF26, by omega, by omega, (fun t σ hσ hk => LRc.seqg (p2 t σ hσ hk) (by omega) (fun l1 h1 => LRc.seqg (p7 t _ 2 (by decide) h1 (by rw [(fst_lt hσ.2.2.2 l1).1]; exact (fst_lt hσ.2.2.2 l1).2)) (by omega) (fun l2 h2 => LRc.seqg (p14 t _ h2) (by omega) (fun l3 h3 => LRc.seqz (p23 t _ h3) (by omega))))), (((((LFr.rf _ _).tr p3 (by decide +kernel)).tr p9 (by decide +kernel)).tr p16 (by decide +kernel)).tr p25 (by decide +kernel))⟩
 refine jy_ic c1 hm rfl (by decide) ?_
 exact jx_retz c2 hm rfl rfl ⟨by omega, by omega⟩ ⟨_, rfl, hH17, hF17, by omega, by omega, (fun t σ hσ hk => LRc.seqg (p2 t σ hσ hk) (by omega) (fun l1 h1 => LRc.seqg (p7 t _ 2 (by decide) h1 (by rw [(fst_lt hσ.2.2.2 l1).1]; exact (fst_lt hσ.2.2.2 l1).2)) (by omega) (fun l2 h2 => LRc.seqz (p14 t _ h2) (by omega)))), ((((LFr.rf _ _).tr p3 (by decide +kernel)).tr p9 (by decide +kernel)).tr p16 (by decide +kernel))⟩
def ml_X2_readWears_27_1p : List (Nat × (Nat × Nat)) := [(1, (8, 8))]
def md_X2_readWears_27_1p : List (Nat × (Nat × Nat)) := [(1, (4, 4)), (1, (5, 5)), (1, (6, 6)), (1, (7, 7)), (1, (9, 9)), (1, (11, 11)), (1, (12, 12)), (1, (13, 13)), (27, (6, 6))]
theorem ct_X2_readWears_27_1p (X : Int) (hX : 0 ≤ X ∧ X ≤ 100000000) (M0 : JM) (hH0 : HI X M0)  : JOk shp PJ 4 230 [.inr (.inr (.inl 27)), .inr (.inr (.inl 1))] M0 (jRi (fun v M' => HI X M' ∧ Fr md_X2_readWears_27_1p M0 M' ∧ 0 ≤ v ∧ v ≤ 1 ∧ (∀ (t : TXT) (σ : PSt), CS M0 t σ → 2 ≤ kK t σ → LRc t (wmS t 72 σ) v M') ∧ (LFr ml_X2_readWears_27_1p M0 M'))) := by
 refine ⟨jr_X2_readWears, pj_X2_readWears, fun F c1 c2 c3 => ?_⟩
 have hm := pj_X2_readWears
 change F 0 [some (.inr (.inr (.inl 27))), some (.inr (.inr (.inl 1)))] [] M0
 have hF0 : Fr md_X2_readWears_27_1p M0 M0 := Fr.rf _ _
 refine jx_load c1 hm rfl rfl rfl rfl ?_
 obtain ⟨z1, k2, lz1, uz1⟩ := hH0.ld (c := 27) (i := 6) (A := (-1)) (B := 9) (bs_23_1 _ _ (by omega) (by omega))
 refine jx_geti c1 hm rfl sh_27 rfl k2 ?_
 refine jy_ic c1 hm rfl (by decide) ?_
 refine jc_eq c1 hm 18 rfl rfl (fun h3 => ?_) (fun h3 => ?_)
 ·
  refine jx_load c1 hm rfl rfl rfl rfl ?_
  obtain ⟨z4, k5, lz4, uz4⟩ := hH0.ld (c := 1) (i := 2) (A := 0) (B := 940) (bs_19_1 _ _ (by omega) (by omega))
  obtain ⟨z6, k7, lz6, uz6⟩ := hH0.ld (c := 1) (i := 4) (A := 0) (B := 940) (bs_19_3 _ _ (by omega) (by omega))
  refine jv_v c3 hm rfl pj_X10_next rfl rfl ⟨_, _, _, rfl, sh_1⟩ rfl ((ct_X10_next_1p X (by omega) M0 hH0 ).le (by decide)) (fun M10 ⟨hH10, hR10, p8, p9⟩ => ?_)
  have hF10 := hF0.tr hR10 (by decide +kernel)
  refine jx_load c1 hm rfl rfl rfl rfl ?_
  refine jy_ic c1 hm rfl (by decide) ?_
  refine jy_bp c1 hm rfl (by decide) ?_
  refine jv_i c3 hm rfl pj_X10_takesNumber rfl rfl ⟨_, _, _, rfl, sh_1⟩ rfl ((ct_X10_takesNumber_1p X (by omega) M10 hH10 0 ⟨by omega, by omega⟩ 9 ⟨by omega, by omega⟩).le (by decide)) (fun z11 M16 ⟨hH16, hR16, lz11, uz11, p12, p13, p14, p15⟩ => ?_)
  have hF16 := hF10.tr hR16 (by decide +kernel)
  obtain ⟨z17, k18, lz17, uz17⟩ := hH16.ld (c := 1) (i := 11) (A := 0) (B := 999) (bs_19_7 _ _ (by omega) (by omega))
  refine jz_ne c1 hm 34 rfl rfl (fun h19 => ?_) (fun h19 => ?_)
  ·
   refine jx_load c1 hm rfl rfl rfl rfl ?_
   refine jx_load c1 hm rfl rfl rfl rfl ?_
   refine jx_geti c1 hm rfl sh_1 rfl k18 ?_
   obtain ⟨M20, e20, hH20, hF20, k20, n20, q20⟩ := mup hH16 hF16 (c := 27) (i := 6) (v := z17) (A := (-1)) (B := 9) (bs_23_1 _ _ (by omega) (by omega)) ⟨by omega, by omega⟩ (jin_of 8 rfl ⟨by omega, by omega⟩)
   refine jm_puti c1 hm rfl sh_27 rfl e20 ?_
   refine jy_ic c1 hm rfl (by decide) ?_
   exact jx_retz c2 hm rfl rfl ⟨by omega, by omega⟩ ⟨_, rfl, hH20, hF20, by omega, by omega, (fun t σ hσ hk => LRc.eq (wm_eq (i := 6) (by decide) hσ (by omega)) (LRc.seqg (p13 t _ (hσ.next hk p8 (hR10 1 12 rfl) hR10 p9 (by decide +kernel))) (by omega) (fun l1 h1 => LRc.o (CS.flag h1 n20 q20 (by omega)) (show (-1 : Int) < 0 by decide)))), ((((LFr.rf _ _).tr p9 (by decide +kernel)).tr p15 (by decide +kernel)).eq q20)⟩
  refine jy_ic c1 hm rfl (by decide) ?_
  exact jx_retz c2 hm rfl rfl ⟨by omega, by omega⟩ ⟨_, rfl, hH16, hF16, by omega, by omega, (fun t σ hσ hk => LRc.eq (wm_eq (i := 6) (by decide) hσ (by omega)) (LRc.seqz (p13 t _ (hσ.next hk p8 (hR10 1 12 rfl) hR10 p9 (by decide +kernel))) (by omega))), (((LFr.rf _ _).tr p9 (by decide +kernel)).tr p15 (by decide +kernel))⟩
 refine jx_load c1 hm rfl rfl rfl rfl ?_
 refine jy_ic c1 hm rfl (by decide) ?_
 refine jx_load c1 hm rfl rfl rfl rfl ?_
 obtain ⟨z21, k22, lz21, uz21⟩ := hH0.ld (c := 1) (i := 5) (A := 0) (B := 940) (bs_19_3 _ _ (by omega) (by omega))
 refine jx_geti c1 hm rfl sh_1 rfl k22 ?_
 refine jv_i c3 hm rfl pj_X10_fails rfl rfl ⟨_, _, _, rfl, sh_1⟩ rfl ((ct_X10_fails_1p X (by omega) M0 hH0 3 ⟨by omega, by omega⟩ z21 ⟨by omega, by omega⟩).le (by decide)) (fun z23 M29 ⟨hH29, hR29, lz23, uz23, p24, p25, p26, p27, p28⟩ => ?_)
 have hF29 := hF0.tr hR29 (by decide +kernel)
 obtain ⟨z30, k31, lz30, uz30⟩ := hH29.ld (c := 1) (i := 12) (A := 0) (B := 4) (bs_19_8 _ _ (by omega) (by omega))
 obtain ⟨z32, k33, lz32, uz32⟩ := hH29.ld (c := 1) (i := 13) (A := 0) (B := 940) (bs_19_9 _ _ (by omega) (by omega))
 exact jx_retz c2 hm rfl rfl ⟨by omega, by omega⟩ ⟨_, rfl, hH29, hF29, by omega, by omega, (fun t σ hσ hk => wm_no (i := 6) (by decide) hσ (by omega) (by omega) (by omega) (by omega)), ((LFr.rf _ _).tr p28 (by decide +kernel))⟩
def ml_X2_readMends_27_1p : List (Nat × (Nat × Nat)) := [(1, (8, 8))]
def md_X2_readMends_27_1p : List (Nat × (Nat × Nat)) := [(1, (4, 4)), (1, (5, 5)), (1, (6, 6)), (1, (7, 7)), (1, (9, 9)), (1, (11, 11)), (1, (12, 12)), (1, (13, 13)), (27, (7, 7))]
theorem ct_X2_readMends_27_1p (X : Int) (hX : 0 ≤ X ∧ X ≤ 100000000) (M0 : JM) (hH0 : HI X M0)  : JOk shp PJ 4 227 [.inr (.inr (.inl 27)), .inr (.inr (.inl 1))] M0 (jRi (fun v M' => HI X M' ∧ Fr md_X2_readMends_27_1p M0 M' ∧ 0 ≤ v ∧ v ≤ 1 ∧ (∀ (t : TXT) (σ : PSt), CS M0 t σ → 2 ≤ kK t σ → LRc t (wmS t 73 σ) v M') ∧ (LFr ml_X2_readMends_27_1p M0 M'))) := by
 refine ⟨jr_X2_readMends, pj_X2_readMends, fun F c1 c2 c3 => ?_⟩
 have hm := pj_X2_readMends
 change F 0 [some (.inr (.inr (.inl 27))), some (.inr (.inr (.inl 1)))] [] M0
 have hF0 : Fr md_X2_readMends_27_1p M0 M0 := Fr.rf _ _
 refine jx_load c1 hm rfl rfl rfl rfl ?_
 obtain ⟨z1, k2, lz1, uz1⟩ := hH0.ld (c := 27) (i := 7) (A := (-1)) (B := 9) (bs_23_1 _ _ (by omega) (by omega))
 refine jx_geti c1 hm rfl sh_27 rfl k2 ?_
 refine jy_ic c1 hm rfl (by decide) ?_
 refine jc_eq c1 hm 18 rfl rfl (fun h3 => ?_) (fun h3 => ?_)
 ·
  refine jx_load c1 hm rfl rfl rfl rfl ?_
  obtain ⟨z4, k5, lz4, uz4⟩ := hH0.ld (c := 1) (i := 2) (A := 0) (B := 940) (bs_19_1 _ _ (by omega) (by omega))
  obtain ⟨z6, k7, lz6, uz6⟩ := hH0.ld (c := 1) (i := 4) (A := 0) (B := 940) (bs_19_3 _ _ (by omega) (by omega))
  refine jv_v c3 hm rfl pj_X10_next rfl rfl ⟨_, _, _, rfl, sh_1⟩ rfl ((ct_X10_next_1p X (by omega) M0 hH0 ).le (by decide)) (fun M10 ⟨hH10, hR10, p8, p9⟩ => ?_)
  have hF10 := hF0.tr hR10 (by decide +kernel)
  refine jx_load c1 hm rfl rfl rfl rfl ?_
  refine jy_ic c1 hm rfl (by decide) ?_
  refine jy_bp c1 hm rfl (by decide) ?_
  refine jv_i c3 hm rfl pj_X10_takesNumber rfl rfl ⟨_, _, _, rfl, sh_1⟩ rfl ((ct_X10_takesNumber_1p X (by omega) M10 hH10 0 ⟨by omega, by omega⟩ 9 ⟨by omega, by omega⟩).le (by decide)) (fun z11 M16 ⟨hH16, hR16, lz11, uz11, p12, p13, p14, p15⟩ => ?_)
  have hF16 := hF10.tr hR16 (by decide +kernel)
  obtain ⟨z17, k18, lz17, uz17⟩ := hH16.ld (c := 1) (i := 11) (A := 0) (B := 999) (bs_19_7 _ _ (by omega) (by omega))
  refine jz_ne c1 hm 34 rfl rfl (fun h19 => ?_) (fun h19 => ?_)
  ·
   refine jx_load c1 hm rfl rfl rfl rfl ?_
   refine jx_load c1 hm rfl rfl rfl rfl ?_
   refine jx_geti c1 hm rfl sh_1 rfl k18 ?_
   obtain ⟨M20, e20, hH20, hF20, k20, n20, q20⟩ := mup hH16 hF16 (c := 27) (i := 7) (v := z17) (A := (-1)) (B := 9) (bs_23_1 _ _ (by omega) (by omega)) ⟨by omega, by omega⟩ (jin_of 8 rfl ⟨by omega, by omega⟩)
   refine jm_puti c1 hm rfl sh_27 rfl e20 ?_
   refine jy_ic c1 hm rfl (by decide) ?_
   exact jx_retz c2 hm rfl rfl ⟨by omega, by omega⟩ ⟨_, rfl, hH20, hF20, by omega, by omega, (fun t σ hσ hk => LRc.eq (wm_eq (i := 7) (by decide) hσ (by omega)) (LRc.seqg (p13 t _ (hσ.next hk p8 (hR10 1 12 rfl) hR10 p9 (by decide +kernel))) (by omega) (fun l1 h1 => LRc.o (CS.flag h1 n20 q20 (by omega)) (show (-1 : Int) < 0 by decide)))), ((((LFr.rf _ _).tr p9 (by decide +kernel)).tr p15 (by decide +kernel)).eq q20)⟩
  refine jy_ic c1 hm rfl (by decide) ?_
  exact jx_retz c2 hm rfl rfl ⟨by omega, by omega⟩ ⟨_, rfl, hH16, hF16, by omega, by omega, (fun t σ hσ hk => LRc.eq (wm_eq (i := 7) (by decide) hσ (by omega)) (LRc.seqz (p13 t _ (hσ.next hk p8 (hR10 1 12 rfl) hR10 p9 (by decide +kernel))) (by omega))), (((LFr.rf _ _).tr p9 (by decide +kernel)).tr p15 (by decide +kernel))⟩
 refine jx_load c1 hm rfl rfl rfl rfl ?_
 refine jy_ic c1 hm rfl (by decide) ?_
 refine jx_load c1 hm rfl rfl rfl rfl ?_
 obtain ⟨z21, k22, lz21, uz21⟩ := hH0.ld (c := 1) (i := 5) (A := 0) (B := 940) (bs_19_3 _ _ (by omega) (by omega))
 refine jx_geti c1 hm rfl sh_1 rfl k22 ?_
 refine jv_i c3 hm rfl pj_X10_fails rfl rfl ⟨_, _, _, rfl, sh_1⟩ rfl ((ct_X10_fails_1p X (by omega) M0 hH0 3 ⟨by omega, by omega⟩ z21 ⟨by omega, by omega⟩).le (by decide)) (fun z23 M29 ⟨hH29, hR29, lz23, uz23, p24, p25, p26, p27, p28⟩ => ?_)
 have hF29 := hF0.tr hR29 (by decide +kernel)
 obtain ⟨z30, k31, lz30, uz30⟩ := hH29.ld (c := 1) (i := 12) (A := 0) (B := 4) (bs_19_8 _ _ (by omega) (by omega))
 obtain ⟨z32, k33, lz32, uz32⟩ := hH29.ld (c := 1) (i := 13) (A := 0) (B := 940) (bs_19_9 _ _ (by omega) (by omega))
 exact jx_retz c2 hm rfl rfl ⟨by omega, by omega⟩ ⟨_, rfl, hH29, hF29, by omega, by omega, (fun t σ hσ hk => wm_no (i := 7) (by decide) hσ (by omega) (by omega) (by omega) (by omega)), ((LFr.rf _ _).tr p28 (by decide +kernel))⟩
def ml_X2_readMinds_27_1p : List (Nat × (Nat × Nat)) := [(1, (8, 8))]
def md_X2_readMinds_27_1p : List (Nat × (Nat × Nat)) := [(1, (4, 4)), (1, (5, 5)), (1, (6, 6)), (1, (7, 7)), (1, (9, 9)), (1, (11, 11)), (1, (12, 12)), (1, (13, 13)), (32, (0, 35))]
theorem ct_X2_readMinds_27_1p (X : Int) (hX : 0 ≤ X ∧ X ≤ 100000000) (M0 : JM) (hH0 : HI X M0)  : JOk shp PJ 4 228 [.inr (.inr (.inl 27)), .inr (.inr (.inl 1))] M0 (jRi (fun v M' => HI X M' ∧ Fr md_X2_readMinds_27_1p M0 M' ∧ 0 ≤ v ∧ v ≤ 1 ∧ (∀ (t : TXT) (σ : PSt), CS M0 t σ → 2 ≤ kK t σ → LRc t (minS t σ) v M') ∧ (LFr ml_X2_readMinds_27_1p M0 M'))) := by
 refine ⟨jr_X2_readMinds, pj_X2_readMinds, fun F c1 c2 c3 => ?_⟩
 have hm := pj_X2_readMinds
 change F 0 [some (.inr (.inr (.inl 27))), some (.inr (.inr (.inl 1))), none, none, none] [] M0
 have hF0 : Fr md_X2_readMinds_27_1p M0 M0 := Fr.rf _ _
 refine jx_load c1 hm rfl rfl rfl rfl ?_
 obtain ⟨z1, k2, lz1, uz1⟩ := hH0.ld (c := 1) (i := 2) (A := 0) (B := 940) (bs_19_1 _ _ (by omega) (by omega))
 obtain ⟨z3, k4, lz3, uz3⟩ := hH0.ld (c := 1) (i := 4) (A := 0) (B := 940) (bs_19_3 _ _ (by omega) (by omega))
 refine jv_v c3 hm rfl pj_X10_next rfl rfl ⟨_, _, _, rfl, sh_1⟩ rfl ((ct_X10_next_1p X (by omega) M0 hH0 ).le (by decide)) (fun M7 ⟨hH7, hR7, p5, p6⟩ => ?_)
 have hF7 := hF0.tr hR7 (by decide +kernel)
 refine jx_load c1 hm rfl rfl rfl rfl ?_
 refine jx_load c1 hm rfl rfl rfl rfl ?_
 refine jy_ic c1 hm rfl (by decide) ?_
 refine jv_i c3 hm rfl pj_X10_takesName rfl rfl ⟨_, _, _, rfl, sh_1⟩ rfl ((ct_X10_takesName_1_27p X (by omega) M7 hH7 0 ⟨by omega, by omega⟩).le (by decide)) (fun z8 M12 ⟨hH12, hR12, lz8, uz8, p9, p10, p11⟩ => ?_)
 have hF12 := hF7.tr hR12 (by decide +kernel)
 obtain ⟨z13, k14, lz13, uz13⟩ := hH12.ld (c := 1) (i := 11) (A := 0) (B := 999) (bs_19_7 _ _ (by omega) (by omega))
 refine jz_ne c1 hm 15 rfl rfl (fun h15 => ?_) (fun h15 => ?_)
 ·
  refine jx_load c1 hm rfl rfl rfl rfl ?_
  refine jx_geti c1 hm rfl sh_1 rfl k14 ?_
  refine jx_stor c1 hm (L' := [some (.inr (.inr (.inl 27))), some (.inr (.inr (.inl 1))), some (.inl z13), none, none]) rfl rfl rfl rfl rfl ?_
  refine jx_load c1 hm rfl rfl rfl rfl ?_
  obtain ⟨z16, k17, lz16, uz16⟩ := hH12.ld (c := 1) (i := 5) (A := 0) (B := 940) (bs_19_3 _ _ (by omega) (by omega))
  refine jx_geti c1 hm rfl sh_1 rfl k17 ?_
  refine jx_stor c1 hm (L' := [some (.inr (.inr (.inl 27))), some (.inr (.inr (.inl 1))), some (.inl z13), some (.inl z16), none]) rfl rfl rfl rfl rfl ?_
  refine jx_load c1 hm rfl rfl rfl rfl ?_
  refine jx_load c1 hm rfl rfl rfl rfl ?_
  refine jy_ic c1 hm rfl (by decide) ?_
  refine jv_i c3 hm rfl pj_X10_takesName rfl rfl ⟨_, _, _, rfl, sh_1⟩ rfl ((ct_X10_takesName_1_27p X (by omega) M12 hH12 1 ⟨by omega, by omega⟩).le (by decide)) (fun z18 M22 ⟨hH22, hR22, lz18, uz18, p19, p20, p21⟩ => ?_)
  have hF22 := hF12.tr hR22 (by decide +kernel)
  obtain ⟨z23, k24, lz23, uz23⟩ := hH22.ld (c := 1) (i := 11) (A := 0) (B := 999) (bs_19_7 _ _ (by omega) (by omega))
  refine jz_ne c1 hm 36 rfl rfl (fun h25 => ?_) (fun h25 => ?_)
  ·
   refine jx_load c1 hm rfl rfl rfl rfl ?_
   refine jy_bp c1 hm rfl (by decide) ?_
   refine jy_mul c1 hm (6 * z13) rfl (by omega) ?_
   refine jx_load c1 hm rfl rfl rfl rfl ?_
   refine jx_geti c1 hm rfl sh_1 rfl k24 ?_
   refine jy_add c1 hm (6 * z13 + z23) rfl (by omega) ?_
   refine jx_stor c1 hm (L' := [some (.inr (.inr (.inl 27))), some (.inr (.inr (.inl 1))), some (.inl z13), some (.inl z16), some (.inl (6 * z13 + z23))]) rfl rfl rfl rfl rfl ?_
   skip
   refine jx_load c1 hm rfl rfl rfl rfl ?_
   refine jx_getr c1 hm rfl sh_27 rfl ?_
   refine jx_load c1 hm rfl rfl rfl rfl ?_
   obtain ⟨z26, k27, lz26, uz26⟩ := hH22.ld (c := 32) (i := ((6 * z13 + z23)).toNat) (A := (-1)) (B := 20) rfl
   refine jx_iald c1 hm rfl sh_32 ⟨by omega, by omega⟩ k27 ?_
   refine jy_ic c1 hm rfl (by decide) ?_
   refine jc_eq c1 hm 65 rfl rfl (fun h28 => ?_) (fun h28 => ?_)
   ·
    refine jx_load c1 hm rfl rfl rfl rfl ?_
    refine jy_ic c1 hm rfl (by decide) ?_
    refine jy_bp c1 hm rfl (by decide) ?_
    refine jv_i c3 hm rfl pj_X10_takesNumber rfl rfl ⟨_, _, _, rfl, sh_1⟩ rfl ((ct_X10_takesNumber_1p X (by omega) M22 hH22 0 ⟨by omega, by omega⟩ 20 ⟨by omega, by omega⟩).le (by decide)) (fun z29 M34 ⟨hH34, hR34, lz29, uz29, p30, p31, p32, p33⟩ => ?_)
    have hF34 := hF22.tr hR34 (by decide +kernel)
    obtain ⟨z35, k36, lz35, uz35⟩ := hH34.ld (c := 1) (i := 11) (A := 0) (B := 999) (bs_19_7 _ _ (by omega) (by omega))
    refine jz_ne c1 hm 77 rfl rfl (fun h37 => ?_) (fun h37 => ?_)
    ·
     refine jx_load c1 hm rfl rfl rfl rfl ?_
     refine jx_getr c1 hm rfl sh_27 rfl ?_
     refine jx_load c1 hm rfl rfl rfl rfl ?_
     refine jx_load c1 hm rfl rfl rfl rfl ?_
     refine jx_geti c1 hm rfl sh_1 rfl k36 ?_
     obtain ⟨M38, e38, hH38, hF38, k38, n38, q38⟩ := mup hH34 hF34 (c := 32) (i := ((6 * z13 + z23)).toNat) (v := z35) (A := (-1)) (B := 20) rfl ⟨by omega, by omega⟩ (jin_of 8 rfl ⟨by omega, by omega⟩)
     refine jm_iast c1 hm rfl sh_32 ⟨by omega, by omega⟩ e38 ?_
     refine jy_ic c1 hm rfl (by decide) ?_
     exact jx_retz c2 hm rfl rfl ⟨by omega, by omega⟩ ⟨_, rfl, hH38, hF38, by omega, by omega, (fun t σ hσ hk => LRc.eq (NMP.ok (p10 t _ _ (hσ.next hk p5 (hR7 1 12 rfl) hR7 p6 (by decide +kernel))) (by omega)).2.1 (LRc.eq (NMP.ok (p20 t _ _ (NMP.ok (p10 t _ (fun _ y => okS y) (hσ.next hk p5 (hR7 1 12 rfl) hR7 p6 (by decide +kernel))) (by omega)).1) (by omega)).2.1 (LRc.eq (if_neg (by have b1 := (NMP.ok (p10 t _ (fun _ y => okS y) (hσ.next hk p5 (hR7 1 12 rfl) hR7 p6 (by decide +kernel))) (by omega)).2.2; have b2 := (NMP.ok (p20 t _ (fun _ y => okS y) (NMP.ok (p10 t _ (fun _ y => okS y) (hσ.next hk p5 (hR7 1 12 rfl) hR7 p6 (by decide +kernel))) (by omega)).1) (by omega)).2.2; have y9 := fl_m (NMP.ok (p20 t _ (fun _ y => okS y) (NMP.ok (p10 t _ (fun _ y => okS y) (hσ.next hk p5 (hR7 1 12 rfl) hR7 p6 (by decide +kernel))) (by omega)).1) (by omega)).1 (x := 6 * M12.1 1 11 + M22.1 1 11) ⟨by omega, by omega⟩; rw [show (6 * M12.1 1 11 + M22.1 1 11).toNat = ((6 * z13 + z23)).toNat by omega] at y9 ⊢; exact fun e => e (y9.mp (by omega)))) (LRc.seqg (p31 t _ (NMP.ok (p20 t _ (fun _ y => okS y) (NMP.ok (p10 t _ (fun _ y => okS y) (hσ.next hk p5 (hR7 1 12 rfl) hR7 p6 (by decide +kernel))) (by omega)).1) (by omega)).1) (by omega) (fun l4 h4 => LRc.o (CS.flag h4 n38 q38 (by have b1 := (NMP.ok (p10 t _ (fun _ y => okS y) (hσ.next hk p5 (hR7 1 12 rfl) hR7 p6 (by decide +kernel))) (by omega)).2.2; have b2 := (NMP.ok (p20 t _ (fun _ y => okS y) (NMP.ok (p10 t _ (fun _ y => okS y) (hσ.next hk p5 (hR7 1 12 rfl) hR7 p6 (by decide +kernel))) (by omega)).1) (by omega)).2.2; omega)) (show (-1 : Int) < 0 by decide)))))), ((((((LFr.rf _ _).tr p6 (by decide +kernel)).tr p11 (by decide +kernel)).tr p21 (by decide +kernel)).tr p33 (by decide +kernel)).eq q38)⟩
    refine jy_ic c1 hm rfl (by decide) ?_
    exact jx_retz c2 hm rfl rfl ⟨by omega, by omega⟩ ⟨_, rfl, hH34, hF34, by omega, by omega, (fun t σ hσ hk => LRc.eq (NMP.ok (p10 t _ _ (hσ.next hk p5 (hR7 1 12 rfl) hR7 p6 (by decide +kernel))) (by omega)).2.1 (LRc.eq (NMP.ok (p20 t _ _ (NMP.ok (p10 t _ (fun _ y => okS y) (hσ.next hk p5 (hR7 1 12 rfl) hR7 p6 (by decide +kernel))) (by omega)).1) (by omega)).2.1 (LRc.eq (if_neg (by have b1 := (NMP.ok (p10 t _ (fun _ y => okS y) (hσ.next hk p5 (hR7 1 12 rfl) hR7 p6 (by decide +kernel))) (by omega)).2.2; have b2 := (NMP.ok (p20 t _ (fun _ y => okS y) (NMP.ok (p10 t _ (fun _ y => okS y) (hσ.next hk p5 (hR7 1 12 rfl) hR7 p6 (by decide +kernel))) (by omega)).1) (by omega)).2.2; have y9 := fl_m (NMP.ok (p20 t _ (fun _ y => okS y) (NMP.ok (p10 t _ (fun _ y => okS y) (hσ.next hk p5 (hR7 1 12 rfl) hR7 p6 (by decide +kernel))) (by omega)).1) (by omega)).1 (x := 6 * M12.1 1 11 + M22.1 1 11) ⟨by omega, by omega⟩; rw [show (6 * M12.1 1 11 + M22.1 1 11).toNat = ((6 * z13 + z23)).toNat by omega] at y9 ⊢; exact fun e => e (y9.mp (by omega)))) (LRc.seqz (p31 t _ (NMP.ok (p20 t _ (fun _ y => okS y) (NMP.ok (p10 t _ (fun _ y => okS y) (hσ.next hk p5 (hR7 1 12 rfl) hR7 p6 (by decide +kernel))) (by omega)).1) (by omega)).1) (by omega))))), (((((LFr.rf _ _).tr p6 (by decide +kernel)).tr p11 (by decide +kernel)).tr p21 (by decide +kernel)).tr p33 (by decide +kernel))⟩
   refine jx_load c1 hm rfl rfl rfl rfl ?_
   refine jy_ic c1 hm rfl (by decide) ?_
   refine jx_load c1 hm rfl rfl rfl rfl ?_
   refine jv_i c3 hm rfl pj_X10_fails rfl rfl ⟨_, _, _, rfl, sh_1⟩ rfl ((ct_X10_fails_1p X (by omega) M22 hH22 3 ⟨by omega, by omega⟩ z16 ⟨by omega, by omega⟩).le (by decide)) (fun z39 M45 ⟨hH45, hR45, lz39, uz39, p40, p41, p42, p43, p44⟩ => ?_)
   have hF45 := hF22.tr hR45 (by decide +kernel)
   obtain ⟨z46, k47, lz46, uz46⟩ := hH45.ld (c := 1) (i := 12) (A := 0) (B := 4) (bs_19_8 _ _ (by omega) (by omega))
   obtain ⟨z48, k49, lz48, uz48⟩ := hH45.ld (c := 1) (i := 13) (A := 0) (B := 940) (bs_19_9 _ _ (by omega) (by omega))
   exact jx_retz c2 hm rfl rfl ⟨by omega, by omega⟩ ⟨_, rfl, hH45, hF45, by omega, by omega, (fun t σ hσ hk => LRc.eq (NMP.ok (p10 t _ _ (hσ.next hk p5 (hR7 1 12 rfl) hR7 p6 (by decide +kernel))) (by omega)).2.1 (LRc.eq (NMP.ok (p20 t _ _ (NMP.ok (p10 t _ (fun _ y => okS y) (hσ.next hk p5 (hR7 1 12 rfl) hR7 p6 (by decide +kernel))) (by omega)).1) (by omega)).2.1 (LRc.eq (if_pos (by have b1 := (NMP.ok (p10 t _ (fun _ y => okS y) (hσ.next hk p5 (hR7 1 12 rfl) hR7 p6 (by decide +kernel))) (by omega)).2.2; have b2 := (NMP.ok (p20 t _ (fun _ y => okS y) (NMP.ok (p10 t _ (fun _ y => okS y) (hσ.next hk p5 (hR7 1 12 rfl) hR7 p6 (by decide +kernel))) (by omega)).1) (by omega)).2.2; have y9 := fl_m (NMP.ok (p20 t _ (fun _ y => okS y) (NMP.ok (p10 t _ (fun _ y => okS y) (hσ.next hk p5 (hR7 1 12 rfl) hR7 p6 (by decide +kernel))) (by omega)).1) (by omega)).1 (x := 6 * M12.1 1 11 + M22.1 1 11) ⟨by omega, by omega⟩; rw [show (6 * M12.1 1 11 + M22.1 1 11).toNat = ((6 * z13 + z23)).toNat by omega] at y9 ⊢; exact fun e => absurd (y9.mpr e) (by omega))) (Or.inr ⟨tF_nn (NMP.ok (p10 t _ (fun _ y => okS y) (hσ.next hk p5 (hR7 1 12 rfl) hR7 p6 (by decide +kernel))) (by omega)).1.2.2.2, by omega, by omega, by have y9 := (NMP.ok (p10 t _ (fun _ y => okS y) (hσ.next hk p5 (hR7 1 12 rfl) hR7 p6 (by decide +kernel))) (by omega)).1.start; show _ = kF t _; omega⟩)))), (((((LFr.rf _ _).tr p6 (by decide +kernel)).tr p11 (by decide +kernel)).tr p21 (by decide +kernel)).tr p44 (by decide +kernel))⟩
  refine jy_ic c1 hm rfl (by decide) ?_
  exact jx_retz c2 hm rfl rfl ⟨by omega, by omega⟩ ⟨_, rfl, hH22, hF22, by omega, by omega, (fun t σ hσ hk => LRc.eq (NMP.ok (p10 t _ _ (hσ.next hk p5 (hR7 1 12 rfl) hR7 p6 (by decide +kernel))) (by omega)).2.1 (NMP.bad (p20 t _ _ (NMP.ok (p10 t _ (fun _ y => okS y) (hσ.next hk p5 (hR7 1 12 rfl) hR7 p6 (by decide +kernel))) (by omega)).1) (by omega))), ((((LFr.rf _ _).tr p6 (by decide +kernel)).tr p11 (by decide +kernel)).tr p21 (by decide +kernel))⟩
 refine jy_ic c1 hm rfl (by decide) ?_
 exact jx_retz c2 hm rfl rfl ⟨by omega, by omega⟩ ⟨_, rfl, hH12, hF12, by omega, by omega, (fun t σ hσ hk => NMP.bad (p10 t _ _ (hσ.next hk p5 (hR7 1 12 rfl) hR7 p6 (by decide +kernel))) (by omega)), (((LFr.rf _ _).tr p6 (by decide +kernel)).tr p11 (by decide +kernel))⟩
def ml_X2_readOwes_27_1p : List (Nat × (Nat × Nat)) := [(1, (8, 8))]
def md_X2_readOwes_27_1p : List (Nat × (Nat × Nat)) := [(1, (4, 4)), (1, (5, 5)), (1, (6, 6)), (1, (7, 7)), (1, (9, 9)), (1, (11, 11)), (1, (12, 12)), (1, (13, 13)), (39, (0, 35))]
theorem ct_X2_readOwes_27_1p (X : Int) (hX : 0 ≤ X ∧ X ≤ 100000000) (M0 : JM) (hH0 : HI X M0)  : JOk shp PJ 4 229 [.inr (.inr (.inl 27)), .inr (.inr (.inl 1))] M0 (jRi (fun v M' => HI X M' ∧ Fr md_X2_readOwes_27_1p M0 M' ∧ 0 ≤ v ∧ v ≤ 1 ∧ (∀ (t : TXT) (σ : PSt), CS M0 t σ → 2 ≤ kK t σ → LRc t (oweS t σ) v M') ∧ (LFr ml_X2_readOwes_27_1p M0 M'))) := by
 refine ⟨jr_X2_readOwes, pj_X2_readOwes, fun F c1 c2 c3 => ?_⟩
 have hm := pj_X2_readOwes
 change F 0 [some (.inr (.inr (.inl 27))), some (.inr (.inr (.inl 1))), none, none, none] [] M0
 have hF0 : Fr md_X2_readOwes_27_1p M0 M0 := Fr.rf _ _
 refine jx_load c1 hm rfl rfl rfl rfl ?_
 obtain ⟨z1, k2, lz1, uz1⟩ := hH0.ld (c := 1) (i := 2) (A := 0) (B := 940) (bs_19_1 _ _ (by omega) (by omega))
 obtain ⟨z3, k4, lz3, uz3⟩ := hH0.ld (c := 1) (i := 4) (A := 0) (B := 940) (bs_19_3 _ _ (by omega) (by omega))
 refine jv_v c3 hm rfl pj_X10_next rfl rfl ⟨_, _, _, rfl, sh_1⟩ rfl ((ct_X10_next_1p X (by omega) M0 hH0 ).le (by decide)) (fun M7 ⟨hH7, hR7, p5, p6⟩ => ?_)
 have hF7 := hF0.tr hR7 (by decide +kernel)
 refine jx_load c1 hm rfl rfl rfl rfl ?_
 refine jx_load c1 hm rfl rfl rfl rfl ?_
 refine jy_ic c1 hm rfl (by decide) ?_
 refine jv_i c3 hm rfl pj_X10_takesName rfl rfl ⟨_, _, _, rfl, sh_1⟩ rfl ((ct_X10_takesName_1_27p X (by omega) M7 hH7 0 ⟨by omega, by omega⟩).le (by decide)) (fun z8 M12 ⟨hH12, hR12, lz8, uz8, p9, p10, p11⟩ => ?_)
 have hF12 := hF7.tr hR12 (by decide +kernel)
 obtain ⟨z13, k14, lz13, uz13⟩ := hH12.ld (c := 1) (i := 11) (A := 0) (B := 999) (bs_19_7 _ _ (by omega) (by omega))
 refine jz_ne c1 hm 15 rfl rfl (fun h15 => ?_) (fun h15 => ?_)
 ·
  refine jx_load c1 hm rfl rfl rfl rfl ?_
  refine jx_geti c1 hm rfl sh_1 rfl k14 ?_
  refine jx_stor c1 hm (L' := [some (.inr (.inr (.inl 27))), some (.inr (.inr (.inl 1))), some (.inl z13), none, none]) rfl rfl rfl rfl rfl ?_
  refine jx_load c1 hm rfl rfl rfl rfl ?_
  obtain ⟨z16, k17, lz16, uz16⟩ := hH12.ld (c := 1) (i := 5) (A := 0) (B := 940) (bs_19_3 _ _ (by omega) (by omega))
  refine jx_geti c1 hm rfl sh_1 rfl k17 ?_
  refine jx_stor c1 hm (L' := [some (.inr (.inr (.inl 27))), some (.inr (.inr (.inl 1))), some (.inl z13), some (.inl z16), none]) rfl rfl rfl rfl rfl ?_
  refine jx_load c1 hm rfl rfl rfl rfl ?_
  refine jx_load c1 hm rfl rfl rfl rfl ?_
  refine jy_ic c1 hm rfl (by decide) ?_
  refine jv_i c3 hm rfl pj_X10_takesName rfl rfl ⟨_, _, _, rfl, sh_1⟩ rfl ((ct_X10_takesName_1_27p X (by omega) M12 hH12 0 ⟨by omega, by omega⟩).le (by decide)) (fun z18 M22 ⟨hH22, hR22, lz18, uz18, p19, p20, p21⟩ => ?_)
  have hF22 := hF12.tr hR22 (by decide +kernel)
  obtain ⟨z23, k24, lz23, uz23⟩ := hH22.ld (c := 1) (i := 11) (A := 0) (B := 999) (bs_19_7 _ _ (by omega) (by omega))
  refine jz_ne c1 hm 36 rfl rfl (fun h25 => ?_) (fun h25 => ?_)
  ·
   refine jx_load c1 hm rfl rfl rfl rfl ?_
   refine jy_bp c1 hm rfl (by decide) ?_
   refine jy_mul c1 hm (6 * z13) rfl (by omega) ?_
   refine jx_load c1 hm rfl rfl rfl rfl ?_
   refine jx_geti c1 hm rfl sh_1 rfl k24 ?_
   refine jy_add c1 hm (6 * z13 + z23) rfl (by omega) ?_
   refine jx_stor c1 hm (L' := [some (.inr (.inr (.inl 27))), some (.inr (.inr (.inl 1))), some (.inl z13), some (.inl z16), some (.inl (6 * z13 + z23))]) rfl rfl rfl rfl rfl ?_
   skip
   refine jx_load c1 hm rfl rfl rfl rfl ?_
   refine jx_load c1 hm rfl rfl rfl rfl ?_
   refine jx_geti c1 hm rfl sh_1 rfl k24 ?_
   refine jc_eq c1 hm 68 rfl rfl (fun h26 => ?_) (fun h26 => ?_)
   ·
    refine jx_load c1 hm rfl rfl rfl rfl ?_
    refine jy_ic c1 hm rfl (by decide) ?_
    refine jx_load c1 hm rfl rfl rfl rfl ?_
    refine jv_i c3 hm rfl pj_X10_fails rfl rfl ⟨_, _, _, rfl, sh_1⟩ rfl ((ct_X10_fails_1p X (by omega) M22 hH22 3 ⟨by omega, by omega⟩ z16 ⟨by omega, by omega⟩).le (by decide)) (fun z27 M33 ⟨hH33, hR33, lz27, uz27, p28, p29, p30, p31, p32⟩ => ?_)
    have hF33 := hF22.tr hR33 (by decide +kernel)
    obtain ⟨z34, k35, lz34, uz34⟩ := hH33.ld (c := 1) (i := 12) (A := 0) (B := 4) (bs_19_8 _ _ (by omega) (by omega))
    obtain ⟨z36, k37, lz36, uz36⟩ := hH33.ld (c := 1) (i := 13) (A := 0) (B := 940) (bs_19_9 _ _ (by omega) (by omega))
    exact jx_retz c2 hm rfl rfl ⟨by omega, by omega⟩ ⟨_, rfl, hH33, hF33, by omega, by omega, (fun t σ hσ hk => LRc.eq (NMP.ok (p10 t _ _ (hσ.next hk p5 (hR7 1 12 rfl) hR7 p6 (by decide +kernel))) (by omega)).2.1 (LRc.eq (NMP.ok (p20 t _ _ (NMP.ok (p10 t _ (fun _ y => okS y) (hσ.next hk p5 (hR7 1 12 rfl) hR7 p6 (by decide +kernel))) (by omega)).1) (by omega)).2.1 (LRc.eq (if_pos (by have b1 := (NMP.ok (p10 t _ (fun _ y => okS y) (hσ.next hk p5 (hR7 1 12 rfl) hR7 p6 (by decide +kernel))) (by omega)).2.2; have b2 := (NMP.ok (p20 t _ (fun _ y => okS y) (NMP.ok (p10 t _ (fun _ y => okS y) (hσ.next hk p5 (hR7 1 12 rfl) hR7 p6 (by decide +kernel))) (by omega)).1) (by omega)).2.2; by_cases c9 : M12.1 1 11 = M22.1 1 11; exact Or.inl c9; have y9 := fl_o (NMP.ok (p20 t _ (fun _ y => okS y) (NMP.ok (p10 t _ (fun _ y => okS y) (hσ.next hk p5 (hR7 1 12 rfl) hR7 p6 (by decide +kernel))) (by omega)).1) (by omega)).1 (x := 6 * M12.1 1 11 + M22.1 1 11) (y := 36 + 6 * M12.1 1 11 + M22.1 1 11) ⟨by omega, by omega⟩ (by omega); rw [show (6 * M12.1 1 11 + M22.1 1 11).toNat = ((6 * z13 + z23)).toNat by omega] at y9; exact Or.inr (fun e => absurd (y9.mpr e) (by omega)))) (Or.inr ⟨tF_nn (NMP.ok (p10 t _ (fun _ y => okS y) (hσ.next hk p5 (hR7 1 12 rfl) hR7 p6 (by decide +kernel))) (by omega)).1.2.2.2, by omega, by omega, by have y9 := (NMP.ok (p10 t _ (fun _ y => okS y) (hσ.next hk p5 (hR7 1 12 rfl) hR7 p6 (by decide +kernel))) (by omega)).1.start; show _ = kF t _; omega⟩)))), (((((LFr.rf _ _).tr p6 (by decide +kernel)).tr p11 (by decide +kernel)).tr p21 (by decide +kernel)).tr p32 (by decide +kernel))⟩
   refine jx_load c1 hm rfl rfl rfl rfl ?_
   refine jx_getr c1 hm rfl sh_27 rfl ?_
   refine jx_getr c1 hm rfl sh_34 rfl ?_
   refine jx_load c1 hm rfl rfl rfl rfl ?_
   obtain ⟨z38, k39, lz38, uz38⟩ := hH22.ld (c := 39) (i := ((6 * z13 + z23)).toNat) (A := (-2147483648)) (B := 2147483647) rfl
   refine jx_iald c1 hm rfl sh_39 ⟨by omega, by omega⟩ k39 ?_
   refine jz_eq c1 hm 75 rfl rfl (fun h40 => ?_) (fun h40 => ?_)
   ·
    refine jx_load c1 hm rfl rfl rfl rfl ?_
    refine jy_ic c1 hm rfl (by decide) ?_
    refine jy_bp c1 hm rfl (by decide) ?_
    refine jv_i c3 hm rfl pj_X10_takesNumber rfl rfl ⟨_, _, _, rfl, sh_1⟩ rfl ((ct_X10_takesNumber_1p X (by omega) M22 hH22 1 ⟨by omega, by omega⟩ 99 ⟨by omega, by omega⟩).le (by decide)) (fun z41 M46 ⟨hH46, hR46, lz41, uz41, p42, p43, p44, p45⟩ => ?_)
    have hF46 := hF22.tr hR46 (by decide +kernel)
    obtain ⟨z47, k48, lz47, uz47⟩ := hH46.ld (c := 1) (i := 11) (A := 0) (B := 999) (bs_19_7 _ _ (by omega) (by omega))
    refine jz_ne c1 hm 87 rfl rfl (fun h49 => ?_) (fun h49 => ?_)
    ·
     refine jx_load c1 hm rfl rfl rfl rfl ?_
     refine jx_getr c1 hm rfl sh_27 rfl ?_
     refine jx_getr c1 hm rfl sh_34 rfl ?_
     refine jx_load c1 hm rfl rfl rfl rfl ?_
     refine jx_load c1 hm rfl rfl rfl rfl ?_
     refine jx_geti c1 hm rfl sh_1 rfl k48 ?_
     obtain ⟨M50, e50, hH50, hF50, k50, n50, q50⟩ := mup hH46 hF46 (c := 39) (i := ((6 * z13 + z23)).toNat) (v := z47) (A := (-2147483648)) (B := 2147483647) rfl ⟨by omega, by omega⟩ (jin_of 8 rfl ⟨by omega, by omega⟩)
     refine jm_iast c1 hm rfl sh_39 ⟨by omega, by omega⟩ e50 ?_
     refine jy_ic c1 hm rfl (by decide) ?_
     exact jx_retz c2 hm rfl rfl ⟨by omega, by omega⟩ ⟨_, rfl, hH50, hF50, by omega, by omega, (fun t σ hσ hk => LRc.eq (NMP.ok (p10 t _ _ (hσ.next hk p5 (hR7 1 12 rfl) hR7 p6 (by decide +kernel))) (by omega)).2.1 (LRc.eq (NMP.ok (p20 t _ _ (NMP.ok (p10 t _ (fun _ y => okS y) (hσ.next hk p5 (hR7 1 12 rfl) hR7 p6 (by decide +kernel))) (by omega)).1) (by omega)).2.1 (LRc.eq (if_neg (by have b1 := (NMP.ok (p10 t _ (fun _ y => okS y) (hσ.next hk p5 (hR7 1 12 rfl) hR7 p6 (by decide +kernel))) (by omega)).2.2; have b2 := (NMP.ok (p20 t _ (fun _ y => okS y) (NMP.ok (p10 t _ (fun _ y => okS y) (hσ.next hk p5 (hR7 1 12 rfl) hR7 p6 (by decide +kernel))) (by omega)).1) (by omega)).2.2; have y9 := fl_o (NMP.ok (p20 t _ (fun _ y => okS y) (NMP.ok (p10 t _ (fun _ y => okS y) (hσ.next hk p5 (hR7 1 12 rfl) hR7 p6 (by decide +kernel))) (by omega)).1) (by omega)).1 (x := 6 * M12.1 1 11 + M22.1 1 11) (y := 36 + 6 * M12.1 1 11 + M22.1 1 11) ⟨by omega, by omega⟩ (by omega); rw [show (6 * M12.1 1 11 + M22.1 1 11).toNat = ((6 * z13 + z23)).toNat by omega] at y9; intro e; rcases e with e | e; omega; exact e (y9.mp (by omega)))) (LRc.seqg (p43 t _ (NMP.ok (p20 t _ (fun _ y => okS y) (NMP.ok (p10 t _ (fun _ y => okS y) (hσ.next hk p5 (hR7 1 12 rfl) hR7 p6 (by decide +kernel))) (by omega)).1) (by omega)).1) (by omega) (fun l4 h4 => LRc.o (CS.flag h4 n50 q50 (by have b1 := (NMP.ok (p10 t _ (fun _ y => okS y) (hσ.next hk p5 (hR7 1 12 rfl) hR7 p6 (by decide +kernel))) (by omega)).2.2; have b2 := (NMP.ok (p20 t _ (fun _ y => okS y) (NMP.ok (p10 t _ (fun _ y => okS y) (hσ.next hk p5 (hR7 1 12 rfl) hR7 p6 (by decide +kernel))) (by omega)).1) (by omega)).2.2; omega)) (show (-1 : Int) < 0 by decide)))))), ((((((LFr.rf _ _).tr p6 (by decide +kernel)).tr p11 (by decide +kernel)).tr p21 (by decide +kernel)).tr p45 (by decide +kernel)).eq q50)⟩
    refine jy_ic c1 hm rfl (by decide) ?_
    exact jx_retz c2 hm rfl rfl ⟨by omega, by omega⟩ ⟨_, rfl, hH46, hF46, by omega, by omega, (fun t σ hσ hk => LRc.eq (NMP.ok (p10 t _ _ (hσ.next hk p5 (hR7 1 12 rfl) hR7 p6 (by decide +kernel))) (by omega)).2.1 (LRc.eq (NMP.ok (p20 t _ _ (NMP.ok (p10 t _ (fun _ y => okS y) (hσ.next hk p5 (hR7 1 12 rfl) hR7 p6 (by decide +kernel))) (by omega)).1) (by omega)).2.1 (LRc.eq (if_neg (by have b1 := (NMP.ok (p10 t _ (fun _ y => okS y) (hσ.next hk p5 (hR7 1 12 rfl) hR7 p6 (by decide +kernel))) (by omega)).2.2; have b2 := (NMP.ok (p20 t _ (fun _ y => okS y) (NMP.ok (p10 t _ (fun _ y => okS y) (hσ.next hk p5 (hR7 1 12 rfl) hR7 p6 (by decide +kernel))) (by omega)).1) (by omega)).2.2; have y9 := fl_o (NMP.ok (p20 t _ (fun _ y => okS y) (NMP.ok (p10 t _ (fun _ y => okS y) (hσ.next hk p5 (hR7 1 12 rfl) hR7 p6 (by decide +kernel))) (by omega)).1) (by omega)).1 (x := 6 * M12.1 1 11 + M22.1 1 11) (y := 36 + 6 * M12.1 1 11 + M22.1 1 11) ⟨by omega, by omega⟩ (by omega); rw [show (6 * M12.1 1 11 + M22.1 1 11).toNat = ((6 * z13 + z23)).toNat by omega] at y9; intro e; rcases e with e | e; omega; exact e (y9.mp (by omega)))) (LRc.seqz (p43 t _ (NMP.ok (p20 t _ (fun _ y => okS y) (NMP.ok (p10 t _ (fun _ y => okS y) (hσ.next hk p5 (hR7 1 12 rfl) hR7 p6 (by decide +kernel))) (by omega)).1) (by omega)).1) (by omega))))), (((((LFr.rf _ _).tr p6 (by decide +kernel)).tr p11 (by decide +kernel)).tr p21 (by decide +kernel)).tr p45 (by decide +kernel))⟩
   refine jx_load c1 hm rfl rfl rfl rfl ?_
   refine jy_ic c1 hm rfl (by decide) ?_
   refine jx_load c1 hm rfl rfl rfl rfl ?_
   refine jv_i c3 hm rfl pj_X10_fails rfl rfl ⟨_, _, _, rfl, sh_1⟩ rfl ((ct_X10_fails_1p X (by omega) M22 hH22 3 ⟨by omega, by omega⟩ z16 ⟨by omega, by omega⟩).le (by decide)) (fun z51 M57 ⟨hH57, hR57, lz51, uz51, p52, p53, p54, p55, p56⟩ => ?_)
   have hF57 := hF22.tr hR57 (by decide +kernel)
   obtain ⟨z58, k59, lz58, uz58⟩ := hH57.ld (c := 1) (i := 12) (A := 0) (B := 4) (bs_19_8 _ _ (by omega) (by omega))
   obtain ⟨z60, k61, lz60, uz60⟩ := hH57.ld (c := 1) (i := 13) (A := 0) (B := 940) (bs_19_9 _ _ (by omega) (by omega))
   exact jx_retz c2 hm rfl rfl ⟨by omega, by omega⟩ ⟨_, rfl, hH57, hF57, by omega, by omega, (fun t σ hσ hk => LRc.eq (NMP.ok (p10 t _ _ (hσ.next hk p5 (hR7 1 12 rfl) hR7 p6 (by decide +kernel))) (by omega)).2.1 (LRc.eq (NMP.ok (p20 t _ _ (NMP.ok (p10 t _ (fun _ y => okS y) (hσ.next hk p5 (hR7 1 12 rfl) hR7 p6 (by decide +kernel))) (by omega)).1) (by omega)).2.1 (LRc.eq (if_pos (by have b1 := (NMP.ok (p10 t _ (fun _ y => okS y) (hσ.next hk p5 (hR7 1 12 rfl) hR7 p6 (by decide +kernel))) (by omega)).2.2; have b2 := (NMP.ok (p20 t _ (fun _ y => okS y) (NMP.ok (p10 t _ (fun _ y => okS y) (hσ.next hk p5 (hR7 1 12 rfl) hR7 p6 (by decide +kernel))) (by omega)).1) (by omega)).2.2; by_cases c9 : M12.1 1 11 = M22.1 1 11; exact Or.inl c9; have y9 := fl_o (NMP.ok (p20 t _ (fun _ y => okS y) (NMP.ok (p10 t _ (fun _ y => okS y) (hσ.next hk p5 (hR7 1 12 rfl) hR7 p6 (by decide +kernel))) (by omega)).1) (by omega)).1 (x := 6 * M12.1 1 11 + M22.1 1 11) (y := 36 + 6 * M12.1 1 11 + M22.1 1 11) ⟨by omega, by omega⟩ (by omega); rw [show (6 * M12.1 1 11 + M22.1 1 11).toNat = ((6 * z13 + z23)).toNat by omega] at y9; exact Or.inr (fun e => absurd (y9.mpr e) (by omega)))) (Or.inr ⟨tF_nn (NMP.ok (p10 t _ (fun _ y => okS y) (hσ.next hk p5 (hR7 1 12 rfl) hR7 p6 (by decide +kernel))) (by omega)).1.2.2.2, by omega, by omega, by have y9 := (NMP.ok (p10 t _ (fun _ y => okS y) (hσ.next hk p5 (hR7 1 12 rfl) hR7 p6 (by decide +kernel))) (by omega)).1.start; show _ = kF t _; omega⟩)))), (((((LFr.rf _ _).tr p6 (by decide +kernel)).tr p11 (by decide +kernel)).tr p21 (by decide +kernel)).tr p56 (by decide +kernel))⟩
  refine jy_ic c1 hm rfl (by decide) ?_
  exact jx_retz c2 hm rfl rfl ⟨by omega, by omega⟩ ⟨_, rfl, hH22, hF22, by omega, by omega, (fun t σ hσ hk => LRc.eq (NMP.ok (p10 t _ _ (hσ.next hk p5 (hR7 1 12 rfl) hR7 p6 (by decide +kernel))) (by omega)).2.1 (NMP.bad (p20 t _ _ (NMP.ok (p10 t _ (fun _ y => okS y) (hσ.next hk p5 (hR7 1 12 rfl) hR7 p6 (by decide +kernel))) (by omega)).1) (by omega))), ((((LFr.rf _ _).tr p6 (by decide +kernel)).tr p11 (by decide +kernel)).tr p21 (by decide +kernel))⟩
 refine jy_ic c1 hm rfl (by decide) ?_
 exact jx_retz c2 hm rfl rfl ⟨by omega, by omega⟩ ⟨_, rfl, hH12, hF12, by omega, by omega, (fun t σ hσ hk => NMP.bad (p10 t _ _ (hσ.next hk p5 (hR7 1 12 rfl) hR7 p6 (by decide +kernel))) (by omega)), (((LFr.rf _ _).tr p6 (by decide +kernel)).tr p11 (by decide +kernel))⟩
def ml_X2_readLine_27_1p : List (Nat × (Nat × Nat)) := [(1, (8, 8)), (1, (10, 10)), (29, (0, 17))]
def md_X2_readLine_27_1p : List (Nat × (Nat × Nat)) := [(1, (4, 4)), (1, (5, 5)), (1, (6, 6)), (1, (7, 7)), (1, (9, 9)), (1, (11, 11)), (1, (12, 12)), (1, (13, 13)), (27, (6, 6)), (27, (7, 7)), (28, (0, 2)), (30, (0, 5)), (31, (0, 5)), (32, (0, 35)), (33, (0, 5)), (35, (0, 5)), (38, (0, 5)), (39, (0, 35))]
theorem ct_X2_readLine_27_1p (X : Int) (hX : 0 ≤ X ∧ X ≤ 100000000) (M0 : JM) (hH0 : HI X M0)  : JOk shp PJ 5 224 [.inr (.inr (.inl 27)), .inr (.inr (.inl 1))] M0 (jRi (fun v M' => HI X M' ∧ Fr md_X2_readLine_27_1p M0 M' ∧ 0 ≤ v ∧ v ≤ 1 ∧ (∀ (t : TXT) (σ : PSt), CS M0 t σ → LRc t (lineS t σ) v M') ∧ (LFr ml_X2_readLine_27_1p M0 M'))) := by
 refine ⟨jr_X2_readLine, pj_X2_readLine, fun F c1 c2 c3 => ?_⟩
 have hm := pj_X2_readLine
 change F 0 [some (.inr (.inr (.inl 27))), some (.inr (.inr (.inl 1)))] [] M0
 have hF0 : Fr md_X2_readLine_27_1p M0 M0 := Fr.rf _ _
 refine jx_load c1 hm rfl rfl rfl rfl ?_
 obtain ⟨z1, k2, lz1, uz1⟩ := hH0.ld (c := 1) (i := 7) (A := (-1)) (B := 23) (bs_19_5 _ _ (by omega) (by omega))
 refine jx_geti c1 hm rfl sh_1 rfl k2 ?_
 by_cases h3 : z1 = 0
 ·
  refine jx_tswI c1 hm 48 rfl ⟨by omega, by omega⟩ (by rw [h3] <;> rfl) rfl ?_
  refine jx_load c1 hm rfl rfl rfl rfl ?_
  refine jx_load c1 hm rfl rfl rfl rfl ?_
  refine jv_i c3 hm rfl pj_X2_readMan rfl rfl ⟨_, _, _, rfl, sh_27⟩ rfl ((ct_X2_readMan_27_1p X (by omega) M0 hH0 ).le (by decide)) (fun z4 M7 ⟨hH7, hR7, lz4, uz4, p5, p6⟩ => ?_)
  have hF7 := hF0.tr hR7 (by decide +kernel)
  exact jx_retz c2 hm rfl rfl ⟨by omega, by omega⟩ ⟨_, rfl, hH7, hF7, by omega, by omega, (fun t σ hσ => LRc.eq (ln_0 hσ (by omega)) (p5 t σ hσ (by have y9 := ln_key (k := 0) hσ (by omega) (by decide); omega))), ((LFr.rf _ _).tr p6 (by decide +kernel))⟩
 by_cases h8 : z1 = 1
 ·
  refine jx_tswI c1 hm 54 rfl ⟨by omega, by omega⟩ (by rw [h8] <;> rfl) rfl ?_
  refine jx_load c1 hm rfl rfl rfl rfl ?_
  refine jx_load c1 hm rfl rfl rfl rfl ?_
  refine jv_i c3 hm rfl pj_X2_readForfeit rfl rfl ⟨_, _, _, rfl, sh_27⟩ rfl ((ct_X2_readForfeit_27_1p X (by omega) M0 hH0 ).le (by decide)) (fun z9 M12 ⟨hH12, hR12, lz9, uz9, p10, p11⟩ => ?_)
  have hF12 := hF0.tr hR12 (by decide +kernel)
  exact jx_retz c2 hm rfl rfl ⟨by omega, by omega⟩ ⟨_, rfl, hH12, hF12, by omega, by omega, (fun t σ hσ => LRc.eq (ln_1 hσ (by omega)) (p10 t σ hσ (by have y9 := ln_key (k := 1) hσ (by omega) (by decide); omega))), ((LFr.rf _ _).tr p11 (by decide +kernel))⟩
 by_cases h13 : z1 = 2
 ·
  refine jx_tswI c1 hm 60 rfl ⟨by omega, by omega⟩ (by rw [h13] <;> rfl) rfl ?_
  refine jx_load c1 hm rfl rfl rfl rfl ?_
  refine jx_load c1 hm rfl rfl rfl rfl ?_
  refine jv_i c3 hm rfl pj_X2_readMinds rfl rfl ⟨_, _, _, rfl, sh_27⟩ rfl ((ct_X2_readMinds_27_1p X (by omega) M0 hH0 ).le (by decide)) (fun z14 M17 ⟨hH17, hR17, lz14, uz14, p15, p16⟩ => ?_)
  have hF17 := hF0.tr hR17 (by decide +kernel)
  exact jx_retz c2 hm rfl rfl ⟨by omega, by omega⟩ ⟨_, rfl, hH17, hF17, by omega, by omega, (fun t σ hσ => LRc.eq (ln_2 hσ (by omega)) (p15 t σ hσ (by have y9 := ln_key (k := 2) hσ (by omega) (by decide); omega))), ((LFr.rf _ _).tr p16 (by decide +kernel))⟩
 by_cases h18 : z1 = 3
 ·
  refine jx_tswI c1 hm 66 rfl ⟨by omega, by omega⟩ (by rw [h18] <;> rfl) rfl ?_
  refine jx_load c1 hm rfl rfl rfl rfl ?_
  refine jx_load c1 hm rfl rfl rfl rfl ?_
  refine jv_i c3 hm rfl pj_X2_readGood rfl rfl ⟨_, _, _, rfl, sh_27⟩ rfl ((ct_X2_readGood_27_1p X (by omega) M0 hH0 ).le (by decide)) (fun z19 M22 ⟨hH22, hR22, lz19, uz19, p20, p21⟩ => ?_)
  have hF22 := hF0.tr hR22 (by decide +kernel)
  exact jx_retz c2 hm rfl rfl ⟨by omega, by omega⟩ ⟨_, rfl, hH22, hF22, by omega, by omega, (fun t σ hσ => LRc.eq (ln_3 hσ (by omega)) (p20 t σ hσ (by have y9 := ln_key (k := 3) hσ (by omega) (by decide); omega))), ((LFr.rf _ _).tr p21 (by decide +kernel))⟩
 by_cases h23 : z1 = 4
 ·
  refine jx_tswI c1 hm 72 rfl ⟨by omega, by omega⟩ (by rw [h23] <;> rfl) rfl ?_
  refine jx_load c1 hm rfl rfl rfl rfl ?_
  refine jx_load c1 hm rfl rfl rfl rfl ?_
  refine jv_i c3 hm rfl pj_X2_readOwes rfl rfl ⟨_, _, _, rfl, sh_27⟩ rfl ((ct_X2_readOwes_27_1p X (by omega) M0 hH0 ).le (by decide)) (fun z24 M27 ⟨hH27, hR27, lz24, uz24, p25, p26⟩ => ?_)
  have hF27 := hF0.tr hR27 (by decide +kernel)
  exact jx_retz c2 hm rfl rfl ⟨by omega, by omega⟩ ⟨_, rfl, hH27, hF27, by omega, by omega, (fun t σ hσ => LRc.eq (ln_4 hσ (by omega)) (p25 t σ hσ (by have y9 := ln_key (k := 4) hσ (by omega) (by decide); omega))), ((LFr.rf _ _).tr p26 (by decide +kernel))⟩
 by_cases h28 : z1 = 5
 ·
  refine jx_tswI c1 hm 78 rfl ⟨by omega, by omega⟩ (by rw [h28] <;> rfl) rfl ?_
  refine jx_load c1 hm rfl rfl rfl rfl ?_
  refine jx_load c1 hm rfl rfl rfl rfl ?_
  refine jv_i c3 hm rfl pj_X2_readWears rfl rfl ⟨_, _, _, rfl, sh_27⟩ rfl ((ct_X2_readWears_27_1p X (by omega) M0 hH0 ).le (by decide)) (fun z29 M32 ⟨hH32, hR32, lz29, uz29, p30, p31⟩ => ?_)
  have hF32 := hF0.tr hR32 (by decide +kernel)
  exact jx_retz c2 hm rfl rfl ⟨by omega, by omega⟩ ⟨_, rfl, hH32, hF32, by omega, by omega, (fun t σ hσ => LRc.eq (ln_5 hσ (by omega)) (p30 t σ hσ (by have y9 := ln_key (k := 5) hσ (by omega) (by decide); omega))), ((LFr.rf _ _).tr p31 (by decide +kernel))⟩
 by_cases h33 : z1 = 6
 ·
  refine jx_tswI c1 hm 84 rfl ⟨by omega, by omega⟩ (by rw [h33] <;> rfl) rfl ?_
  refine jx_load c1 hm rfl rfl rfl rfl ?_
  refine jx_load c1 hm rfl rfl rfl rfl ?_
  refine jv_i c3 hm rfl pj_X2_readMends rfl rfl ⟨_, _, _, rfl, sh_27⟩ rfl ((ct_X2_readMends_27_1p X (by omega) M0 hH0 ).le (by decide)) (fun z34 M37 ⟨hH37, hR37, lz34, uz34, p35, p36⟩ => ?_)
  have hF37 := hF0.tr hR37 (by decide +kernel)
  exact jx_retz c2 hm rfl rfl ⟨by omega, by omega⟩ ⟨_, rfl, hH37, hF37, by omega, by omega, (fun t σ hσ => LRc.eq (ln_6 hσ (by omega)) (p35 t σ hσ (by have y9 := ln_key (k := 6) hσ (by omega) (by decide); omega))), ((LFr.rf _ _).tr p36 (by decide +kernel))⟩
 refine jx_tswO c1 hm 90 rfl (by omega) rfl ?_
 refine jx_load c1 hm rfl rfl rfl rfl ?_
 refine jy_ic c1 hm rfl (by decide) ?_
 refine jx_load c1 hm rfl rfl rfl rfl ?_
 obtain ⟨z38, k39, lz38, uz38⟩ := hH0.ld (c := 1) (i := 5) (A := 0) (B := 940) (bs_19_3 _ _ (by omega) (by omega))
 refine jx_geti c1 hm rfl sh_1 rfl k39 ?_
 refine jv_i c3 hm rfl pj_X10_fails rfl rfl ⟨_, _, _, rfl, sh_1⟩ rfl ((ct_X10_fails_1p X (by omega) M0 hH0 1 ⟨by omega, by omega⟩ z38 ⟨by omega, by omega⟩).le (by decide)) (fun z40 M46 ⟨hH46, hR46, lz40, uz40, p41, p42, p43, p44, p45⟩ => ?_)
 have hF46 := hF0.tr hR46 (by decide +kernel)
 obtain ⟨z47, k48, lz47, uz47⟩ := hH46.ld (c := 1) (i := 12) (A := 0) (B := 4) (bs_19_8 _ _ (by omega) (by omega))
 obtain ⟨z49, k50, lz49, uz49⟩ := hH46.ld (c := 1) (i := 13) (A := 0) (B := 940) (bs_19_9 _ _ (by omega) (by omega))
 exact jx_retz c2 hm rfl rfl ⟨by omega, by omega⟩ ⟨_, rfl, hH46, hF46, by omega, by omega, (fun t σ hσ => ln_no hσ (by omega) (by omega) (by omega) (by omega)), ((LFr.rf _ _).tr p45 (by decide +kernel))⟩
def ml_X10_start_1p : List (Nat × (Nat × Nat)) := [(1, (8, 8))]
def md_X10_start_1p : List (Nat × (Nat × Nat)) := [(1, (2, 2)), (1, (3, 3)), (1, (4, 4)), (1, (5, 5)), (1, (6, 6)), (1, (7, 7)), (1, (9, 9)), (1, (12, 12)), (1, (13, 13))]
theorem ct_X10_start_1p (X : Int) (hX : 0 ≤ X ∧ X ≤ 100000000) (M0 : JM) (hH0 : HI X M0) (a0 : Int) (ha0 : 0 ≤ a0 ∧ a0 ≤ 940) (a1 : Int) (ha1 : 0 ≤ a1 ∧ a1 ≤ 900) : JOk shp PJ 3 20 [.inr (.inr (.inl 1)), .inl a0, .inl a1] M0 (jRv (fun M' => HI X M' ∧ Fr md_X10_start_1p M0 M' ∧ (CTk M' (uC M0, (a0, a1)) 0 ∧ M'.1 1 12 = 0) ∧ (LFr ml_X10_start_1p M0 M'))) := by
 refine ⟨jr_X10_start, pj_X10_start, fun F c1 c2 c3 => ?_⟩
 have hm := pj_X10_start
 change F 0 [some (.inr (.inr (.inl 1))), some (.inl a0), some (.inl a1)] [] M0
 have hF0 : Fr md_X10_start_1p M0 M0 := Fr.rf _ _
 refine jx_load c1 hm rfl rfl rfl rfl ?_
 refine jx_load c1 hm rfl rfl rfl rfl ?_
 refine jy_sp c1 hm rfl (by decide) ?_
 refine jx_min c1 hm rfl rfl (fun z1 lz1 uz1 ez1 => ?_)
 obtain ⟨M2, e2, hH2, hF2, k2, n2, q2⟩ := mup hH0 hF0 (c := 1) (i := 2) (v := z1) (A := 0) (B := 940) (bs_19_1 _ _ (by omega) (by omega)) ⟨by omega, by omega⟩ (jin_of 0 rfl ⟨by omega, by omega⟩)
 refine jm_puti c1 hm rfl sh_1 rfl e2 ?_
 refine jx_load c1 hm rfl rfl rfl rfl ?_
 refine jx_load c1 hm rfl rfl rfl rfl ?_
 obtain ⟨M3, e3, hH3, hF3, k3, n3, q3⟩ := mup hH2 hF2 (c := 1) (i := 3) (v := a1) (A := 0) (B := 900) (bs_19_2 _ _ (by omega) (by omega)) ⟨by omega, by omega⟩ (jin_of 1 rfl ⟨by omega, by omega⟩)
 refine jm_puti c1 hm rfl sh_1 rfl e3 ?_
 refine jx_load c1 hm rfl rfl rfl rfl ?_
 refine jy_ic c1 hm rfl (by decide) ?_
 obtain ⟨M4, e4, hH4, hF4, k4, n4, q4⟩ := mup hH3 hF3 (c := 1) (i := 4) (v := 0) (A := 0) (B := 940) (bs_19_3 _ _ (by omega) (by omega)) ⟨by omega, by omega⟩ (jin_of 2 rfl ⟨by omega, by omega⟩)
 refine jm_puti c1 hm rfl sh_1 rfl e4 ?_
 refine jx_load c1 hm rfl rfl rfl rfl ?_
 refine jy_ic c1 hm rfl (by decide) ?_
 obtain ⟨M5, e5, hH5, hF5, k5, n5, q5⟩ := mup hH4 hF4 (c := 1) (i := 12) (v := 0) (A := 0) (B := 4) (bs_19_8 _ _ (by omega) (by omega)) ⟨by omega, by omega⟩ (jin_of 7 rfl ⟨by omega, by omega⟩)
 refine jm_puti c1 hm rfl sh_1 rfl e5 ?_
 refine jx_load c1 hm rfl rfl rfl rfl ?_
 refine jy_ic c1 hm rfl (by decide) ?_
 obtain ⟨M6, e6, hH6, hF6, k6, n6, q6⟩ := mup hH5 hF5 (c := 1) (i := 13) (v := 0) (A := 0) (B := 940) (bs_19_9 _ _ (by omega) (by omega)) ⟨by omega, by omega⟩ (jin_of 8 rfl ⟨by omega, by omega⟩)
 refine jm_puti c1 hm rfl sh_1 rfl e6 ?_
 refine jx_load c1 hm rfl rfl rfl rfl ?_
 have k7 : M6.1 1 2 = z1 := (n6 1 2 (by decide)).trans ((n5 1 2 (by decide)).trans ((n4 1 2 (by decide)).trans ((n3 1 2 (by decide)).trans k2)))
 have k8 : M6.1 1 4 = 0 := (n6 1 4 (by decide)).trans ((n5 1 4 (by decide)).trans k4)
 refine jv_v c3 hm rfl pj_X10_next rfl rfl ⟨_, _, _, rfl, sh_1⟩ rfl ((ct_X10_next_1p X (by omega) M6 hH6 ).le (by decide)) (fun M11 ⟨hH11, hR11, p9, p10⟩ => ?_)
 have hF11 := hF6.tr hR11 (by decide +kernel)
 have k12 : M11.1 1 12 = 0 := (hR11 1 12 (by decide +kernel)).trans ((n6 1 12 (by decide)).trans k5)
 exact jx_retv c2 hm rfl rfl ⟨rfl, hH11, hF11, ⟨st_tx (p9 (by have y1 := (((((n6 1 2 (by decide)).trans (n5 1 2 (by decide))).trans (n4 1 2 (by decide))).trans (n3 1 2 (by decide))).trans k2); have y2 := (((n6 1 4 (by decide)).trans (n5 1 4 (by decide))).trans k4); omega)) (fun j => hF6 2 j rfl) (by have y1 := (((((n6 1 2 (by decide)).trans (n5 1 2 (by decide))).trans (n4 1 2 (by decide))).trans (n3 1 2 (by decide))).trans k2); omega) ((((n6 1 3 (by decide)).trans (n5 1 3 (by decide))).trans (n4 1 3 (by decide))).trans k3) (((n6 1 4 (by decide)).trans (n5 1 4 (by decide))).trans k4), (hR11 1 12 rfl).trans ((n6 1 12 (by decide)).trans k5)⟩, (((((((LFr.rf _ _).eq q2).eq q3).eq q4).eq q5).eq q6).tr p10 (by decide +kernel))⟩
def md_X2_readLines_27_1p : List (Nat × (Nat × Nat)) := [(1, (4, 4)), (1, (5, 5)), (1, (6, 6)), (1, (7, 7)), (1, (9, 9)), (1, (11, 11)), (1, (12, 12)), (1, (13, 13)), (27, (6, 6)), (27, (7, 7)), (28, (0, 2)), (30, (0, 5)), (31, (0, 5)), (32, (0, 35)), (33, (0, 5)), (34, (7, 7)), (35, (0, 5)), (36, (0, 5)), (37, (0, 5)), (38, (0, 5)), (39, (0, 35)), (40, (0, 35)), (41, (0, 35)), (42, (2, 2)), (42, (3, 3))]
theorem ct_X2_readLines_27_1p (X : Int) (hX : 0 ≤ X ∧ X ≤ 100000000) (M0 : JM) (hH0 : HI X M0)  : JOk shp PJ 6 225 [.inr (.inr (.inl 27)), .inr (.inr (.inl 1))] M0 (jRi (fun v M' => HI X M' ∧ Fr md_X2_readLines_27_1p M0 M' ∧ 0 ≤ v ∧ v ≤ 900 ∧ (0 ≤ M'.1 27 6 ∧ 0 ≤ M'.1 27 7) ∧ (∀ t : TXT, t.2.2 = 900 → t.2.1 ≤ 940 → 0 ≤ t.2.1 → CTk M0 t 0 → M0.1 1 12 = 0 → (M'.1 1 12 = 0 ∧ v = allS t 1000 0 st0) ∨ (M'.1 1 12 ≠ 0 ∧ -1 - M'.1 1 13 = allS t 1000 0 st0)))) := by
 refine ⟨jr_X2_readLines, pj_X2_readLines, fun F c1 c2 c3 => ?_⟩
 have hm := pj_X2_readLines
 change F 0 [some (.inr (.inr (.inl 27))), some (.inr (.inr (.inl 1))), none, none] [] M0
 have hF0 : Fr md_X2_readLines_27_1p M0 M0 := Fr.rf _ _
 obtain ⟨z1, k2, lz1, uz1⟩ := hH0.ld (c := 1) (i := 12) (A := 0) (B := 4) (bs_19_8 _ _ (by omega) (by omega))
 obtain ⟨z3, k4, lz3, uz3⟩ := hH0.ld (c := 1) (i := 6) (A := 0) (B := 4) (bs_19_4 _ _ (by omega) (by omega))
 refine jx_load c1 hm rfl rfl rfl rfl ?_
 refine jv_v c3 hm rfl pj_X2_clear rfl rfl ⟨_, _, _, rfl, sh_27⟩ rfl ((ct_X2_clear_27p X (by omega) M0 hH0 ).le (by decide)) (fun M7 ⟨hH7, hR7, p5, p6⟩ => ?_)
 have hF7 := hF0.tr hR7 (by decide +kernel)
 refine jy_ic c1 hm rfl (by decide) ?_
 refine jx_stor c1 hm (L' := [some (.inr (.inr (.inl 27))), some (.inr (.inr (.inl 1))), some (.inl 0), none]) rfl rfl rfl rfl rfl ?_
 refine jy_ic c1 hm rfl (by decide) ?_
 refine jx_stor c1 hm (L' := [some (.inr (.inr (.inl 27))), some (.inr (.inr (.inl 1))), some (.inl 0), some (.inl 0)]) rfl rfl rfl rfl rfl ?_
 have W13 : ∀ (n14 : Nat) (b8 : Int) (hb8 : 0 ≤ b8 ∧ b8 ≤ 2147483647) (b9 : Int) (hb9 : 0 ≤ b9 ∧ b9 ≤ 900) (M10 : JM) (hH10 : HI (X) M10) (hF10 : Fr md_X2_readLines_27_1p M0 M10) (h11 : b8 ≤ b9) (hrl : ∀ t : TXT, t.2.2 = 900 → t.2.1 ≤ 940 → 0 ≤ t.2.1 → CTk M0 t 0 → M0.1 1 12 = 0 → RLn t M10 b8 b9), (-b9 + 900) < (n14 : Int) → F 8 [some (.inr (.inr (.inl 27))), some (.inr (.inr (.inl 1))), some (.inl b8), some (.inl b9)] [] M10 := by
  intro n14
  induction n14 with
  | zero => intros; omega
  | succ n14 ihW13 =>
   intro b8 hb8 b9 hb9 M10 hH10 hF10 h11 hrl hrW13
   refine jx_load c1 hm rfl rfl rfl rfl ?_
   refine jy_sp c1 hm rfl (by decide) ?_
   refine jc_ge c1 hm 55 rfl rfl (fun h15 => ?_) (fun h15 => ?_)
   ·
    refine jx_load c1 hm rfl rfl rfl rfl ?_
    refine jv_v c3 hm rfl pj_X2_fillWhatWasNotTold rfl rfl ⟨_, _, _, rfl, sh_27⟩ rfl ((ct_X2_fillWhatWasNotTold_27 X (by omega) M10 hH10 ).le (by decide)) (fun M17 ⟨hH17, hR17, p16⟩ => ?_)
    have hF17 := hF10.tr hR17 (by decide +kernel)
    obtain ⟨z18, k19, lz18, uz18⟩ := hH17.ld (c := 27) (i := 6) (A := (-1)) (B := 9) (bs_23_1 _ _ (by omega) (by omega))
    obtain ⟨z20, k21, lz20, uz20⟩ := hH17.ld (c := 27) (i := 7) (A := (-1)) (B := 9) (bs_23_1 _ _ (by omega) (by omega))
    refine jx_load c1 hm rfl rfl rfl rfl ?_
    obtain ⟨z22, k23, lz22, uz22⟩ := hH17.ld (c := 1) (i := 12) (A := 0) (B := 4) (bs_19_8 _ _ (by omega) (by omega))
    obtain ⟨z24, k25, lz24, uz24⟩ := hH17.ld (c := 1) (i := 13) (A := 0) (B := 940) (bs_19_9 _ _ (by omega) (by omega))
    exact jx_reti c2 hm rfl rfl ⟨_, rfl, hH17, hF17, by omega, by omega, (by omega), (fun t a1 a2 a3 a4 a5 => RLn.fin (hrl t a1 a2 a3 a4 a5) (by omega) (by omega) (hR17 1 12 rfl) (hR17 1 13 rfl))⟩
   refine jx_load c1 hm rfl rfl rfl rfl ?_
   obtain ⟨z26, k27, lz26, uz26⟩ := hH10.ld (c := 1) (i := 12) (A := 0) (B := 4) (bs_19_8 _ _ (by omega) (by omega))
   refine jx_geti c1 hm rfl sh_1 rfl k27 ?_
   refine jz_ne c1 hm 55 rfl rfl (fun h28 => ?_) (fun h28 => ?_)
   ·
    refine jx_load c1 hm rfl rfl rfl rfl ?_
    refine jv_v c3 hm rfl pj_X2_fillWhatWasNotTold rfl rfl ⟨_, _, _, rfl, sh_27⟩ rfl ((ct_X2_fillWhatWasNotTold_27 X (by omega) M10 hH10 ).le (by decide)) (fun M30 ⟨hH30, hR30, p29⟩ => ?_)
    have hF30 := hF10.tr hR30 (by decide +kernel)
    obtain ⟨z31, k32, lz31, uz31⟩ := hH30.ld (c := 27) (i := 6) (A := (-1)) (B := 9) (bs_23_1 _ _ (by omega) (by omega))
    obtain ⟨z33, k34, lz33, uz33⟩ := hH30.ld (c := 27) (i := 7) (A := (-1)) (B := 9) (bs_23_1 _ _ (by omega) (by omega))
    refine jx_load c1 hm rfl rfl rfl rfl ?_
    have k35 : M30.1 1 12 = z26 := (hR30 1 12 (by decide +kernel)).trans k27
    obtain ⟨z36, k37, lz36, uz36⟩ := hH30.ld (c := 1) (i := 13) (A := 0) (B := 940) (bs_19_9 _ _ (by omega) (by omega))
    exact jx_reti c2 hm rfl rfl ⟨_, rfl, hH30, hF30, by omega, by omega, (by omega), (fun t a1 a2 a3 a4 a5 => RLn.fin (hrl t a1 a2 a3 a4 a5) (by omega) (by omega) (hR30 1 12 rfl) (hR30 1 13 rfl))⟩
   refine jx_load c1 hm rfl rfl rfl rfl ?_
   obtain ⟨z38, k39, lz38, uz38⟩ := hH10.ld (c := 1) (i := 6) (A := 0) (B := 4) (bs_19_4 _ _ (by omega) (by omega))
   refine jx_geti c1 hm rfl sh_1 rfl k39 ?_
   refine jz_eq c1 hm 55 rfl rfl (fun h40 => ?_) (fun h40 => ?_)
   ·
    refine jx_load c1 hm rfl rfl rfl rfl ?_
    refine jv_v c3 hm rfl pj_X2_fillWhatWasNotTold rfl rfl ⟨_, _, _, rfl, sh_27⟩ rfl ((ct_X2_fillWhatWasNotTold_27 X (by omega) M10 hH10 ).le (by decide)) (fun M42 ⟨hH42, hR42, p41⟩ => ?_)
    have hF42 := hF10.tr hR42 (by decide +kernel)
    obtain ⟨z43, k44, lz43, uz43⟩ := hH42.ld (c := 27) (i := 6) (A := (-1)) (B := 9) (bs_23_1 _ _ (by omega) (by omega))
    obtain ⟨z45, k46, lz45, uz45⟩ := hH42.ld (c := 27) (i := 7) (A := (-1)) (B := 9) (bs_23_1 _ _ (by omega) (by omega))
    refine jx_load c1 hm rfl rfl rfl rfl ?_
    have k47 : M42.1 1 12 = z26 := (hR42 1 12 (by decide +kernel)).trans k27
    obtain ⟨z48, k49, lz48, uz48⟩ := hH42.ld (c := 1) (i := 13) (A := 0) (B := 940) (bs_19_9 _ _ (by omega) (by omega))
    exact jx_reti c2 hm rfl rfl ⟨_, rfl, hH42, hF42, by omega, by omega, (by omega), (fun t a1 a2 a3 a4 a5 => RLn.fin (hrl t a1 a2 a3 a4 a5) (by omega) (by omega) (hR42 1 12 rfl) (hR42 1 13 rfl))⟩
   refine jx_load c1 hm rfl rfl rfl rfl ?_
   refine jx_load c1 hm rfl rfl rfl rfl ?_
   refine jv_i c3 hm rfl pj_X2_readLine rfl rfl ⟨_, _, _, rfl, sh_27⟩ rfl ((ct_X2_readLine_27_1p X (by omega) M10 hH10 ).le (by decide)) (fun z50 M53 ⟨hH53, hR53, lz50, uz50, p51, p52⟩ => ?_)
   have hF53 := hF10.tr hR53 (by decide +kernel)
   refine jz_eq c1 hm 49 rfl rfl (fun h54 => ?_) (fun h54 => ?_)
   ·
    refine jx_iinc c1 hm (v := (b9 + 1)) (L' := [some (.inr (.inr (.inl 27))), some (.inr (.inr (.inl 1))), some (.inl b8), some (.inl (b9 + 1))]) rfl rfl (by omega) (by omega) rfl ?_
    refine jx_goto c1 hm 8 rfl rfl ?_
    exact ihW13 b8 (by omega) (b9 + 1) (by omega) M53 hH53 hF53 (by omega) (fun t a1 a2 a3 a4 a5 => RLn.no (hrl t a1 a2 a3 a4 a5) (by omega) (by omega) (by omega) (fun σ hσ => LRc.seqz (p51 t σ hσ) (by omega))) (by omega)
   refine jx_load c1 hm rfl rfl rfl rfl ?_
   refine jy_bp c1 hm rfl (by decide) ?_
   refine jv_i c3 hm rfl pj_X10_takesSign rfl rfl ⟨_, _, _, rfl, sh_1⟩ rfl ((ct_X10_takesSign_1p X (by omega) M53 hH53 59 ⟨by omega, by omega⟩).le (by decide)) (fun z55 M58 ⟨hH58, hR58, lz55, uz55, p56, p57⟩ => ?_)
   have hF58 := hF53.tr hR58 (by decide +kernel)
   refine jz_eq c1 hm 49 rfl rfl (fun h59 => ?_) (fun h59 => ?_)
   ·
    refine jx_iinc c1 hm (v := (b9 + 1)) (L' := [some (.inr (.inr (.inl 27))), some (.inr (.inr (.inl 1))), some (.inl b8), some (.inl (b9 + 1))]) rfl rfl (by omega) (by omega) rfl ?_
    refine jx_goto c1 hm 8 rfl rfl ?_
    exact ihW13 b8 (by omega) (b9 + 1) (by omega) M58 hH58 hF58 (by omega) (fun t a1 a2 a3 a4 a5 => RLn.no (hrl t a1 a2 a3 a4 a5) (by omega) (by omega) (by omega) (fun σ hσ => LRc.seqg (p51 t σ hσ) (by omega) (fun l1 h1 => LRc.z (p56 t _ h1) (by omega)))) (by omega)
   refine jx_iinc c1 hm (v := (b8 + 1)) (L' := [some (.inr (.inr (.inl 27))), some (.inr (.inr (.inl 1))), some (.inl (b8 + 1)), some (.inl b9)]) rfl rfl (by omega) (by omega) rfl ?_
   refine jx_iinc c1 hm (v := (b9 + 1)) (L' := [some (.inr (.inr (.inl 27))), some (.inr (.inr (.inl 1))), some (.inl (b8 + 1)), some (.inl (b9 + 1))]) rfl rfl (by omega) (by omega) rfl ?_
   refine jx_goto c1 hm 8 rfl rfl ?_
   exact ihW13 (b8 + 1) (by omega) (b9 + 1) (by omega) M58 hH58 hF58 (by omega) (fun t a1 a2 a3 a4 a5 => RLn.go (hrl t a1 a2 a3 a4 a5) (by omega) (by omega) (by omega) (fun σ hσ => LRc.seqg (p51 t σ hσ) (by omega) (fun l1 h1 => LRc.u (p56 t _ h1) (by omega)))) (by omega)
 exact W13 (900 + 1 : Int).toNat 0 (by omega) 0 (by omega) M7 hH7 hF7 (by omega) (fun t a1 a2 a3 a4 a5 => RLn.start (CTk.cg a4 (fun j => hR7 2 j rfl) (fun i => hR7 1 i rfl) (fun i => p6 1 i rfl)) ((hR7 1 12 rfl).trans a5) p5 (PI.zero ⟨by omega, by omega⟩ (by omega))) (by omega)
