/-! The law's loop. -/
def imP (c : Nat) (a : Int) (M M' : JM) : Prop := ∀ j : Nat, j < 2 → M'.1 c j = if (j : Int) = a then 1 else M.1 c j
theorem imP.no {c : Nat} {a : Int} {M M' : JM} (h : ∀ j : Nat, M'.1 c j = M.1 c j) (ha : a < 0 ∨ 1 < a) : imP c a M M' := fun j hj => by
  rw [if_neg (by omega)]
  exact h j
theorem imP.st {c : Nat} {a : Int} {M Mx M' : JM} (k : M'.1 c a.toNat = 1) (n : ∀ c' j, ¬ (c' = c ∧ j = a.toNat) → M'.1 c' j = Mx.1 c' j) (e : ∀ j : Nat, Mx.1 c j = M.1 c j) (ha : 0 ≤ a) : imP c a M M' := fun j hj => by
  by_cases h : (j : Int) = a
  · rw [if_pos h, show j = a.toNat by omega]
    exact k
  · rw [if_neg h]
    exact (n c j (by omega)).trans (e j)
def imR (c : Nat) (a : Int) (M : JM) : Int := if 0 ≤ a ∧ a ≤ 1 then M.1 c a.toNat else 0
def IMG (M : JM) : Prop := ∀ j : Nat, j < 2 → M.1 46 j = M.1 183 j
theorem IMG.cg {M M' : JM} (h : IMG M) (h1 : ∀ j : Nat, M'.1 46 j = M.1 46 j) (h2 : ∀ j : Nat, M'.1 183 j = M.1 183 j) : IMG M' := fun j hj => by rw [h1, h2]; exact h j hj
theorem IMG.im {M M1 M2 : JM} {a a2 : Int} (h : IMG M) (ea : a = a2) (p1 : imP 46 a M M1) (f1 : ∀ j : Nat, M1.1 183 j = M.1 183 j) (p2 : imP 183 a2 M1 M2) (f2 : ∀ j : Nat, M2.1 46 j = M1.1 46 j) : IMG M2 := fun j hj => by
  subst ea
  rw [f2, p1 j hj, p2 j hj, f1, h j hj]
theorem imR_eq {M M1 : JM} {a a2 z1 z2 : Int} (h : IMG M) (ea : a = a2) (e1 : z1 = imR 46 a M) (e2 : z2 = imR 183 a2 M1) (f : ∀ j : Nat, M1.1 183 j = M.1 183 j) : z1 = z2 := by
  subst ea
  rw [e1, e2]
  unfold imR
  by_cases hc : 0 ≤ a ∧ a ≤ 1
  · rw [if_pos hc, if_pos hc, f]
    exact h _ (by omega)
  · rw [if_neg hc, if_neg hc]
theorem ct_X12_isInb (X : Int) (hX : 0 ≤ X ∧ X ≤ 100000000) (M0 : JM) (hH0 : HI X M0) (a0 : Int) (ha0 : (-2147483648) ≤ a0 ∧ a0 ≤ 2147483647) (a1 : Int) (ha1 : (-2147483648) ≤ a1 ∧ a1 ≤ 2147483647) (a2 : Int) (ha2 : (-2147483648) ≤ a2 ∧ a2 ≤ 2147483647) : JOk shp PJ 1 118 [.inl a0, .inl a1, .inl a2] M0 (jRi (fun v M' => M0 = M' ∧ 0 ≤ v ∧ v ≤ 1 ∧ (v = 1 → a1 ≤ a0 ∧ a0 ≤ a2) ∧ (v = 1 ∨ a0 < a1 ∨ a2 < a0))) := by
 refine ⟨jr_X12_isIn, pj_X12_isIn, fun F c1 c2 c3 => ?_⟩
 have hm := pj_X12_isIn
 change F 0 [some (.inl a0), some (.inl a1), some (.inl a2)] [] M0
 refine jx_load c1 hm rfl rfl rfl rfl ?_
 refine jx_load c1 hm rfl rfl rfl rfl ?_
 refine jc_lt c1 hm 14 rfl rfl (fun h1 => ?_) (fun h1 => ?_)
 ·
  refine jy_ic c1 hm rfl (by decide) ?_
  exact jx_retz c2 hm rfl rfl ⟨by omega, by omega⟩ ⟨_, rfl, rfl, by omega, by omega, (by omega), (by omega)⟩
 refine jx_load c1 hm rfl rfl rfl rfl ?_
 refine jx_load c1 hm rfl rfl rfl rfl ?_
 refine jc_gt c1 hm 14 rfl rfl (fun h2 => ?_) (fun h2 => ?_)
 ·
  refine jy_ic c1 hm rfl (by decide) ?_
  exact jx_retz c2 hm rfl rfl ⟨by omega, by omega⟩ ⟨_, rfl, rfl, by omega, by omega, (by omega), (by omega)⟩
 refine jy_ic c1 hm rfl (by decide) ?_
 refine jx_goto c1 hm 15 rfl rfl ?_
 exact jx_retz c2 hm rfl rfl ⟨by omega, by omega⟩ ⟨_, rfl, rfl, by omega, by omega, (by omega), (by omega)⟩
def md_X12_image_173i : List (Nat × (Nat × Nat)) := [(173, (0, 0)), (177, (0, 951)), (183, (0, 1))]
theorem ct_X12_image_173i (X : Int) (hX : 0 ≤ X ∧ X ≤ 100000000) (M0 : JM) (hH0 : HI X M0) (a0 : Int) (ha0 : (-2147483648) ≤ a0 ∧ a0 ≤ 2147483647) (hp0 : SOK M0) (hp1 : KOK M0 0) (hp2 : KOK M0 1) : JOk shp PJ 2 114 [.inr (.inr (.inl 173)), .inl a0] M0 (jRi (fun v M' => HI X M' ∧ Fr md_X12_image_173i M0 M' ∧ 0 ≤ v ∧ v ≤ 1 ∧ (KOK M' 0) ∧ (KOK M' 1) ∧ (imP 183 a0 M0 M'))) := by
 refine ⟨jr_X12_image, pj_X12_image, fun F c1 c2 c3 => ?_⟩
 have hm := pj_X12_image
 change F 0 [some (.inr (.inr (.inl 173))), some (.inl a0), none] [] M0
 have hF0 : Fr md_X12_image_173i M0 M0 := Fr.rf _ _
 refine jx_load c1 hm rfl rfl rfl rfl ?_
 refine jy_ic c1 hm rfl (by decide) ?_
 obtain ⟨M1, e1, hH1, hF1, k1, n1, q1⟩ := mup hH0 hF0 (c := 173) (i := 0) (v := 0) (A := (-2147483648)) (B := 2147483647) (bs_28_0 _ _ (by omega) (by omega)) ⟨by omega, by omega⟩ (jin_of 0 rfl ⟨by omega, by omega⟩)
 refine jm_puti c1 hm rfl sh_173 rfl e1 ?_
 refine jx_load c1 hm rfl rfl rfl rfl ?_
 refine jy_ic c1 hm rfl (by decide) ?_
 refine jy_ic c1 hm rfl (by decide) ?_
 refine jt_i c3 hm rfl rfl pj_X12_isIn rfl rfl rfl ((ct_X12_isInb X (by omega) M1 hH1 a0 ⟨by omega, by omega⟩ 0 ⟨by omega, by omega⟩ 1 ⟨by omega, by omega⟩).le (by decide)) (fun z2 _ ⟨rfl, lz2, uz2, p3, p4⟩ => ?_)
 refine jz_ne c1 hm 16 rfl rfl (fun h5 => ?_) (fun h5 => ?_)
 ·
  refine jy_ic c1 hm rfl (by decide) ?_
  refine jx_stor c1 hm (L' := [some (.inr (.inr (.inl 173))), some (.inl a0), some (.inl 0)]) rfl rfl rfl rfl rfl ?_
  have W12 : ∀ (n13 : Nat) (b6 : Int) (hb6 : 0 ≤ b6 ∧ b6 ≤ 476) (M7 : JM) (hH7 : HI (X) M7) (hF7 : Fr md_X12_image_173i M0 M7) (k8 : M7.1 173 0 = 0) (hcI : ∀ j : Nat, (j : Int) < b6 → M7.1 177 (476 * (a0).toNat + j) = M0.1 175 j) (hcO : ∀ j : Nat, j < 476 * (a0).toNat ∨ 476 * (a0).toNat + 476 ≤ j → M7.1 177 j = M0.1 177 j) (hcK : ∀ j : Nat, M7.1 183 j = M0.1 183 j), (-b6 + 476) < (n13 : Int) → F 18 [some (.inr (.inr (.inl 173))), some (.inl a0), some (.inl b6)] [] M7 := by
   intro n13
   induction n13 with
   | zero => intros; omega
   | succ n13 ihW12 =>
    intro b6 hb6 M7 hH7 hF7 k8 hcI hcO hcK hrW12
    refine jx_load c1 hm rfl rfl rfl rfl ?_
    refine jy_sp c1 hm rfl (by decide) ?_
    refine jc_ge c1 hm 49 rfl rfl (fun h14 => ?_) (fun h14 => ?_)
    ·
     refine jy_ic c1 hm rfl (by decide) ?_
     refine jx_stor c1 hm (L' := [some (.inr (.inr (.inl 173))), some (.inl a0), some (.inl 0)]) rfl rfl rfl rfl rfl ?_
     have W24 : ∀ (n25 : Nat) (b18 : Int) (hb18 : 0 ≤ b18 ∧ b18 ≤ 18) (M19 : JM) (hH19 : HI (X) M19) (hF19 : Fr md_X12_image_173i M0 M19) (k20 : M19.1 173 0 = 0) (hcI : ∀ j : Nat, j < 476 → M19.1 177 (476 * (a0).toNat + j) = M0.1 175 j) (hcO : ∀ j : Nat, j < 476 * (a0).toNat ∨ 476 * (a0).toNat + 476 ≤ j → M19.1 177 j = M0.1 177 j) (hcK : ∀ j : Nat, M19.1 183 j = M0.1 183 j), (-b18 + 18) < (n25 : Int) → F 51 [some (.inr (.inr (.inl 173))), some (.inl a0), some (.inl b18)] [] M19 := by
      intro n25
      induction n25 with
      | zero => intros; omega
      | succ n25 ihW24 =>
       intro b18 hb18 M19 hH19 hF19 k20 hcI hcO hcK hrW24
       refine jx_load c1 hm rfl rfl rfl rfl ?_
       skip
       refine jy_bp c1 hm rfl (by decide) ?_
       refine jc_ge c1 hm 80 rfl rfl (fun h26 => ?_) (fun h26 => ?_)
       ·
        refine jx_load c1 hm rfl rfl rfl rfl ?_
        refine jx_getr c1 hm rfl sh_173 rfl ?_
        refine jx_load c1 hm rfl rfl rfl rfl ?_
        refine jy_ic c1 hm rfl (by decide) ?_
        obtain ⟨M29, e29, hH29, hF29, k29, n29, q29⟩ := mup hH19 hF19 (c := 183) (i := (a0).toNat) (v := 1) (A := 0) (B := 1) rfl ⟨by omega, by omega⟩ (jin_of 2 rfl ⟨by omega, by omega⟩)
        refine jm_bast c1 hm rfl sh_183 (Or.inr ⟨rfl, by omega, by omega⟩) ⟨by omega, by omega⟩ e29 ?_
        refine jy_ic c1 hm rfl (by decide) ?_
        exact jx_retz c2 hm rfl rfl ⟨by omega, by omega⟩ ⟨_, rfl, hH29, hF29, by omega, by omega, (if c : a0 = 0 then KOK.of hp0 (fun j _ y => (n29 177 _ (fun h => absurd h.1 (by decide))).trans (by have z := hcI j (by omega); rw [show 476 * (a0).toNat + j = 476 * 0 + j by omega] at z; exact z)) else KOK.cg hp1 (fun j y1 y2 => (n29 177 _ (fun h => absurd h.1 (by decide))).trans (hcO j (by omega)))), (if c : a0 = 1 then KOK.of hp0 (fun j _ y => (n29 177 _ (fun h => absurd h.1 (by decide))).trans (by have z := hcI j (by omega); rw [show 476 * (a0).toNat + j = 476 * 1 + j by omega] at z; exact z)) else KOK.cg hp2 (fun j y1 y2 => (n29 177 _ (fun h => absurd h.1 (by decide))).trans (hcO j (by omega)))), (imP.st k29 n29 (fun j => hcK j) (by omega))⟩
       refine jx_load c1 hm rfl rfl rfl rfl ?_
       refine jx_getr c1 hm rfl sh_173 rfl ?_
       refine jy_bp c1 hm rfl (by decide) ?_
       refine jx_load c1 hm rfl rfl rfl rfl ?_
       refine jy_mul c1 hm (18 * a0) rfl (by omega) ?_
       refine jx_load c1 hm rfl rfl rfl rfl ?_
       refine jy_add c1 hm (18 * a0 + b18) rfl (by omega) ?_
       refine jx_load c1 hm rfl rfl rfl rfl ?_
       refine jx_getr c1 hm rfl sh_173 rfl ?_
       refine jx_load c1 hm rfl rfl rfl rfl ?_
       obtain ⟨w27, kw27⟩ : ∃ w, M19.2 180 (b18).toNat = w := ⟨_, rfl⟩
       have bw27 : LB w27.toInt := kw27 ▸ hH19.2 180 _ rfl
       refine jx_lald c1 hm rfl sh_180 ⟨by omega, by omega⟩ kw27 ?_
       obtain ⟨M28, e28, hH28, hF28, n28, k28, _⟩ := mul hH19 hF19 (c := 182) (i := ((18 * a0 + b18)).toNat) (v := w27) (fun _ => bw27)
       refine jm_last c1 hm rfl sh_182 ⟨by omega, by omega⟩ e28 ?_
       refine jx_iinc c1 hm (v := (b18 + 1)) (L' := [some (.inr (.inr (.inl 173))), some (.inl a0), some (.inl (b18 + 1))]) rfl rfl (by omega) (by omega) rfl ?_
       refine jx_goto c1 hm 51 rfl rfl ?_
       have k30 : M28.1 173 0 = 0 := (n28 173 0).trans k20
       exact ihW24 (b18 + 1) (by omega) M28 hH28 hF28 k30 (fun j hj => (n28 177 _).trans (hcI j hj)) (fun j hj => (n28 177 _).trans (hcO j hj)) (fun j => (n28 183 _).trans (hcK j)) (by omega)
     exact W24 (18 + 1 : Int).toNat 0 (by omega) M7 hH7 hF7 k8 (fun j hj => hcI j (by omega)) hcO hcK (by omega)
    refine jx_load c1 hm rfl rfl rfl rfl ?_
    refine jx_getr c1 hm rfl sh_173 rfl ?_
    refine jy_sp c1 hm rfl (by decide) ?_
    refine jx_load c1 hm rfl rfl rfl rfl ?_
    refine jy_mul c1 hm (476 * a0) rfl (by omega) ?_
    refine jx_load c1 hm rfl rfl rfl rfl ?_
    refine jy_add c1 hm (476 * a0 + b6) rfl (by omega) ?_
    refine jx_load c1 hm rfl rfl rfl rfl ?_
    refine jx_getr c1 hm rfl sh_173 rfl ?_
    refine jx_load c1 hm rfl rfl rfl rfl ?_
    obtain ⟨z15, k16, lz15, uz15⟩ := hH7.any (by omega) (by omega) 175 (b6).toNat
    refine jx_iald c1 hm rfl sh_175 ⟨by omega, by omega⟩ k16 ?_
    obtain ⟨M17, e17, hH17, hF17, k17, n17, q17⟩ := mupc hH7 hF7 hH7 (c := 177) (i := ((476 * a0 + b6)).toNat) (c1 := 175) (i1 := (b6).toNat) (v := z15) k16 (ckp (by omega)) (jin_of 1 rfl ⟨by omega, by omega⟩)
    refine jm_iast c1 hm rfl sh_177 ⟨by omega, by omega⟩ e17 ?_
    refine jx_iinc c1 hm (v := (b6 + 1)) (L' := [some (.inr (.inr (.inl 173))), some (.inl a0), some (.inl (b6 + 1))]) rfl rfl (by omega) (by omega) rfl ?_
    refine jx_goto c1 hm 18 rfl rfl ?_
    have k31 : M17.1 173 0 = 0 := (n17 173 0 (fun h => absurd h.1 (by decide))).trans k8
    exact ihW12 (b6 + 1) (by omega) M17 hH17 hF17 k31 (fun j hj => if c : (j : Int) < b6 then (n17 177 _ (by omega)).trans (hcI j c) else (by have e : j = (b6).toNat := (by omega); subst e; rw [show 476 * (a0).toNat + (b6).toNat = ((476 * a0 + b6)).toNat by omega]; exact k17.trans (k16.symm.trans (hF7 175 _ rfl)))) (fun j hj => (n17 177 j (by omega)).trans (hcO j hj)) (fun j => (n17 183 _ (fun h => absurd h.1 (by decide))).trans (hcK j)) (by omega)
  exact W12 (476 + 1 : Int).toNat 0 (by omega) M1 hH1 hF1 k1 (fun j hj => by omega) (fun j _ => (n1 177 _ (fun h => absurd h.1 (by decide)))) (fun j => (n1 183 _ (fun h => absurd h.1 (by decide)))) (by omega)
 refine jy_ic c1 hm rfl (by decide) ?_
 exact jx_retz c2 hm rfl rfl ⟨by omega, by omega⟩ ⟨_, rfl, hH1, hF1, by omega, by omega, (KOK.cg hp1 (fun j _ _ => (n1 177 _ (fun h => absurd h.1 (by decide))))), (KOK.cg hp2 (fun j _ _ => (n1 177 _ (fun h => absurd h.1 (by decide))))), (imP.no (fun j => (n1 183 _ (fun h => absurd h.1 (by decide)))) (by omega))⟩
def md_X12_restore_173i : List (Nat × (Nat × Nat)) := [(173, (0, 0)), (173, (23, 23)), (175, (0, 475))]
theorem ct_X12_restore_173i (X : Int) (hX : 0 ≤ X ∧ X ≤ 100000000) (M0 : JM) (hH0 : HI X M0) (a0 : Int) (ha0 : (-2147483648) ≤ a0 ∧ a0 ≤ 2147483647) (hp0 : SOK M0) (hp1 : KOK M0 0) (hp2 : KOK M0 1) : JOk shp PJ 2 175 [.inr (.inr (.inl 173)), .inl a0] M0 (jRi (fun v M' => HI X M' ∧ Fr md_X12_restore_173i M0 M' ∧ 0 ≤ v ∧ v ≤ 1 ∧ (SOK M') ∧ (v = imR 183 a0 M0))) := by
 refine ⟨jr_X12_restore, pj_X12_restore, fun F c1 c2 c3 => ?_⟩
 have hm := pj_X12_restore
 change F 0 [some (.inr (.inr (.inl 173))), some (.inl a0), none] [] M0
 have hF0 : Fr md_X12_restore_173i M0 M0 := Fr.rf _ _
 refine jx_load c1 hm rfl rfl rfl rfl ?_
 refine jy_ic c1 hm rfl (by decide) ?_
 obtain ⟨M1, e1, hH1, hF1, k1, n1, q1⟩ := mup hH0 hF0 (c := 173) (i := 0) (v := 0) (A := (-2147483648)) (B := 2147483647) (bs_28_0 _ _ (by omega) (by omega)) ⟨by omega, by omega⟩ (jin_of 0 rfl ⟨by omega, by omega⟩)
 refine jm_puti c1 hm rfl sh_173 rfl e1 ?_
 refine jx_load c1 hm rfl rfl rfl rfl ?_
 skip
 refine jy_ic c1 hm rfl (by decide) ?_
 refine jy_ic c1 hm rfl (by decide) ?_
 refine jt_i c3 hm rfl rfl pj_X12_isIn rfl rfl rfl ((ct_X12_isInb X (by omega) M1 hH1 a0 ⟨by omega, by omega⟩ 0 ⟨by omega, by omega⟩ 1 ⟨by omega, by omega⟩).le (by decide)) (fun z2 _ ⟨rfl, lz2, uz2, p3, p4⟩ => ?_)
 refine jz_eq c1 hm 23 rfl rfl (fun h5 => ?_) (fun h5 => ?_)
 ·
  refine jy_ic c1 hm rfl (by decide) ?_
  exact jx_retz c2 hm rfl rfl ⟨by omega, by omega⟩ ⟨_, rfl, hH1, hF1, by omega, by omega, (SOK.cg hp0 (fun j _ _ => (n1 175 _ (fun h => absurd h.1 (by decide))))), (by have y9 : M1.1 183 (a0).toNat = M0.1 183 (a0).toNat := (n1 183 _ (fun h => absurd h.1 (by decide))); unfold imR; split <;> omega)⟩
 refine jx_load c1 hm rfl rfl rfl rfl ?_
 refine jx_getr c1 hm rfl sh_173 rfl ?_
 refine jx_load c1 hm rfl rfl rfl rfl ?_
 obtain ⟨z6, k7, lz6, uz6⟩ := hH1.ld (c := 183) (i := (a0).toNat) (A := 0) (B := 1) rfl
 refine jx_bald c1 hm rfl sh_183 rfl ⟨by omega, by omega⟩ k7 ?_
 refine jz_ne c1 hm 25 rfl rfl (fun h8 => ?_) (fun h8 => ?_)
 ·
  refine jy_ic c1 hm rfl (by decide) ?_
  refine jx_stor c1 hm (L' := [some (.inr (.inr (.inl 173))), some (.inl a0), some (.inl 0)]) rfl rfl rfl rfl rfl ?_
  have W13 : ∀ (n14 : Nat) (b9 : Int) (hb9 : 0 ≤ b9 ∧ b9 ≤ 476) (M10 : JM) (hH10 : HI (X) M10) (hF10 : Fr md_X12_restore_173i M0 M10) (k11 : M10.1 173 0 = 0) (hcI : ∀ j : Nat, (j : Int) < b9 → M10.1 175 j = M0.1 177 (476 * (a0).toNat + j)), (-b9 + 476) < (n14 : Int) → F 27 [some (.inr (.inr (.inl 173))), some (.inl a0), some (.inl b9)] [] M10 := by
   intro n14
   induction n14 with
   | zero => intros; omega
   | succ n14 ihW13 =>
    intro b9 hb9 M10 hH10 hF10 k11 hcI hrW13
    refine jx_load c1 hm rfl rfl rfl rfl ?_
    refine jy_sp c1 hm rfl (by decide) ?_
    refine jc_ge c1 hm 58 rfl rfl (fun h15 => ?_) (fun h15 => ?_)
    ·
     refine jy_ic c1 hm rfl (by decide) ?_
     refine jx_stor c1 hm (L' := [some (.inr (.inr (.inl 173))), some (.inl a0), some (.inl 0)]) rfl rfl rfl rfl rfl ?_
     have W23 : ∀ (n24 : Nat) (b19 : Int) (hb19 : 0 ≤ b19 ∧ b19 ≤ 18) (M20 : JM) (hH20 : HI (X) M20) (hF20 : Fr md_X12_restore_173i M0 M20) (k21 : M20.1 173 0 = 0) (hcI : ∀ j : Nat, j < 476 → M20.1 175 j = M0.1 177 (476 * (a0).toNat + j)), (-b19 + 18) < (n24 : Int) → F 60 [some (.inr (.inr (.inl 173))), some (.inl a0), some (.inl b19)] [] M20 := by
      intro n24
      induction n24 with
      | zero => intros; omega
      | succ n24 ihW23 =>
       intro b19 hb19 M20 hH20 hF20 k21 hcI hrW23
       refine jx_load c1 hm rfl rfl rfl rfl ?_
       skip
       refine jy_bp c1 hm rfl (by decide) ?_
       refine jc_ge c1 hm 89 rfl rfl (fun h25 => ?_) (fun h25 => ?_)
       ·
        refine jx_load c1 hm rfl rfl rfl rfl ?_
        refine jy_ic c1 hm rfl (by decide) ?_
        obtain ⟨M28, e28, hH28, hF28, k28, n28, q28⟩ := mup hH20 hF20 (c := 173) (i := 23) (v := 0) (A := 0) (B := 8) (bs_28_8 _ _ (by omega) (by omega)) ⟨by omega, by omega⟩ (jin_of 1 rfl ⟨by omega, by omega⟩)
        refine jm_puti c1 hm rfl sh_173 rfl e28 ?_
        refine jy_ic c1 hm rfl (by decide) ?_
        exact jx_retz c2 hm rfl rfl ⟨by omega, by omega⟩ ⟨_, rfl, hH28, hF28, by omega, by omega, (if c : a0 = 0 then SOK.of hp1 (fun j _ y => (n28 175 _ (fun h => absurd h.1 (by decide))).trans (by have z := hcI j (by omega); rw [show 476 * (a0).toNat + j = 476 * 0 + j by omega] at z; exact z)) else SOK.of hp2 (fun j _ y => (n28 175 _ (fun h => absurd h.1 (by decide))).trans (by have z := hcI j (by omega); rw [show 476 * (a0).toNat + j = 476 * 1 + j by omega] at z; exact z))), (by have y9 : M1.1 183 (a0).toNat = M0.1 183 (a0).toNat := (n1 183 _ (fun h => absurd h.1 (by decide))); unfold imR; split <;> omega)⟩
       refine jx_load c1 hm rfl rfl rfl rfl ?_
       refine jx_getr c1 hm rfl sh_173 rfl ?_
       refine jx_load c1 hm rfl rfl rfl rfl ?_
       refine jx_load c1 hm rfl rfl rfl rfl ?_
       refine jx_getr c1 hm rfl sh_173 rfl ?_
       refine jy_bp c1 hm rfl (by decide) ?_
       refine jx_load c1 hm rfl rfl rfl rfl ?_
       refine jy_mul c1 hm (18 * a0) rfl (by omega) ?_
       refine jx_load c1 hm rfl rfl rfl rfl ?_
       refine jy_add c1 hm (18 * a0 + b19) rfl (by omega) ?_
       obtain ⟨w26, kw26⟩ : ∃ w, M20.2 182 ((18 * a0 + b19)).toNat = w := ⟨_, rfl⟩
       have bw26 : LB w26.toInt := kw26 ▸ hH20.2 182 _ rfl
       refine jx_lald c1 hm rfl sh_182 ⟨by omega, by omega⟩ kw26 ?_
       obtain ⟨M27, e27, hH27, hF27, n27, k27, _⟩ := mul hH20 hF20 (c := 180) (i := (b19).toNat) (v := w26) (fun _ => bw26)
       refine jm_last c1 hm rfl sh_180 ⟨by omega, by omega⟩ e27 ?_
       refine jx_iinc c1 hm (v := (b19 + 1)) (L' := [some (.inr (.inr (.inl 173))), some (.inl a0), some (.inl (b19 + 1))]) rfl rfl (by omega) (by omega) rfl ?_
       refine jx_goto c1 hm 60 rfl rfl ?_
       have k29 : M27.1 173 0 = 0 := (n27 173 0).trans k21
       exact ihW23 (b19 + 1) (by omega) M27 hH27 hF27 k29 (fun j hj => (n27 175 _).trans (hcI j hj)) (by omega)
     exact W23 (18 + 1 : Int).toNat 0 (by omega) M10 hH10 hF10 k11 (fun j hj => hcI j (by omega)) (by omega)
    refine jx_load c1 hm rfl rfl rfl rfl ?_
    refine jx_getr c1 hm rfl sh_173 rfl ?_
    refine jx_load c1 hm rfl rfl rfl rfl ?_
    refine jx_load c1 hm rfl rfl rfl rfl ?_
    refine jx_getr c1 hm rfl sh_173 rfl ?_
    refine jy_sp c1 hm rfl (by decide) ?_
    refine jx_load c1 hm rfl rfl rfl rfl ?_
    refine jy_mul c1 hm (476 * a0) rfl (by omega) ?_
    refine jx_load c1 hm rfl rfl rfl rfl ?_
    refine jy_add c1 hm (476 * a0 + b9) rfl (by omega) ?_
    obtain ⟨z16, k17, lz16, uz16⟩ := hH10.any (by omega) (by omega) 177 ((476 * a0 + b9)).toNat
    refine jx_iald c1 hm rfl sh_177 ⟨by omega, by omega⟩ k17 ?_
    obtain ⟨M18, e18, hH18, hF18, k18, n18, q18⟩ := mupc hH10 hF10 hH10 (c := 175) (i := (b9).toNat) (c1 := 177) (i1 := ((476 * a0 + b9)).toNat) (v := z16) k17 ((ckp (by omega)).symm) (jin_of 2 rfl ⟨by omega, by omega⟩)
    refine jm_iast c1 hm rfl sh_175 ⟨by omega, by omega⟩ e18 ?_
    refine jx_iinc c1 hm (v := (b9 + 1)) (L' := [some (.inr (.inr (.inl 173))), some (.inl a0), some (.inl (b9 + 1))]) rfl rfl (by omega) (by omega) rfl ?_
    refine jx_goto c1 hm 27 rfl rfl ?_
    have k30 : M18.1 173 0 = 0 := (n18 173 0 (fun h => absurd h.1 (by decide))).trans k11
    exact ihW13 (b9 + 1) (by omega) M18 hH18 hF18 k30 (fun j hj => if c : (j : Int) < b9 then (n18 175 j (by omega)).trans (hcI j c) else (by have e : j = (b9).toNat := (by omega); subst e; have y := k18.trans (k17.symm.trans (hF10 177 _ rfl)); rw [show ((476 * a0 + b9)).toNat = 476 * (a0).toNat + (b9).toNat by omega] at y; exact y)) (by omega)
  exact W13 (476 + 1 : Int).toNat 0 (by omega) M1 hH1 hF1 k1 (fun j hj => by omega) (by omega)
 refine jy_ic c1 hm rfl (by decide) ?_
 exact jx_retz c2 hm rfl rfl ⟨by omega, by omega⟩ ⟨_, rfl, hH1, hF1, by omega, by omega, (SOK.cg hp0 (fun j _ _ => (n1 175 _ (fun h => absurd h.1 (by decide))))), (by have y9 : M1.1 183 (a0).toNat = M0.1 183 (a0).toNat := (n1 183 _ (fun h => absurd h.1 (by decide))); unfold imR; split <;> omega)⟩
def md_X11_image_0i : List (Nat × (Nat × Nat)) := [(46, (0, 0)), (46, (1, 1)), (137, (6, 6)), (137, (7, 7)), (138, (0, 2)), (139, (0, 17)), (140, (0, 5)), (142, (0, 35)), (143, (0, 5)), (144, (7, 7)), (145, (0, 5)), (146, (0, 5)), (147, (0, 5)), (148, (0, 5)), (149, (0, 35)), (150, (0, 35)), (151, (0, 35)), (152, (2, 2)), (152, (3, 3)), (153, (0, 39)), (155, (6, 6)), (155, (7, 7)), (156, (0, 2)), (157, (0, 17)), (158, (0, 5)), (160, (0, 35)), (161, (0, 5)), (162, (7, 7)), (163, (0, 5)), (164, (0, 5)), (165, (0, 5)), (166, (0, 5)), (167, (0, 35)), (168, (0, 35)), (169, (0, 35)), (170, (2, 2)), (170, (3, 3)), (171, (0, 39))]
theorem ct_X11_image_0i (X : Int) (hX : 0 ≤ X ∧ X ≤ 100000000) (M0 : JM) (hH0 : HI X M0) (a0 : Int) (ha0 : (-2147483648) ≤ a0 ∧ a0 ≤ 2147483647) : JOk shp PJ 4 44 [.inr (.inr (.inl 0)), .inl a0] M0 (jRi (fun v M' => HI X M' ∧ Fr md_X11_image_0i M0 M' ∧ 0 ≤ v ∧ v ≤ 1 ∧ (imP 46 a0 M0 M'))) := by
 refine ⟨jr_X11_image, pj_X11_image, fun F c1 c2 c3 => ?_⟩
 have hm := pj_X11_image
 change F 0 [some (.inr (.inr (.inl 0))), some (.inl a0)] [] M0
 have hF0 : Fr md_X11_image_0i M0 M0 := Fr.rf _ _
 refine jx_load c1 hm rfl rfl rfl rfl ?_
 refine jz_lt c1 hm 9 rfl rfl (fun h1 => ?_) (fun h1 => ?_)
 ·
  refine jy_ic c1 hm rfl (by decide) ?_
  exact jx_retz c2 hm rfl rfl ⟨by omega, by omega⟩ ⟨_, rfl, hH0, hF0, by omega, by omega, (imP.no (fun _ => rfl) (by omega))⟩
 refine jx_load c1 hm rfl rfl rfl rfl ?_
 refine jy_ic c1 hm rfl (by decide) ?_
 refine jc_lt c1 hm 11 rfl rfl (fun h2 => ?_) (fun h2 => ?_)
 ·
  refine jx_load c1 hm rfl rfl rfl rfl ?_
  refine jx_getr c1 hm rfl sh_0 rfl ?_
  refine jx_load c1 hm rfl rfl rfl rfl ?_
  have h3 : a0 = 0 ∨ a0 = 1 := by omega
  rcases h3 with h3 | h3
  ·
   refine jx_aald c1 hm rfl sh_45 (by omega) (by rw [h3]; rfl) ?_
   refine jx_load c1 hm rfl rfl rfl rfl ?_
   refine jx_getr c1 hm rfl sh_0 rfl ?_
   refine jv_v c3 hm rfl pj_X2_takeAll rfl rfl ⟨_, _, _, rfl, sh_137⟩ rfl ((ct_X2_takeAll_137_5 X (by omega) M0 hH0 ).le (by decide)) (fun M4 ⟨hH4, hR4⟩ => ?_)
   have hF4 := hF0.tr hR4 (by decide +kernel)
   refine jx_load c1 hm rfl rfl rfl rfl ?_
   refine jx_getr c1 hm rfl sh_0 rfl ?_
   refine jx_load c1 hm rfl rfl rfl rfl ?_
   refine jy_ic c1 hm rfl (by decide) ?_
   obtain ⟨M5, e5, hH5, hF5, k5, n5, q5⟩ := mup hH4 hF4 (c := 46) (i := (a0).toNat) (v := 1) (A := 0) (B := 1) rfl ⟨by omega, by omega⟩ (jin_of 0 rfl ⟨by omega, by omega⟩)
   refine jm_bast c1 hm rfl sh_46 (Or.inr ⟨rfl, by omega, by omega⟩) ⟨by omega, by omega⟩ e5 ?_
   refine jy_ic c1 hm rfl (by decide) ?_
   exact jx_retz c2 hm rfl rfl ⟨by omega, by omega⟩ ⟨_, rfl, hH5, hF5, by omega, by omega, (imP.st k5 n5 (fun j => (hR4 46 _ rfl)) (by omega))⟩
  ·
   refine jx_aald c1 hm rfl sh_45 (by omega) (by rw [h3]; rfl) ?_
   refine jx_load c1 hm rfl rfl rfl rfl ?_
   refine jx_getr c1 hm rfl sh_0 rfl ?_
   refine jv_v c3 hm rfl pj_X2_takeAll rfl rfl ⟨_, _, _, rfl, sh_155⟩ rfl ((ct_X2_takeAll_155_5 X (by omega) M0 hH0 ).le (by decide)) (fun M6 ⟨hH6, hR6⟩ => ?_)
   have hF6 := hF0.tr hR6 (by decide +kernel)
   refine jx_load c1 hm rfl rfl rfl rfl ?_
   refine jx_getr c1 hm rfl sh_0 rfl ?_
   refine jx_load c1 hm rfl rfl rfl rfl ?_
   refine jy_ic c1 hm rfl (by decide) ?_
   obtain ⟨M7, e7, hH7, hF7, k7, n7, q7⟩ := mup hH6 hF6 (c := 46) (i := (a0).toNat) (v := 1) (A := 0) (B := 1) rfl ⟨by omega, by omega⟩ (jin_of 1 rfl ⟨by omega, by omega⟩)
   refine jm_bast c1 hm rfl sh_46 (Or.inr ⟨rfl, by omega, by omega⟩) ⟨by omega, by omega⟩ e7 ?_
   refine jy_ic c1 hm rfl (by decide) ?_
   exact jx_retz c2 hm rfl rfl ⟨by omega, by omega⟩ ⟨_, rfl, hH7, hF7, by omega, by omega, (imP.st k7 n7 (fun j => (hR6 46 _ rfl)) (by omega))⟩
 refine jy_ic c1 hm rfl (by decide) ?_
 exact jx_retz c2 hm rfl rfl ⟨by omega, by omega⟩ ⟨_, rfl, hH0, hF0, by omega, by omega, (imP.no (fun _ => rfl) (by omega))⟩
def md_X11_restore_0i : List (Nat × (Nat × Nat)) := [(5, (6, 6)), (5, (7, 7)), (6, (0, 2)), (7, (0, 17)), (8, (0, 5)), (10, (0, 35)), (11, (0, 5)), (12, (7, 7)), (13, (0, 5)), (14, (0, 5)), (15, (0, 5)), (16, (0, 5)), (17, (0, 35)), (18, (0, 35)), (19, (0, 35)), (20, (2, 2)), (20, (3, 3)), (21, (0, 39)), (55, (2, 2))]
theorem ct_X11_restore_0i (X : Int) (hX : 0 ≤ X ∧ X ≤ 100000000) (M0 : JM) (hH0 : HI X M0) (a0 : Int) (ha0 : (-2147483648) ≤ a0 ∧ a0 ≤ 2147483647) : JOk shp PJ 4 60 [.inr (.inr (.inl 0)), .inl a0] M0 (jRi (fun v M' => HI X M' ∧ Fr md_X11_restore_0i M0 M' ∧ 0 ≤ v ∧ v ≤ 1 ∧ (v = imR 46 a0 M0))) := by
 refine ⟨jr_X11_restore, pj_X11_restore, fun F c1 c2 c3 => ?_⟩
 have hm := pj_X11_restore
 change F 0 [some (.inr (.inr (.inl 0))), some (.inl a0)] [] M0
 have hF0 : Fr md_X11_restore_0i M0 M0 := Fr.rf _ _
 refine jx_load c1 hm rfl rfl rfl rfl ?_
 refine jz_lt c1 hm 18 rfl rfl (fun h1 => ?_) (fun h1 => ?_)
 ·
  refine jy_ic c1 hm rfl (by decide) ?_
  exact jx_retz c2 hm rfl rfl ⟨by omega, by omega⟩ ⟨_, rfl, hH0, hF0, by omega, by omega, (by unfold imR; split <;> omega)⟩
 refine jx_load c1 hm rfl rfl rfl rfl ?_
 refine jy_ic c1 hm rfl (by decide) ?_
 refine jc_ge c1 hm 18 rfl rfl (fun h2 => ?_) (fun h2 => ?_)
 ·
  refine jy_ic c1 hm rfl (by decide) ?_
  exact jx_retz c2 hm rfl rfl ⟨by omega, by omega⟩ ⟨_, rfl, hH0, hF0, by omega, by omega, (by unfold imR; split <;> omega)⟩
 refine jx_load c1 hm rfl rfl rfl rfl ?_
 refine jx_getr c1 hm rfl sh_0 rfl ?_
 refine jx_load c1 hm rfl rfl rfl rfl ?_
 obtain ⟨z3, k4, lz3, uz3⟩ := hH0.ld (c := 46) (i := (a0).toNat) (A := 0) (B := 1) rfl
 refine jx_bald c1 hm rfl sh_46 rfl ⟨by omega, by omega⟩ k4 ?_
 refine jz_ne c1 hm 20 rfl rfl (fun h5 => ?_) (fun h5 => ?_)
 ·
  refine jx_load c1 hm rfl rfl rfl rfl ?_
  refine jx_getr c1 hm rfl sh_0 rfl ?_
  refine jx_load c1 hm rfl rfl rfl rfl ?_
  refine jx_getr c1 hm rfl sh_0 rfl ?_
  refine jx_load c1 hm rfl rfl rfl rfl ?_
  have h6 : a0 = 0 ∨ a0 = 1 := by omega
  rcases h6 with h6 | h6
  ·
   refine jx_aald c1 hm rfl sh_45 (by omega) (by rw [h6]; rfl) ?_
   refine jv_v c3 hm rfl pj_X2_takeAll rfl rfl ⟨_, _, _, rfl, sh_5⟩ rfl ((ct_X2_takeAll_5_137 X (by omega) M0 hH0 ).le (by decide)) (fun M7 ⟨hH7, hR7⟩ => ?_)
   have hF7 := hF0.tr hR7 (by decide +kernel)
   refine jx_load c1 hm rfl rfl rfl rfl ?_
   refine jx_getr c1 hm rfl sh_0 rfl ?_
   refine jv_v c3 hm rfl pj_X4_forget rfl rfl ⟨_, _, _, rfl, sh_55⟩ rfl ((ct_X4_forget_55 X (by omega) M7 hH7 ).le (by decide)) (fun M8 ⟨hH8, hR8⟩ => ?_)
   have hF8 := hF7.tr hR8 (by decide +kernel)
   refine jy_ic c1 hm rfl (by decide) ?_
   exact jx_retz c2 hm rfl rfl ⟨by omega, by omega⟩ ⟨_, rfl, hH8, hF8, by omega, by omega, (by unfold imR; split <;> omega)⟩
  ·
   refine jx_aald c1 hm rfl sh_45 (by omega) (by rw [h6]; rfl) ?_
   refine jv_v c3 hm rfl pj_X2_takeAll rfl rfl ⟨_, _, _, rfl, sh_5⟩ rfl ((ct_X2_takeAll_5_155 X (by omega) M0 hH0 ).le (by decide)) (fun M9 ⟨hH9, hR9⟩ => ?_)
   have hF9 := hF0.tr hR9 (by decide +kernel)
   refine jx_load c1 hm rfl rfl rfl rfl ?_
   refine jx_getr c1 hm rfl sh_0 rfl ?_
   refine jv_v c3 hm rfl pj_X4_forget rfl rfl ⟨_, _, _, rfl, sh_55⟩ rfl ((ct_X4_forget_55 X (by omega) M9 hH9 ).le (by decide)) (fun M10 ⟨hH10, hR10⟩ => ?_)
   have hF10 := hF9.tr hR10 (by decide +kernel)
   refine jy_ic c1 hm rfl (by decide) ?_
   exact jx_retz c2 hm rfl rfl ⟨by omega, by omega⟩ ⟨_, rfl, hH10, hF10, by omega, by omega, (by unfold imR; split <;> omega)⟩
 refine jy_ic c1 hm rfl (by decide) ?_
 exact jx_retz c2 hm rfl rfl ⟨by omega, by omega⟩ ⟨_, rfl, hH0, hF0, by omega, by omega, (by unfold imR; split <;> omega)⟩
theorem law_loop (n : Nat) (nn : Int) (hnn : (n : Int) = nn) (hn : 0 ≤ nn ∧ nn ≤ 3072) (f : Nat → Int) (hf : ∀ j, ∃ z, f j = z ∧ -2147483648 ≤ z ∧ z ≤ 2147483647) (F : Nat → JP) (c1f : ∀ k, k ≤ 512 → jstC shp PL (some (n, f)) 1000 (F k)) (c2f : ∀ k, k ≤ 512 → jreC PL 1000 (fun r _ => r = some (.inl 1)) (F k)) (c3f : ∀ k, k ≤ 512 → jcaC shp PL (JOk shp PJ 94) 1000 (F k))
 (cm : ∀ k : Nat, k < 512 → ∀ (X : Int) (L : JL) (a b : Int) (M : JM), 0 ≤ X → X ≤ 100000000 → HI X M → -2147483648 ≤ a → a ≤ 2147483647 → -2147483648 ≤ b → b ≤ 2147483647 → (∀ (v : Int) (M' : JM), 0 ≤ v → v ≤ 1 → HI X M' → (∀ c i, M'.1 c i = M.1 c i) → F (k + 1) 365 L [.inl v] M') → F k 362 L [.inr (.inr (.inl 198)), .inl b, .inl a, .inr (.inr (.inl 0))] M)
 (X : Int) (hX : 0 ≤ X ∧ X ≤ 0) (M0 : JM) (hH0 : HI X M0) (hs1 : SOK M0) (hs2 : KOK M0 0) (hs3 : KOK M0 1) (hs4 : IMG M0) : F 0 23 [some (.inr (.inr (.inr 0))), some (.inr (.inr (.inl 0))), some (.inr (.inr (.inl 173))), some (.inr (.inr (.inl 198))), some (.inl 0), none, none] [] M0 := by
 have hm := pl_law
 have W9 : ∀ (n10 : Nat) (b1 : Int) (hb1 : 0 ≤ b1 ∧ b1 ≤ 3072) (o2 : Option JV) (ho2 : o2 = none ∨ (∃ z, o2 = some (.inl z)) ∨ ∃ r, o2 = some (.inr (.inr r))) (o3 : Option JV) (ho3 : o3 = none ∨ (∃ z, o3 = some (.inl z)) ∨ ∃ r, o3 = some (.inr (.inr r))) (M4 : JM) (hH4 : HI (X + 8000 * b1) M4) (k : Nat) (hk : 6 * (k : Int) ≤ b1) (hs1 : SOK M4) (hs2 : KOK M4 0) (hs3 : KOK M4 1) (hs4 : IMG M4), (-b1 + 3072) < (n10 : Int) → F k 23 [some (.inr (.inr (.inr 0))), some (.inr (.inr (.inl 0))), some (.inr (.inr (.inl 173))), some (.inr (.inr (.inl 198))), some (.inl b1), o2, o3] [] M4 := by
  intro n10
  induction n10 with
  | zero => intros; omega
  | succ n10 ihW9 =>
   intro b1 hb1 o2 ho2 o3 ho3 M4 hH4 k hk hs1 hs2 hs3 hs4 hrW9
   have c1 := c1f k (by omega)
   have c2 := c2f k (by omega)
   have c3 := c3f k (by omega)
   refine jx_load c1 hm rfl rfl rfl rfl ?_
   refine jx_load c1 hm rfl rfl rfl rfl ?_
   refine jx_slen c1 hm rfl hnn ?_
   refine jy_bp c1 hm rfl (by decide) ?_
   refine jy_sub c1 hm (nn - 6) rfl (by omega) ?_
   refine jc_gt c1 hm 1451 rfl rfl (fun h11 => ?_) (fun h11 => ?_)
   ·
    refine jy_ic c1 hm rfl (by decide) ?_
    exact jx_retz c2 hm rfl rfl ⟨by omega, by omega⟩ rfl
   refine jx_load c1 hm rfl rfl rfl rfl ?_
   refine jx_load c1 hm rfl rfl rfl rfl ?_
   obtain ⟨z12, kz12, lz12, uz12⟩ := hf (b1).toNat
   refine jx_sald c1 hm rfl ⟨by omega, by omega⟩ kz12 ?_
   refine jy_bp c1 hm rfl (by decide) ?_
   refine jy_anr c1 hm rfl ⟨by omega, by omega⟩ (fun z13 lz13 uz13 => ?_)
   by_cases h14 : z13 = 0
   ·
    refine jx_tswI c1 hm 224 rfl ⟨by omega, by omega⟩ (by rw [h14] <;> rfl) rfl ?_
    refine jx_load c1 hm rfl rfl rfl rfl ?_
    refine jx_load c1 hm rfl rfl rfl rfl ?_
    refine jx_load c1 hm rfl rfl rfl rfl ?_
    refine jy_ic c1 hm rfl (by decide) ?_
    refine jy_add c1 hm (b1 + 1) rfl (by omega) ?_
    obtain ⟨z15, kz15, lz15, uz15⟩ := hf ((b1 + 1)).toNat
    refine jx_sald c1 hm rfl ⟨by omega, by omega⟩ kz15 ?_
    refine jx_load c1 hm rfl rfl rfl rfl ?_
    refine jx_load c1 hm rfl rfl rfl rfl ?_
    refine jy_ic c1 hm rfl (by decide) ?_
    refine jy_add c1 hm (b1 + 2) rfl (by omega) ?_
    obtain ⟨z16, kz16, lz16, uz16⟩ := hf ((b1 + 2)).toNat
    refine jx_sald c1 hm rfl ⟨by omega, by omega⟩ kz16 ?_
    refine jx_load c1 hm rfl rfl rfl rfl ?_
    refine jx_load c1 hm rfl rfl rfl rfl ?_
    refine jy_ic c1 hm rfl (by decide) ?_
    refine jy_add c1 hm (b1 + 3) rfl (by omega) ?_
    obtain ⟨z17, kz17, lz17, uz17⟩ := hf ((b1 + 3)).toNat
    refine jx_sald c1 hm rfl ⟨by omega, by omega⟩ kz17 ?_
    refine jx_load c1 hm rfl rfl rfl rfl ?_
    refine jx_load c1 hm rfl rfl rfl rfl ?_
    refine jy_ic c1 hm rfl (by decide) ?_
    refine jy_add c1 hm (b1 + 4) rfl (by omega) ?_
    obtain ⟨z18, kz18, lz18, uz18⟩ := hf ((b1 + 4)).toNat
    refine jx_sald c1 hm rfl ⟨by omega, by omega⟩ kz18 ?_
    refine jx_load c1 hm rfl rfl rfl rfl ?_
    refine jx_load c1 hm rfl rfl rfl rfl ?_
    refine jy_ic c1 hm rfl (by decide) ?_
    refine jy_add c1 hm (b1 + 5) rfl (by omega) ?_
    obtain ⟨z19, kz19, lz19, uz19⟩ := hf ((b1 + 5)).toNat
    refine jx_sald c1 hm rfl ⟨by omega, by omega⟩ kz19 ?_
    refine jv_i c3 hm rfl (plp pj_X11_feed rfl) rfl rfl ⟨_, _, _, rfl, sh_0⟩ rfl ((ct_X11_feed_0 (X + 8000 * b1) (by omega) M4 hH4 z15 ⟨by omega, by omega⟩ z16 ⟨by omega, by omega⟩ z17 ⟨by omega, by omega⟩ z18 ⟨by omega, by omega⟩ z19 ⟨by omega, by omega⟩).le (by decide)) (fun z20 M21 ⟨hH21, hR21, lz20, uz20⟩ => ?_)
    refine jx_pop c1 hm rfl rfl ?_
    refine jx_load c1 hm rfl rfl rfl rfl ?_
    refine jx_load c1 hm rfl rfl rfl rfl ?_
    refine jx_load c1 hm rfl rfl rfl rfl ?_
    refine jy_ic c1 hm rfl (by decide) ?_
    refine jy_add c1 hm (b1 + 1) rfl (by omega) ?_
    obtain ⟨z22, kz22, lz22, uz22⟩ := hf ((b1 + 1)).toNat
    refine jx_sald c1 hm rfl ⟨by omega, by omega⟩ kz22 ?_
    refine jx_load c1 hm rfl rfl rfl rfl ?_
    refine jx_load c1 hm rfl rfl rfl rfl ?_
    refine jy_ic c1 hm rfl (by decide) ?_
    refine jy_add c1 hm (b1 + 2) rfl (by omega) ?_
    obtain ⟨z23, kz23, lz23, uz23⟩ := hf ((b1 + 2)).toNat
    refine jx_sald c1 hm rfl ⟨by omega, by omega⟩ kz23 ?_
    refine jx_load c1 hm rfl rfl rfl rfl ?_
    refine jx_load c1 hm rfl rfl rfl rfl ?_
    refine jy_ic c1 hm rfl (by decide) ?_
    refine jy_add c1 hm (b1 + 3) rfl (by omega) ?_
    obtain ⟨z24, kz24, lz24, uz24⟩ := hf ((b1 + 3)).toNat
    refine jx_sald c1 hm rfl ⟨by omega, by omega⟩ kz24 ?_
    refine jx_load c1 hm rfl rfl rfl rfl ?_
    refine jx_load c1 hm rfl rfl rfl rfl ?_
    refine jy_ic c1 hm rfl (by decide) ?_
    refine jy_add c1 hm (b1 + 4) rfl (by omega) ?_
    obtain ⟨z25, kz25, lz25, uz25⟩ := hf ((b1 + 4)).toNat
    refine jx_sald c1 hm rfl ⟨by omega, by omega⟩ kz25 ?_
    refine jx_load c1 hm rfl rfl rfl rfl ?_
    refine jx_load c1 hm rfl rfl rfl rfl ?_
    refine jy_ic c1 hm rfl (by decide) ?_
    refine jy_add c1 hm (b1 + 5) rfl (by omega) ?_
    obtain ⟨z26, kz26, lz26, uz26⟩ := hf ((b1 + 5)).toNat
    refine jx_sald c1 hm rfl ⟨by omega, by omega⟩ kz26 ?_
    refine jv_i c3 hm rfl (plp pj_X12_feed rfl) rfl rfl ⟨_, _, _, rfl, sh_173⟩ rfl ((ct_X12_feed_173 (X + 8000 * b1) (by omega) M21 hH21 z22 ⟨by omega, by omega⟩ z23 ⟨by omega, by omega⟩ z24 ⟨by omega, by omega⟩ z25 ⟨by omega, by omega⟩ z26 ⟨by omega, by omega⟩).le (by decide)) (fun z27 M28 ⟨hH28, hR28, lz27, uz27⟩ => ?_)
    refine jx_pop c1 hm rfl rfl ?_
    refine jx_goto c1 hm 1445 rfl rfl ?_
    refine jx_iinc c1 hm (v := (b1 + 6)) (L' := [some (.inr (.inr (.inr 0))), some (.inr (.inr (.inl 0))), some (.inr (.inr (.inl 173))), some (.inr (.inr (.inl 198))), some (.inl (b1 + 6)), o2, o3]) rfl rfl (by omega) (by omega) rfl ?_
    refine jx_goto c1 hm 23 rfl rfl ?_
    exact ihW9 (b1 + 6) (by omega) o2 ho2 o3 ho3 M28 (hH28.mono (by omega) (by omega)) k (by omega) (SOK.cg hs1 (fun j h1 h2 => ((hR28 175 j rfl).trans (hR21 175 j rfl)))) (KOK.cg hs2 (fun j h1 h2 => ((hR28 177 j rfl).trans (hR21 177 j rfl)))) (KOK.cg hs3 (fun j h1 h2 => ((hR28 177 j rfl).trans (hR21 177 j rfl)))) (IMG.cg hs4 (fun j => ((hR28 46 j rfl).trans (hR21 46 j rfl))) (fun j => ((hR28 183 j rfl).trans (hR21 183 j rfl)))) (by omega)
   by_cases h29 : z13 = 1
   ·
    refine jx_tswI c1 hm 297 rfl ⟨by omega, by omega⟩ (by rw [h29] <;> rfl) rfl ?_
    refine jx_load c1 hm rfl rfl rfl rfl ?_
    refine jx_load c1 hm rfl rfl rfl rfl ?_
    refine jx_load c1 hm rfl rfl rfl rfl ?_
    refine jy_ic c1 hm rfl (by decide) ?_
    refine jy_add c1 hm (b1 + 1) rfl (by omega) ?_
    obtain ⟨z30, kz30, lz30, uz30⟩ := hf ((b1 + 1)).toNat
    refine jx_sald c1 hm rfl ⟨by omega, by omega⟩ kz30 ?_
    refine jv_i c3 hm rfl (plp pj_X11_end rfl) rfl rfl ⟨_, _, _, rfl, sh_0⟩ rfl ((ct_X11_end_0 (X + 8000 * b1) (by omega) M4 hH4 z30 ⟨by omega, by omega⟩).le (by decide)) (fun z31 M32 ⟨hH32, hR32, lz31, uz31⟩ => ?_)
    refine jx_pop c1 hm rfl rfl ?_
    refine jx_load c1 hm rfl rfl rfl rfl ?_
    refine jx_load c1 hm rfl rfl rfl rfl ?_
    refine jx_load c1 hm rfl rfl rfl rfl ?_
    refine jy_ic c1 hm rfl (by decide) ?_
    refine jy_add c1 hm (b1 + 1) rfl (by omega) ?_
    obtain ⟨z33, kz33, lz33, uz33⟩ := hf ((b1 + 1)).toNat
    refine jx_sald c1 hm rfl ⟨by omega, by omega⟩ kz33 ?_
    refine jv_i c3 hm rfl (plp pj_X12_end rfl) rfl rfl ⟨_, _, _, rfl, sh_173⟩ rfl ((ct_X12_end_173 (X + 8000 * b1) (by omega) M32 hH32 z33 ⟨by omega, by omega⟩).le (by decide)) (fun z34 M35 ⟨hH35, hR35, lz34, uz34⟩ => ?_)
    refine jx_pop c1 hm rfl rfl ?_
    refine jx_goto c1 hm 1445 rfl rfl ?_
    refine jx_iinc c1 hm (v := (b1 + 6)) (L' := [some (.inr (.inr (.inr 0))), some (.inr (.inr (.inl 0))), some (.inr (.inr (.inl 173))), some (.inr (.inr (.inl 198))), some (.inl (b1 + 6)), o2, o3]) rfl rfl (by omega) (by omega) rfl ?_
    refine jx_goto c1 hm 23 rfl rfl ?_
    exact ihW9 (b1 + 6) (by omega) o2 ho2 o3 ho3 M35 (hH35.mono (by omega) (by omega)) k (by omega) (SOK.cg hs1 (fun j h1 h2 => ((hR35 175 j rfl).trans (hR32 175 j rfl)))) (KOK.cg hs2 (fun j h1 h2 => ((hR35 177 j rfl).trans (hR32 177 j rfl)))) (KOK.cg hs3 (fun j h1 h2 => ((hR35 177 j rfl).trans (hR32 177 j rfl)))) (IMG.cg hs4 (fun j => ((hR35 46 j rfl).trans (hR32 46 j rfl))) (fun j => ((hR35 183 j rfl).trans (hR32 183 j rfl)))) (by omega)
   by_cases h36 : z13 = 2
   ·
    refine jx_tswI c1 hm 322 rfl ⟨by omega, by omega⟩ (by rw [h36] <;> rfl) rfl ?_
    refine jx_load c1 hm rfl rfl rfl rfl ?_
    refine jv_i c3 hm rfl (plp pj_X11_duchy rfl) rfl rfl ⟨_, _, _, rfl, sh_0⟩ rfl ((ct_X11_duchy_0 (X + 8000 * b1) (by omega) M4 hH4 ).le (by decide)) (fun z37 M38 ⟨hH38, hR38, lz37, uz37⟩ => ?_)
    refine jx_pop c1 hm rfl rfl ?_
    refine jx_load c1 hm rfl rfl rfl rfl ?_
    refine jv_i c3 hm rfl (plp pj_X12_duchy rfl) rfl rfl ⟨_, _, _, rfl, sh_173⟩ rfl ((ct_X12_duchy_173 (X + 8000 * b1) (by omega) M38 hH38 (SOK.cg hs1 (fun j h1 h2 => (hR38 175 j rfl)))).le (by decide)) (fun z39 M42 ⟨hH42, hR42, lz39, uz39, p40, p41⟩ => ?_)
    obtain ⟨z43, k44, lz43, uz43⟩ := hH42.ld (c := 175) (i := 234) (A := (-2147483648)) (B := 2147483647) (bs_11_11 _ _ (by omega) (by omega))
    refine jx_pop c1 hm rfl rfl ?_
    refine jx_goto c1 hm 1445 rfl rfl ?_
    refine jx_iinc c1 hm (v := (b1 + 6)) (L' := [some (.inr (.inr (.inr 0))), some (.inr (.inr (.inl 0))), some (.inr (.inr (.inl 173))), some (.inr (.inr (.inl 198))), some (.inl (b1 + 6)), o2, o3]) rfl rfl (by omega) (by omega) rfl ?_
    refine jx_goto c1 hm 23 rfl rfl ?_
    exact ihW9 (b1 + 6) (by omega) o2 ho2 o3 ho3 M42 (hH42.mono (by omega) (by omega)) k (by omega) p40 (KOK.cg hs2 (fun j h1 h2 => ((hR42 177 j rfl).trans (hR38 177 j rfl)))) (KOK.cg hs3 (fun j h1 h2 => ((hR42 177 j rfl).trans (hR38 177 j rfl)))) (IMG.cg hs4 (fun j => ((hR42 46 j rfl).trans (hR38 46 j rfl))) (fun j => ((hR42 183 j rfl).trans (hR38 183 j rfl)))) (by omega)
   by_cases h45 : z13 = 3
   ·
    refine jx_tswI c1 hm 335 rfl ⟨by omega, by omega⟩ (by rw [h45] <;> rfl) rfl ?_
    refine jx_load c1 hm rfl rfl rfl rfl ?_
    refine jv_i c3 hm rfl (plp pj_X11_fault rfl) rfl rfl ⟨_, _, _, rfl, sh_0⟩ rfl ((ct_X11_fault_0 (X + 8000 * b1) (by omega) M4 hH4 ).le (by decide)) (fun z46 _ ⟨rfl, lz46, uz46⟩ => ?_)
    refine jx_pop c1 hm rfl rfl ?_
    refine jx_load c1 hm rfl rfl rfl rfl ?_
    refine jv_i c3 hm rfl (plp pj_X12_fault rfl) rfl rfl ⟨_, _, _, rfl, sh_173⟩ rfl ((ct_X12_fault_173 (X + 8000 * b1) (by omega) M4 hH4 ).le (by decide)) (fun z47 M48 ⟨hH48, hR48, lz47, uz47⟩ => ?_)
    refine jx_pop c1 hm rfl rfl ?_
    refine jx_goto c1 hm 1445 rfl rfl ?_
    refine jx_iinc c1 hm (v := (b1 + 6)) (L' := [some (.inr (.inr (.inr 0))), some (.inr (.inr (.inl 0))), some (.inr (.inr (.inl 173))), some (.inr (.inr (.inl 198))), some (.inl (b1 + 6)), o2, o3]) rfl rfl (by omega) (by omega) rfl ?_
    refine jx_goto c1 hm 23 rfl rfl ?_
    exact ihW9 (b1 + 6) (by omega) o2 ho2 o3 ho3 M48 (hH48.mono (by omega) (by omega)) k (by omega) (SOK.cg hs1 (fun j h1 h2 => (hR48 175 j rfl))) (KOK.cg hs2 (fun j h1 h2 => (hR48 177 j rfl))) (KOK.cg hs3 (fun j h1 h2 => (hR48 177 j rfl))) (IMG.cg hs4 (fun j => (hR48 46 j rfl)) (fun j => (hR48 183 j rfl))) (by omega)
   by_cases h49 : z13 = 4
   ·
    refine jx_tswI c1 hm 348 rfl ⟨by omega, by omega⟩ (by rw [h49] <;> rfl) rfl ?_
    refine jx_load c1 hm rfl rfl rfl rfl ?_
    refine jx_load c1 hm rfl rfl rfl rfl ?_
    refine jx_load c1 hm rfl rfl rfl rfl ?_
    refine jy_ic c1 hm rfl (by decide) ?_
    refine jy_add c1 hm (b1 + 1) rfl (by omega) ?_
    obtain ⟨z50, kz50, lz50, uz50⟩ := hf ((b1 + 1)).toNat
    refine jx_sald c1 hm rfl ⟨by omega, by omega⟩ kz50 ?_
    refine jx_load c1 hm rfl rfl rfl rfl ?_
    refine jx_load c1 hm rfl rfl rfl rfl ?_
    refine jy_ic c1 hm rfl (by decide) ?_
    refine jy_add c1 hm (b1 + 2) rfl (by omega) ?_
    obtain ⟨z51, kz51, lz51, uz51⟩ := hf ((b1 + 2)).toNat
    refine jx_sald c1 hm rfl ⟨by omega, by omega⟩ kz51 ?_
    refine jx_load c1 hm rfl rfl rfl rfl ?_
    refine cm k (by omega) (X + 8000 * b1) _ z50 z51 M4 (by omega) (by omega) hH4 (by omega) (by omega) (by omega) (by omega) (fun z52 M53 lz52 uz52 hH53 y53 => ?_)
    have c1 := c1f (k + 1) (by omega)
    have c2 := c2f (k + 1) (by omega)
    have c3 := c3f (k + 1) (by omega)
    refine jx_stor c1 hm (L' := [some (.inr (.inr (.inr 0))), some (.inr (.inr (.inl 0))), some (.inr (.inr (.inl 173))), some (.inr (.inr (.inl 198))), some (.inl b1), some (.inl z52), o3]) rfl rfl rfl rfl rfl ?_
    refine jx_load c1 hm rfl rfl rfl rfl ?_
    refine jx_load c1 hm rfl rfl rfl rfl ?_
    refine jx_load c1 hm rfl rfl rfl rfl ?_
    refine jy_ic c1 hm rfl (by decide) ?_
    refine jy_add c1 hm (b1 + 1) rfl (by omega) ?_
    obtain ⟨z54, kz54, lz54, uz54⟩ := hf ((b1 + 1)).toNat
    refine jx_sald c1 hm rfl ⟨by omega, by omega⟩ kz54 ?_
    refine jx_load c1 hm rfl rfl rfl rfl ?_
    refine jx_load c1 hm rfl rfl rfl rfl ?_
    refine jy_ic c1 hm rfl (by decide) ?_
    refine jy_add c1 hm (b1 + 2) rfl (by omega) ?_
    obtain ⟨z55, kz55, lz55, uz55⟩ := hf ((b1 + 2)).toNat
    refine jx_sald c1 hm rfl ⟨by omega, by omega⟩ kz55 ?_
    refine jv_i c3 hm rfl (plp pj_X12_man rfl) rfl rfl ⟨_, _, _, rfl, sh_173⟩ rfl ((ct_X12_man_173 (X + 8000 * b1) (by omega) M53 hH53 z54 ⟨by omega, by omega⟩ z55 ⟨by omega, by omega⟩).le (by decide)) (fun z56 M57 ⟨hH57, hR57, lz56, uz56⟩ => ?_)
    refine jx_stor c1 hm (L' := [some (.inr (.inr (.inr 0))), some (.inr (.inr (.inl 0))), some (.inr (.inr (.inl 173))), some (.inr (.inr (.inl 198))), some (.inl b1), some (.inl z52), some (.inl z56)]) rfl rfl rfl rfl rfl ?_
    refine jx_goto c1 hm 1445 rfl rfl ?_
    refine jx_iinc c1 hm (v := (b1 + 6)) (L' := [some (.inr (.inr (.inr 0))), some (.inr (.inr (.inl 0))), some (.inr (.inr (.inl 173))), some (.inr (.inr (.inl 198))), some (.inl (b1 + 6)), some (.inl z52), some (.inl z56)]) rfl rfl (by omega) (by omega) rfl ?_
    refine jx_goto c1 hm 23 rfl rfl ?_
    exact ihW9 (b1 + 6) (by omega) (some (.inl z52)) (Or.inr (Or.inl ⟨_, rfl⟩)) (some (.inl z56)) (Or.inr (Or.inl ⟨_, rfl⟩)) M57 (hH57.mono (by omega) (by omega)) (k + 1) (by omega) (SOK.cg hs1 (fun j h1 h2 => ((hR57 175 j rfl).trans (y53 175 j)))) (KOK.cg hs2 (fun j h1 h2 => ((hR57 177 j rfl).trans (y53 177 j)))) (KOK.cg hs3 (fun j h1 h2 => ((hR57 177 j rfl).trans (y53 177 j)))) (IMG.cg hs4 (fun j => ((hR57 46 j rfl).trans (y53 46 j))) (fun j => ((hR57 183 j rfl).trans (y53 183 j)))) (by omega)
   by_cases h58 : z13 = 5
   ·
    refine jx_tswI c1 hm 388 rfl ⟨by omega, by omega⟩ (by rw [h58] <;> rfl) rfl ?_
    refine jx_load c1 hm rfl rfl rfl rfl ?_
    refine jx_load c1 hm rfl rfl rfl rfl ?_
    refine jx_load c1 hm rfl rfl rfl rfl ?_
    refine jy_ic c1 hm rfl (by decide) ?_
    refine jy_add c1 hm (b1 + 1) rfl (by omega) ?_
    obtain ⟨z59, kz59, lz59, uz59⟩ := hf ((b1 + 1)).toNat
    refine jx_sald c1 hm rfl ⟨by omega, by omega⟩ kz59 ?_
    refine jx_load c1 hm rfl rfl rfl rfl ?_
    refine jx_load c1 hm rfl rfl rfl rfl ?_
    refine jy_ic c1 hm rfl (by decide) ?_
    refine jy_add c1 hm (b1 + 2) rfl (by omega) ?_
    obtain ⟨z60, kz60, lz60, uz60⟩ := hf ((b1 + 2)).toNat
    refine jx_sald c1 hm rfl ⟨by omega, by omega⟩ kz60 ?_
    refine jv_i c3 hm rfl (plp pj_X11_cost rfl) rfl rfl ⟨_, _, _, rfl, sh_0⟩ rfl ((ct_X11_cost_0 (X + 8000 * b1) (by omega) M4 hH4 z59 ⟨by omega, by omega⟩ z60 ⟨by omega, by omega⟩).le (by decide)) (fun z61 _ ⟨rfl, lz61, uz61⟩ => ?_)
    refine jx_pop c1 hm rfl rfl ?_
    refine jx_load c1 hm rfl rfl rfl rfl ?_
    refine jx_load c1 hm rfl rfl rfl rfl ?_
    refine jx_load c1 hm rfl rfl rfl rfl ?_
    refine jy_ic c1 hm rfl (by decide) ?_
    refine jy_add c1 hm (b1 + 1) rfl (by omega) ?_
    obtain ⟨z62, kz62, lz62, uz62⟩ := hf ((b1 + 1)).toNat
    refine jx_sald c1 hm rfl ⟨by omega, by omega⟩ kz62 ?_
    refine jx_load c1 hm rfl rfl rfl rfl ?_
    refine jx_load c1 hm rfl rfl rfl rfl ?_
    refine jy_ic c1 hm rfl (by decide) ?_
    refine jy_add c1 hm (b1 + 2) rfl (by omega) ?_
    obtain ⟨z63, kz63, lz63, uz63⟩ := hf ((b1 + 2)).toNat
    refine jx_sald c1 hm rfl ⟨by omega, by omega⟩ kz63 ?_
    refine jv_i c3 hm rfl (plp pj_X12_cost rfl) rfl rfl ⟨_, _, _, rfl, sh_173⟩ rfl ((ct_X12_cost_173 (X + 8000 * b1) (by omega) M4 hH4 z62 ⟨by omega, by omega⟩ z63 ⟨by omega, by omega⟩).le (by decide)) (fun z64 M65 ⟨hH65, hR65, lz64, uz64⟩ => ?_)
    refine jx_pop c1 hm rfl rfl ?_
    refine jx_goto c1 hm 1445 rfl rfl ?_
    refine jx_iinc c1 hm (v := (b1 + 6)) (L' := [some (.inr (.inr (.inr 0))), some (.inr (.inr (.inl 0))), some (.inr (.inr (.inl 173))), some (.inr (.inr (.inl 198))), some (.inl (b1 + 6)), o2, o3]) rfl rfl (by omega) (by omega) rfl ?_
    refine jx_goto c1 hm 23 rfl rfl ?_
    exact ihW9 (b1 + 6) (by omega) o2 ho2 o3 ho3 M65 (hH65.mono (by omega) (by omega)) k (by omega) (SOK.cg hs1 (fun j h1 h2 => (hR65 175 j rfl))) (KOK.cg hs2 (fun j h1 h2 => (hR65 177 j rfl))) (KOK.cg hs3 (fun j h1 h2 => (hR65 177 j rfl))) (IMG.cg hs4 (fun j => (hR65 46 j rfl)) (fun j => (hR65 183 j rfl))) (by omega)
   by_cases h66 : z13 = 6
   ·
    refine jx_tswI c1 hm 425 rfl ⟨by omega, by omega⟩ (by rw [h66] <;> rfl) rfl ?_
    refine jx_load c1 hm rfl rfl rfl rfl ?_
    refine jx_load c1 hm rfl rfl rfl rfl ?_
    refine jx_load c1 hm rfl rfl rfl rfl ?_
    refine jy_ic c1 hm rfl (by decide) ?_
    refine jy_add c1 hm (b1 + 1) rfl (by omega) ?_
    obtain ⟨z67, kz67, lz67, uz67⟩ := hf ((b1 + 1)).toNat
    refine jx_sald c1 hm rfl ⟨by omega, by omega⟩ kz67 ?_
    refine jx_load c1 hm rfl rfl rfl rfl ?_
    refine jx_load c1 hm rfl rfl rfl rfl ?_
    refine jy_ic c1 hm rfl (by decide) ?_
    refine jy_add c1 hm (b1 + 2) rfl (by omega) ?_
    obtain ⟨z68, kz68, lz68, uz68⟩ := hf ((b1 + 2)).toNat
    refine jx_sald c1 hm rfl ⟨by omega, by omega⟩ kz68 ?_
    refine jv_i c3 hm rfl (plp pj_X11_times rfl) rfl rfl ⟨_, _, _, rfl, sh_0⟩ rfl ((ct_X11_times_0 (X + 8000 * b1) (by omega) M4 hH4 z67 ⟨by omega, by omega⟩ z68 ⟨by omega, by omega⟩).le (by decide)) (fun z69 _ ⟨rfl, lz69, uz69⟩ => ?_)
    refine jx_pop c1 hm rfl rfl ?_
    refine jx_load c1 hm rfl rfl rfl rfl ?_
    refine jx_load c1 hm rfl rfl rfl rfl ?_
    refine jx_load c1 hm rfl rfl rfl rfl ?_
    refine jy_ic c1 hm rfl (by decide) ?_
    refine jy_add c1 hm (b1 + 1) rfl (by omega) ?_
    obtain ⟨z70, kz70, lz70, uz70⟩ := hf ((b1 + 1)).toNat
    refine jx_sald c1 hm rfl ⟨by omega, by omega⟩ kz70 ?_
    refine jx_load c1 hm rfl rfl rfl rfl ?_
    refine jx_load c1 hm rfl rfl rfl rfl ?_
    refine jy_ic c1 hm rfl (by decide) ?_
    refine jy_add c1 hm (b1 + 2) rfl (by omega) ?_
    obtain ⟨z71, kz71, lz71, uz71⟩ := hf ((b1 + 2)).toNat
    refine jx_sald c1 hm rfl ⟨by omega, by omega⟩ kz71 ?_
    refine jv_i c3 hm rfl (plp pj_X12_times rfl) rfl rfl ⟨_, _, _, rfl, sh_173⟩ rfl ((ct_X12_times_173 (X + 8000 * b1) (by omega) M4 hH4 z70 ⟨by omega, by omega⟩ z71 ⟨by omega, by omega⟩).le (by decide)) (fun z72 M73 ⟨hH73, hR73, lz72, uz72⟩ => ?_)
    refine jx_pop c1 hm rfl rfl ?_
    refine jx_goto c1 hm 1445 rfl rfl ?_
    refine jx_iinc c1 hm (v := (b1 + 6)) (L' := [some (.inr (.inr (.inr 0))), some (.inr (.inr (.inl 0))), some (.inr (.inr (.inl 173))), some (.inr (.inr (.inl 198))), some (.inl (b1 + 6)), o2, o3]) rfl rfl (by omega) (by omega) rfl ?_
    refine jx_goto c1 hm 23 rfl rfl ?_
    exact ihW9 (b1 + 6) (by omega) o2 ho2 o3 ho3 M73 (hH73.mono (by omega) (by omega)) k (by omega) (SOK.cg hs1 (fun j h1 h2 => (hR73 175 j rfl))) (KOK.cg hs2 (fun j h1 h2 => (hR73 177 j rfl))) (KOK.cg hs3 (fun j h1 h2 => (hR73 177 j rfl))) (IMG.cg hs4 (fun j => (hR73 46 j rfl)) (fun j => (hR73 183 j rfl))) (by omega)
   by_cases h74 : z13 = 7
   ·
    refine jx_tswI c1 hm 462 rfl ⟨by omega, by omega⟩ (by rw [h74] <;> rfl) rfl ?_
    refine jx_load c1 hm rfl rfl rfl rfl ?_
    refine jx_load c1 hm rfl rfl rfl rfl ?_
    refine jx_load c1 hm rfl rfl rfl rfl ?_
    refine jy_ic c1 hm rfl (by decide) ?_
    refine jy_add c1 hm (b1 + 1) rfl (by omega) ?_
    obtain ⟨z75, kz75, lz75, uz75⟩ := hf ((b1 + 1)).toNat
    refine jx_sald c1 hm rfl ⟨by omega, by omega⟩ kz75 ?_
    refine jx_load c1 hm rfl rfl rfl rfl ?_
    refine jx_load c1 hm rfl rfl rfl rfl ?_
    refine jy_ic c1 hm rfl (by decide) ?_
    refine jy_add c1 hm (b1 + 2) rfl (by omega) ?_
    obtain ⟨z76, kz76, lz76, uz76⟩ := hf ((b1 + 2)).toNat
    refine jx_sald c1 hm rfl ⟨by omega, by omega⟩ kz76 ?_
    refine jv_i c3 hm rfl (plp pj_X11_bought rfl) rfl rfl ⟨_, _, _, rfl, sh_0⟩ rfl ((ct_X11_bought_0 (X + 8000 * b1) (by omega) M4 hH4 z75 ⟨by omega, by omega⟩ z76 ⟨by omega, by omega⟩).le (by decide)) (fun z77 _ ⟨rfl, lz77, uz77⟩ => ?_)
    refine jx_pop c1 hm rfl rfl ?_
    refine jx_load c1 hm rfl rfl rfl rfl ?_
    refine jx_load c1 hm rfl rfl rfl rfl ?_
    refine jx_load c1 hm rfl rfl rfl rfl ?_
    refine jy_ic c1 hm rfl (by decide) ?_
    refine jy_add c1 hm (b1 + 1) rfl (by omega) ?_
    obtain ⟨z78, kz78, lz78, uz78⟩ := hf ((b1 + 1)).toNat
    refine jx_sald c1 hm rfl ⟨by omega, by omega⟩ kz78 ?_
    refine jx_load c1 hm rfl rfl rfl rfl ?_
    refine jx_load c1 hm rfl rfl rfl rfl ?_
    refine jy_ic c1 hm rfl (by decide) ?_
    refine jy_add c1 hm (b1 + 2) rfl (by omega) ?_
    obtain ⟨z79, kz79, lz79, uz79⟩ := hf ((b1 + 2)).toNat
    refine jx_sald c1 hm rfl ⟨by omega, by omega⟩ kz79 ?_
    refine jv_i c3 hm rfl (plp pj_X12_bought rfl) rfl rfl ⟨_, _, _, rfl, sh_173⟩ rfl ((ct_X12_bought_173 (X + 8000 * b1) (by omega) M4 hH4 z78 ⟨by omega, by omega⟩ z79 ⟨by omega, by omega⟩).le (by decide)) (fun z80 M81 ⟨hH81, hR81, lz80, uz80⟩ => ?_)
    refine jx_pop c1 hm rfl rfl ?_
    refine jx_goto c1 hm 1445 rfl rfl ?_
    refine jx_iinc c1 hm (v := (b1 + 6)) (L' := [some (.inr (.inr (.inr 0))), some (.inr (.inr (.inl 0))), some (.inr (.inr (.inl 173))), some (.inr (.inr (.inl 198))), some (.inl (b1 + 6)), o2, o3]) rfl rfl (by omega) (by omega) rfl ?_
    refine jx_goto c1 hm 23 rfl rfl ?_
    exact ihW9 (b1 + 6) (by omega) o2 ho2 o3 ho3 M81 (hH81.mono (by omega) (by omega)) k (by omega) (SOK.cg hs1 (fun j h1 h2 => (hR81 175 j rfl))) (KOK.cg hs2 (fun j h1 h2 => (hR81 177 j rfl))) (KOK.cg hs3 (fun j h1 h2 => (hR81 177 j rfl))) (IMG.cg hs4 (fun j => (hR81 46 j rfl)) (fun j => (hR81 183 j rfl))) (by omega)
   by_cases h82 : z13 = 8
   ·
    refine jx_tswI c1 hm 499 rfl ⟨by omega, by omega⟩ (by rw [h82] <;> rfl) rfl ?_
    refine jx_load c1 hm rfl rfl rfl rfl ?_
    refine jx_load c1 hm rfl rfl rfl rfl ?_
    refine jx_load c1 hm rfl rfl rfl rfl ?_
    refine jy_ic c1 hm rfl (by decide) ?_
    refine jy_add c1 hm (b1 + 1) rfl (by omega) ?_
    obtain ⟨z83, kz83, lz83, uz83⟩ := hf ((b1 + 1)).toNat
    refine jx_sald c1 hm rfl ⟨by omega, by omega⟩ kz83 ?_
    refine jx_load c1 hm rfl rfl rfl rfl ?_
    refine jx_load c1 hm rfl rfl rfl rfl ?_
    refine jy_ic c1 hm rfl (by decide) ?_
    refine jy_add c1 hm (b1 + 2) rfl (by omega) ?_
    obtain ⟨z84, kz84, lz84, uz84⟩ := hf ((b1 + 2)).toNat
    refine jx_sald c1 hm rfl ⟨by omega, by omega⟩ kz84 ?_
    refine jv_i c3 hm rfl (plp pj_X11_good rfl) rfl rfl ⟨_, _, _, rfl, sh_0⟩ rfl ((ct_X11_good_0 (X + 8000 * b1) (by omega) M4 hH4 z83 ⟨by omega, by omega⟩ z84 ⟨by omega, by omega⟩).le (by decide)) (fun z85 _ ⟨rfl, lz85, uz85⟩ => ?_)
    refine jx_pop c1 hm rfl rfl ?_
    refine jx_load c1 hm rfl rfl rfl rfl ?_
    refine jx_load c1 hm rfl rfl rfl rfl ?_
    refine jx_load c1 hm rfl rfl rfl rfl ?_
    refine jy_ic c1 hm rfl (by decide) ?_
    refine jy_add c1 hm (b1 + 1) rfl (by omega) ?_
    obtain ⟨z86, kz86, lz86, uz86⟩ := hf ((b1 + 1)).toNat
    refine jx_sald c1 hm rfl ⟨by omega, by omega⟩ kz86 ?_
    refine jx_load c1 hm rfl rfl rfl rfl ?_
    refine jx_load c1 hm rfl rfl rfl rfl ?_
    refine jy_ic c1 hm rfl (by decide) ?_
    refine jy_add c1 hm (b1 + 2) rfl (by omega) ?_
    obtain ⟨z87, kz87, lz87, uz87⟩ := hf ((b1 + 2)).toNat
    refine jx_sald c1 hm rfl ⟨by omega, by omega⟩ kz87 ?_
    refine jv_i c3 hm rfl (plp pj_X12_good rfl) rfl rfl ⟨_, _, _, rfl, sh_173⟩ rfl ((ct_X12_good_173 (X + 8000 * b1) (by omega) M4 hH4 z86 ⟨by omega, by omega⟩ z87 ⟨by omega, by omega⟩).le (by decide)) (fun z88 M89 ⟨hH89, hR89, lz88, uz88⟩ => ?_)
    refine jx_pop c1 hm rfl rfl ?_
    refine jx_goto c1 hm 1445 rfl rfl ?_
    refine jx_iinc c1 hm (v := (b1 + 6)) (L' := [some (.inr (.inr (.inr 0))), some (.inr (.inr (.inl 0))), some (.inr (.inr (.inl 173))), some (.inr (.inr (.inl 198))), some (.inl (b1 + 6)), o2, o3]) rfl rfl (by omega) (by omega) rfl ?_
    refine jx_goto c1 hm 23 rfl rfl ?_
    exact ihW9 (b1 + 6) (by omega) o2 ho2 o3 ho3 M89 (hH89.mono (by omega) (by omega)) k (by omega) (SOK.cg hs1 (fun j h1 h2 => (hR89 175 j rfl))) (KOK.cg hs2 (fun j h1 h2 => (hR89 177 j rfl))) (KOK.cg hs3 (fun j h1 h2 => (hR89 177 j rfl))) (IMG.cg hs4 (fun j => (hR89 46 j rfl)) (fun j => (hR89 183 j rfl))) (by omega)
   by_cases h90 : z13 = 9
   ·
    refine jx_tswI c1 hm 536 rfl ⟨by omega, by omega⟩ (by rw [h90] <;> rfl) rfl ?_
    refine jx_load c1 hm rfl rfl rfl rfl ?_
    refine jx_load c1 hm rfl rfl rfl rfl ?_
    refine jx_load c1 hm rfl rfl rfl rfl ?_
    refine jy_ic c1 hm rfl (by decide) ?_
    refine jy_add c1 hm (b1 + 1) rfl (by omega) ?_
    obtain ⟨z91, kz91, lz91, uz91⟩ := hf ((b1 + 1)).toNat
    refine jx_sald c1 hm rfl ⟨by omega, by omega⟩ kz91 ?_
    refine jx_load c1 hm rfl rfl rfl rfl ?_
    refine jx_load c1 hm rfl rfl rfl rfl ?_
    refine jy_ic c1 hm rfl (by decide) ?_
    refine jy_add c1 hm (b1 + 2) rfl (by omega) ?_
    obtain ⟨z92, kz92, lz92, uz92⟩ := hf ((b1 + 2)).toNat
    refine jx_sald c1 hm rfl ⟨by omega, by omega⟩ kz92 ?_
    refine jv_i c3 hm rfl (plp pj_X11_owes rfl) rfl rfl ⟨_, _, _, rfl, sh_0⟩ rfl ((ct_X11_owes_0 (X + 8000 * b1) (by omega) M4 hH4 z91 ⟨by omega, by omega⟩ z92 ⟨by omega, by omega⟩).le (by decide)) (fun z93 _ ⟨rfl, lz93, uz93⟩ => ?_)
    refine jx_pop c1 hm rfl rfl ?_
    refine jx_load c1 hm rfl rfl rfl rfl ?_
    refine jx_load c1 hm rfl rfl rfl rfl ?_
    refine jx_load c1 hm rfl rfl rfl rfl ?_
    refine jy_ic c1 hm rfl (by decide) ?_
    refine jy_add c1 hm (b1 + 1) rfl (by omega) ?_
    obtain ⟨z94, kz94, lz94, uz94⟩ := hf ((b1 + 1)).toNat
    refine jx_sald c1 hm rfl ⟨by omega, by omega⟩ kz94 ?_
    refine jx_load c1 hm rfl rfl rfl rfl ?_
    refine jx_load c1 hm rfl rfl rfl rfl ?_
    refine jy_ic c1 hm rfl (by decide) ?_
    refine jy_add c1 hm (b1 + 2) rfl (by omega) ?_
    obtain ⟨z95, kz95, lz95, uz95⟩ := hf ((b1 + 2)).toNat
    refine jx_sald c1 hm rfl ⟨by omega, by omega⟩ kz95 ?_
    refine jv_i c3 hm rfl (plp pj_X12_owes rfl) rfl rfl ⟨_, _, _, rfl, sh_173⟩ rfl ((ct_X12_owes_173 (X + 8000 * b1) (by omega) M4 hH4 z94 ⟨by omega, by omega⟩ z95 ⟨by omega, by omega⟩).le (by decide)) (fun z96 M97 ⟨hH97, hR97, lz96, uz96⟩ => ?_)
    refine jx_pop c1 hm rfl rfl ?_
    refine jx_goto c1 hm 1445 rfl rfl ?_
    refine jx_iinc c1 hm (v := (b1 + 6)) (L' := [some (.inr (.inr (.inr 0))), some (.inr (.inr (.inl 0))), some (.inr (.inr (.inl 173))), some (.inr (.inr (.inl 198))), some (.inl (b1 + 6)), o2, o3]) rfl rfl (by omega) (by omega) rfl ?_
    refine jx_goto c1 hm 23 rfl rfl ?_
    exact ihW9 (b1 + 6) (by omega) o2 ho2 o3 ho3 M97 (hH97.mono (by omega) (by omega)) k (by omega) (SOK.cg hs1 (fun j h1 h2 => (hR97 175 j rfl))) (KOK.cg hs2 (fun j h1 h2 => (hR97 177 j rfl))) (KOK.cg hs3 (fun j h1 h2 => (hR97 177 j rfl))) (IMG.cg hs4 (fun j => (hR97 46 j rfl)) (fun j => (hR97 183 j rfl))) (by omega)
   by_cases h98 : z13 = 10
   ·
    refine jx_tswI c1 hm 573 rfl ⟨by omega, by omega⟩ (by rw [h98] <;> rfl) rfl ?_
    refine jx_load c1 hm rfl rfl rfl rfl ?_
    refine jx_load c1 hm rfl rfl rfl rfl ?_
    refine jx_load c1 hm rfl rfl rfl rfl ?_
    refine jy_ic c1 hm rfl (by decide) ?_
    refine jy_add c1 hm (b1 + 1) rfl (by omega) ?_
    obtain ⟨z99, kz99, lz99, uz99⟩ := hf ((b1 + 1)).toNat
    refine jx_sald c1 hm rfl ⟨by omega, by omega⟩ kz99 ?_
    refine jv_i c3 hm rfl (plp pj_X11_now rfl) rfl rfl ⟨_, _, _, rfl, sh_0⟩ rfl ((ct_X11_now_0 (X + 8000 * b1) (by omega) M4 hH4 z99 ⟨by omega, by omega⟩).le (by decide)) (fun z100 _ ⟨rfl, lz100, uz100⟩ => ?_)
    refine jx_pop c1 hm rfl rfl ?_
    refine jx_load c1 hm rfl rfl rfl rfl ?_
    refine jx_load c1 hm rfl rfl rfl rfl ?_
    refine jx_load c1 hm rfl rfl rfl rfl ?_
    refine jy_ic c1 hm rfl (by decide) ?_
    refine jy_add c1 hm (b1 + 1) rfl (by omega) ?_
    obtain ⟨z101, kz101, lz101, uz101⟩ := hf ((b1 + 1)).toNat
    refine jx_sald c1 hm rfl ⟨by omega, by omega⟩ kz101 ?_
    refine jv_i c3 hm rfl (plp pj_X12_now rfl) rfl rfl ⟨_, _, _, rfl, sh_173⟩ rfl ((ct_X12_now_173 (X + 8000 * b1) (by omega) M4 hH4 z101 ⟨by omega, by omega⟩).le (by decide)) (fun z102 M103 ⟨hH103, hR103, lz102, uz102⟩ => ?_)
    refine jx_pop c1 hm rfl rfl ?_
    refine jx_goto c1 hm 1445 rfl rfl ?_
    refine jx_iinc c1 hm (v := (b1 + 6)) (L' := [some (.inr (.inr (.inr 0))), some (.inr (.inr (.inl 0))), some (.inr (.inr (.inl 173))), some (.inr (.inr (.inl 198))), some (.inl (b1 + 6)), o2, o3]) rfl rfl (by omega) (by omega) rfl ?_
    refine jx_goto c1 hm 23 rfl rfl ?_
    exact ihW9 (b1 + 6) (by omega) o2 ho2 o3 ho3 M103 (hH103.mono (by omega) (by omega)) k (by omega) (SOK.cg hs1 (fun j h1 h2 => (hR103 175 j rfl))) (KOK.cg hs2 (fun j h1 h2 => (hR103 177 j rfl))) (KOK.cg hs3 (fun j h1 h2 => (hR103 177 j rfl))) (IMG.cg hs4 (fun j => (hR103 46 j rfl)) (fun j => (hR103 183 j rfl))) (by omega)
   by_cases h104 : z13 = 11
   ·
    refine jx_tswI c1 hm 598 rfl ⟨by omega, by omega⟩ (by rw [h104] <;> rfl) rfl ?_
    refine jx_load c1 hm rfl rfl rfl rfl ?_
    refine jx_load c1 hm rfl rfl rfl rfl ?_
    refine jx_load c1 hm rfl rfl rfl rfl ?_
    refine jy_ic c1 hm rfl (by decide) ?_
    refine jy_add c1 hm (b1 + 1) rfl (by omega) ?_
    obtain ⟨z105, kz105, lz105, uz105⟩ := hf ((b1 + 1)).toNat
    refine jx_sald c1 hm rfl ⟨by omega, by omega⟩ kz105 ?_
    refine jx_load c1 hm rfl rfl rfl rfl ?_
    refine jx_load c1 hm rfl rfl rfl rfl ?_
    refine jy_ic c1 hm rfl (by decide) ?_
    refine jy_add c1 hm (b1 + 2) rfl (by omega) ?_
    obtain ⟨z106, kz106, lz106, uz106⟩ := hf ((b1 + 2)).toNat
    refine jx_sald c1 hm rfl ⟨by omega, by omega⟩ kz106 ?_
    refine jv_i c3 hm rfl (plp pj_X11_forfeit rfl) rfl rfl ⟨_, _, _, rfl, sh_0⟩ rfl ((ct_X11_forfeit_0 (X + 8000 * b1) (by omega) M4 hH4 z105 ⟨by omega, by omega⟩ z106 ⟨by omega, by omega⟩).le (by decide)) (fun z107 M108 ⟨hH108, hR108, lz107, uz107⟩ => ?_)
    refine jx_pop c1 hm rfl rfl ?_
    refine jx_load c1 hm rfl rfl rfl rfl ?_
    refine jx_load c1 hm rfl rfl rfl rfl ?_
    refine jx_load c1 hm rfl rfl rfl rfl ?_
    refine jy_ic c1 hm rfl (by decide) ?_
    refine jy_add c1 hm (b1 + 1) rfl (by omega) ?_
    obtain ⟨z109, kz109, lz109, uz109⟩ := hf ((b1 + 1)).toNat
    refine jx_sald c1 hm rfl ⟨by omega, by omega⟩ kz109 ?_
    refine jx_load c1 hm rfl rfl rfl rfl ?_
    refine jx_load c1 hm rfl rfl rfl rfl ?_
    refine jy_ic c1 hm rfl (by decide) ?_
    refine jy_add c1 hm (b1 + 2) rfl (by omega) ?_
    obtain ⟨z110, kz110, lz110, uz110⟩ := hf ((b1 + 2)).toNat
    refine jx_sald c1 hm rfl ⟨by omega, by omega⟩ kz110 ?_
    refine jv_i c3 hm rfl (plp pj_X12_forfeit rfl) rfl rfl ⟨_, _, _, rfl, sh_173⟩ rfl ((ct_X12_forfeit_173 (X + 8000 * b1 + 1) (by omega) M108 hH108 z109 ⟨by omega, by omega⟩ z110 ⟨by omega, by omega⟩).le (by decide)) (fun z111 M112 ⟨hH112, hR112, lz111, uz111⟩ => ?_)
    rw [show X + 8000 * b1 + 1 + 1 = X + 8000 * b1 + 2 by omega] at hH112
    refine jx_pop c1 hm rfl rfl ?_
    refine jx_goto c1 hm 1445 rfl rfl ?_
    refine jx_iinc c1 hm (v := (b1 + 6)) (L' := [some (.inr (.inr (.inr 0))), some (.inr (.inr (.inl 0))), some (.inr (.inr (.inl 173))), some (.inr (.inr (.inl 198))), some (.inl (b1 + 6)), o2, o3]) rfl rfl (by omega) (by omega) rfl ?_
    refine jx_goto c1 hm 23 rfl rfl ?_
    exact ihW9 (b1 + 6) (by omega) o2 ho2 o3 ho3 M112 (hH112.mono (by omega) (by omega)) k (by omega) (SOK.cg hs1 (fun j h1 h2 => ((hR112 175 j (jin_hi (b := 234) (by decide +kernel) h1)).trans (hR108 175 j rfl)))) (KOK.cg hs2 (fun j h1 h2 => ((hR112 177 j rfl).trans (hR108 177 j rfl)))) (KOK.cg hs3 (fun j h1 h2 => ((hR112 177 j rfl).trans (hR108 177 j rfl)))) (IMG.cg hs4 (fun j => ((hR112 46 j rfl).trans (hR108 46 j rfl))) (fun j => ((hR112 183 j rfl).trans (hR108 183 j rfl)))) (by omega)
   by_cases h113 : z13 = 12
   ·
    refine jx_tswI c1 hm 635 rfl ⟨by omega, by omega⟩ (by rw [h113] <;> rfl) rfl ?_
    refine jx_load c1 hm rfl rfl rfl rfl ?_
    refine jx_load c1 hm rfl rfl rfl rfl ?_
    refine jx_load c1 hm rfl rfl rfl rfl ?_
    refine jy_ic c1 hm rfl (by decide) ?_
    refine jy_add c1 hm (b1 + 1) rfl (by omega) ?_
    obtain ⟨z114, kz114, lz114, uz114⟩ := hf ((b1 + 1)).toNat
    refine jx_sald c1 hm rfl ⟨by omega, by omega⟩ kz114 ?_
    refine jx_load c1 hm rfl rfl rfl rfl ?_
    refine jx_load c1 hm rfl rfl rfl rfl ?_
    refine jy_ic c1 hm rfl (by decide) ?_
    refine jy_add c1 hm (b1 + 2) rfl (by omega) ?_
    obtain ⟨z115, kz115, lz115, uz115⟩ := hf ((b1 + 2)).toNat
    refine jx_sald c1 hm rfl ⟨by omega, by omega⟩ kz115 ?_
    refine jv_i c3 hm rfl (plp pj_X11_buy rfl) rfl rfl ⟨_, _, _, rfl, sh_0⟩ rfl ((ct_X11_buy_0 (X + 8000 * b1) (by omega) M4 hH4 z114 ⟨by omega, by omega⟩ z115 ⟨by omega, by omega⟩).le (by decide)) (fun z116 M117 ⟨hH117, hR117, lz116, uz116⟩ => ?_)
    refine jx_pop c1 hm rfl rfl ?_
    refine jx_load c1 hm rfl rfl rfl rfl ?_
    refine jx_load c1 hm rfl rfl rfl rfl ?_
    refine jx_load c1 hm rfl rfl rfl rfl ?_
    refine jy_ic c1 hm rfl (by decide) ?_
    refine jy_add c1 hm (b1 + 1) rfl (by omega) ?_
    obtain ⟨z118, kz118, lz118, uz118⟩ := hf ((b1 + 1)).toNat
    refine jx_sald c1 hm rfl ⟨by omega, by omega⟩ kz118 ?_
    refine jx_load c1 hm rfl rfl rfl rfl ?_
    refine jx_load c1 hm rfl rfl rfl rfl ?_
    refine jy_ic c1 hm rfl (by decide) ?_
    refine jy_add c1 hm (b1 + 2) rfl (by omega) ?_
    obtain ⟨z119, kz119, lz119, uz119⟩ := hf ((b1 + 2)).toNat
    refine jx_sald c1 hm rfl ⟨by omega, by omega⟩ kz119 ?_
    refine jv_i c3 hm rfl (plp pj_X12_buy rfl) rfl rfl ⟨_, _, _, rfl, sh_173⟩ rfl ((ct_X12_buy_173 (X + 8000 * b1 + 1) (by omega) M117 hH117 z118 ⟨by omega, by omega⟩ z119 ⟨by omega, by omega⟩).le (by decide)) (fun z120 M121 ⟨hH121, hR121, lz120, uz120⟩ => ?_)
    rw [show X + 8000 * b1 + 1 + 1 = X + 8000 * b1 + 2 by omega] at hH121
    refine jx_pop c1 hm rfl rfl ?_
    refine jx_goto c1 hm 1445 rfl rfl ?_
    refine jx_iinc c1 hm (v := (b1 + 6)) (L' := [some (.inr (.inr (.inr 0))), some (.inr (.inr (.inl 0))), some (.inr (.inr (.inl 173))), some (.inr (.inr (.inl 198))), some (.inl (b1 + 6)), o2, o3]) rfl rfl (by omega) (by omega) rfl ?_
    refine jx_goto c1 hm 23 rfl rfl ?_
    exact ihW9 (b1 + 6) (by omega) o2 ho2 o3 ho3 M121 (hH121.mono (by omega) (by omega)) k (by omega) (SOK.cg hs1 (fun j h1 h2 => ((hR121 175 j (jin_hi (b := 234) (by decide +kernel) h1)).trans (hR117 175 j rfl)))) (KOK.cg hs2 (fun j h1 h2 => ((hR121 177 j rfl).trans (hR117 177 j rfl)))) (KOK.cg hs3 (fun j h1 h2 => ((hR121 177 j rfl).trans (hR117 177 j rfl)))) (IMG.cg hs4 (fun j => ((hR121 46 j rfl).trans (hR117 46 j rfl))) (fun j => ((hR121 183 j rfl).trans (hR117 183 j rfl)))) (by omega)
   by_cases h122 : z13 = 13
   ·
    refine jx_tswI c1 hm 672 rfl ⟨by omega, by omega⟩ (by rw [h122] <;> rfl) rfl ?_
    refine jx_load c1 hm rfl rfl rfl rfl ?_
    refine jx_load c1 hm rfl rfl rfl rfl ?_
    refine jx_load c1 hm rfl rfl rfl rfl ?_
    refine jy_ic c1 hm rfl (by decide) ?_
    refine jy_add c1 hm (b1 + 1) rfl (by omega) ?_
    obtain ⟨z123, kz123, lz123, uz123⟩ := hf ((b1 + 1)).toNat
    refine jx_sald c1 hm rfl ⟨by omega, by omega⟩ kz123 ?_
    refine jx_load c1 hm rfl rfl rfl rfl ?_
    refine jx_load c1 hm rfl rfl rfl rfl ?_
    refine jy_ic c1 hm rfl (by decide) ?_
    refine jy_add c1 hm (b1 + 2) rfl (by omega) ?_
    obtain ⟨z124, kz124, lz124, uz124⟩ := hf ((b1 + 2)).toNat
    refine jx_sald c1 hm rfl ⟨by omega, by omega⟩ kz124 ?_
    refine jx_load c1 hm rfl rfl rfl rfl ?_
    refine jx_load c1 hm rfl rfl rfl rfl ?_
    refine jy_ic c1 hm rfl (by decide) ?_
    refine jy_add c1 hm (b1 + 3) rfl (by omega) ?_
    obtain ⟨z125, kz125, lz125, uz125⟩ := hf ((b1 + 3)).toNat
    refine jx_sald c1 hm rfl ⟨by omega, by omega⟩ kz125 ?_
    refine jv_i c3 hm rfl (plp pj_X11_lend rfl) rfl rfl ⟨_, _, _, rfl, sh_0⟩ rfl ((ct_X11_lend_0 (X + 8000 * b1) (by omega) M4 hH4 z123 ⟨by omega, by omega⟩ z124 ⟨by omega, by omega⟩ z125 ⟨by omega, by omega⟩).le (by decide)) (fun z126 M127 ⟨hH127, hR127, lz126, uz126⟩ => ?_)
    refine jx_pop c1 hm rfl rfl ?_
    refine jx_load c1 hm rfl rfl rfl rfl ?_
    refine jx_load c1 hm rfl rfl rfl rfl ?_
    refine jx_load c1 hm rfl rfl rfl rfl ?_
    refine jy_ic c1 hm rfl (by decide) ?_
    refine jy_add c1 hm (b1 + 1) rfl (by omega) ?_
    obtain ⟨z128, kz128, lz128, uz128⟩ := hf ((b1 + 1)).toNat
    refine jx_sald c1 hm rfl ⟨by omega, by omega⟩ kz128 ?_
    refine jx_load c1 hm rfl rfl rfl rfl ?_
    refine jx_load c1 hm rfl rfl rfl rfl ?_
    refine jy_ic c1 hm rfl (by decide) ?_
    refine jy_add c1 hm (b1 + 2) rfl (by omega) ?_
    obtain ⟨z129, kz129, lz129, uz129⟩ := hf ((b1 + 2)).toNat
    refine jx_sald c1 hm rfl ⟨by omega, by omega⟩ kz129 ?_
    refine jx_load c1 hm rfl rfl rfl rfl ?_
    refine jx_load c1 hm rfl rfl rfl rfl ?_
    refine jy_ic c1 hm rfl (by decide) ?_
    refine jy_add c1 hm (b1 + 3) rfl (by omega) ?_
    obtain ⟨z130, kz130, lz130, uz130⟩ := hf ((b1 + 3)).toNat
    refine jx_sald c1 hm rfl ⟨by omega, by omega⟩ kz130 ?_
    refine jv_i c3 hm rfl (plp pj_X12_lend rfl) rfl rfl ⟨_, _, _, rfl, sh_173⟩ rfl ((ct_X12_lend_173 (X + 8000 * b1 + 1) (by omega) M127 hH127 z128 ⟨by omega, by omega⟩ z129 ⟨by omega, by omega⟩ z130 ⟨by omega, by omega⟩).le (by decide)) (fun z131 M132 ⟨hH132, hR132, lz131, uz131⟩ => ?_)
    rw [show X + 8000 * b1 + 1 + 1 = X + 8000 * b1 + 2 by omega] at hH132
    refine jx_pop c1 hm rfl rfl ?_
    refine jx_goto c1 hm 1445 rfl rfl ?_
    refine jx_iinc c1 hm (v := (b1 + 6)) (L' := [some (.inr (.inr (.inr 0))), some (.inr (.inr (.inl 0))), some (.inr (.inr (.inl 173))), some (.inr (.inr (.inl 198))), some (.inl (b1 + 6)), o2, o3]) rfl rfl (by omega) (by omega) rfl ?_
    refine jx_goto c1 hm 23 rfl rfl ?_
    exact ihW9 (b1 + 6) (by omega) o2 ho2 o3 ho3 M132 (hH132.mono (by omega) (by omega)) k (by omega) (SOK.cg hs1 (fun j h1 h2 => ((hR132 175 j (jin_hi (b := 234) (by decide +kernel) h1)).trans (hR127 175 j rfl)))) (KOK.cg hs2 (fun j h1 h2 => ((hR132 177 j rfl).trans (hR127 177 j rfl)))) (KOK.cg hs3 (fun j h1 h2 => ((hR132 177 j rfl).trans (hR127 177 j rfl)))) (IMG.cg hs4 (fun j => ((hR132 46 j rfl).trans (hR127 46 j rfl))) (fun j => ((hR132 183 j rfl).trans (hR127 183 j rfl)))) (by omega)
   by_cases h133 : z13 = 14
   ·
    refine jx_tswI c1 hm 721 rfl ⟨by omega, by omega⟩ (by rw [h133] <;> rfl) rfl ?_
    refine jx_load c1 hm rfl rfl rfl rfl ?_
    refine jx_load c1 hm rfl rfl rfl rfl ?_
    refine jx_load c1 hm rfl rfl rfl rfl ?_
    refine jy_ic c1 hm rfl (by decide) ?_
    refine jy_add c1 hm (b1 + 1) rfl (by omega) ?_
    obtain ⟨z134, kz134, lz134, uz134⟩ := hf ((b1 + 1)).toNat
    refine jx_sald c1 hm rfl ⟨by omega, by omega⟩ kz134 ?_
    refine jx_load c1 hm rfl rfl rfl rfl ?_
    refine jx_load c1 hm rfl rfl rfl rfl ?_
    refine jy_ic c1 hm rfl (by decide) ?_
    refine jy_add c1 hm (b1 + 2) rfl (by omega) ?_
    obtain ⟨z135, kz135, lz135, uz135⟩ := hf ((b1 + 2)).toNat
    refine jx_sald c1 hm rfl ⟨by omega, by omega⟩ kz135 ?_
    refine jx_load c1 hm rfl rfl rfl rfl ?_
    refine jx_load c1 hm rfl rfl rfl rfl ?_
    refine jy_ic c1 hm rfl (by decide) ?_
    refine jy_add c1 hm (b1 + 3) rfl (by omega) ?_
    obtain ⟨z136, kz136, lz136, uz136⟩ := hf ((b1 + 3)).toNat
    refine jx_sald c1 hm rfl ⟨by omega, by omega⟩ kz136 ?_
    refine jv_i c3 hm rfl (plp pj_X11_repay rfl) rfl rfl ⟨_, _, _, rfl, sh_0⟩ rfl ((ct_X11_repay_0 (X + 8000 * b1) (by omega) M4 hH4 z134 ⟨by omega, by omega⟩ z135 ⟨by omega, by omega⟩ z136 ⟨by omega, by omega⟩).le (by decide)) (fun z137 M138 ⟨hH138, hR138, lz137, uz137⟩ => ?_)
    refine jx_pop c1 hm rfl rfl ?_
    refine jx_load c1 hm rfl rfl rfl rfl ?_
    refine jx_load c1 hm rfl rfl rfl rfl ?_
    refine jx_load c1 hm rfl rfl rfl rfl ?_
    refine jy_ic c1 hm rfl (by decide) ?_
    refine jy_add c1 hm (b1 + 1) rfl (by omega) ?_
    obtain ⟨z139, kz139, lz139, uz139⟩ := hf ((b1 + 1)).toNat
    refine jx_sald c1 hm rfl ⟨by omega, by omega⟩ kz139 ?_
    refine jx_load c1 hm rfl rfl rfl rfl ?_
    refine jx_load c1 hm rfl rfl rfl rfl ?_
    refine jy_ic c1 hm rfl (by decide) ?_
    refine jy_add c1 hm (b1 + 2) rfl (by omega) ?_
    obtain ⟨z140, kz140, lz140, uz140⟩ := hf ((b1 + 2)).toNat
    refine jx_sald c1 hm rfl ⟨by omega, by omega⟩ kz140 ?_
    refine jx_load c1 hm rfl rfl rfl rfl ?_
    refine jx_load c1 hm rfl rfl rfl rfl ?_
    refine jy_ic c1 hm rfl (by decide) ?_
    refine jy_add c1 hm (b1 + 3) rfl (by omega) ?_
    obtain ⟨z141, kz141, lz141, uz141⟩ := hf ((b1 + 3)).toNat
    refine jx_sald c1 hm rfl ⟨by omega, by omega⟩ kz141 ?_
    refine jv_i c3 hm rfl (plp pj_X12_repay rfl) rfl rfl ⟨_, _, _, rfl, sh_173⟩ rfl ((ct_X12_repay_173 (X + 8000 * b1 + 1) (by omega) M138 hH138 z139 ⟨by omega, by omega⟩ z140 ⟨by omega, by omega⟩ z141 ⟨by omega, by omega⟩).le (by decide)) (fun z142 M143 ⟨hH143, hR143, lz142, uz142⟩ => ?_)
    rw [show X + 8000 * b1 + 1 + 1 = X + 8000 * b1 + 2 by omega] at hH143
    refine jx_pop c1 hm rfl rfl ?_
    refine jx_goto c1 hm 1445 rfl rfl ?_
    refine jx_iinc c1 hm (v := (b1 + 6)) (L' := [some (.inr (.inr (.inr 0))), some (.inr (.inr (.inl 0))), some (.inr (.inr (.inl 173))), some (.inr (.inr (.inl 198))), some (.inl (b1 + 6)), o2, o3]) rfl rfl (by omega) (by omega) rfl ?_
    refine jx_goto c1 hm 23 rfl rfl ?_
    exact ihW9 (b1 + 6) (by omega) o2 ho2 o3 ho3 M143 (hH143.mono (by omega) (by omega)) k (by omega) (SOK.cg hs1 (fun j h1 h2 => ((hR143 175 j (jin_hi (b := 234) (by decide +kernel) h1)).trans (hR138 175 j rfl)))) (KOK.cg hs2 (fun j h1 h2 => ((hR143 177 j rfl).trans (hR138 177 j rfl)))) (KOK.cg hs3 (fun j h1 h2 => ((hR143 177 j rfl).trans (hR138 177 j rfl)))) (IMG.cg hs4 (fun j => ((hR143 46 j rfl).trans (hR138 46 j rfl))) (fun j => ((hR143 183 j rfl).trans (hR138 183 j rfl)))) (by omega)
   by_cases h144 : z13 = 15
   ·
    refine jx_tswI c1 hm 770 rfl ⟨by omega, by omega⟩ (by rw [h144] <;> rfl) rfl ?_
    refine jx_load c1 hm rfl rfl rfl rfl ?_
    refine jv_i c3 hm rfl (plp pj_X11_strike rfl) rfl rfl ⟨_, _, _, rfl, sh_0⟩ rfl ((ct_X11_strike_0 (X + 8000 * b1) (by omega) M4 hH4 ).le (by decide)) (fun z145 M146 ⟨hH146, hR146, lz145, uz145⟩ => ?_)
    refine jx_pop c1 hm rfl rfl ?_
    refine jx_load c1 hm rfl rfl rfl rfl ?_
    refine jv_i c3 hm rfl (plp pj_X12_strike rfl) rfl rfl ⟨_, _, _, rfl, sh_173⟩ rfl ((ct_X12_strike_173 (X + 8000 * b1 + 1) (by omega) M146 hH146 ).le (by decide)) (fun z147 M148 ⟨hH148, hR148, lz147, uz147⟩ => ?_)
    refine jx_pop c1 hm rfl rfl ?_
    refine jx_goto c1 hm 1445 rfl rfl ?_
    refine jx_iinc c1 hm (v := (b1 + 6)) (L' := [some (.inr (.inr (.inr 0))), some (.inr (.inr (.inl 0))), some (.inr (.inr (.inl 173))), some (.inr (.inr (.inl 198))), some (.inl (b1 + 6)), o2, o3]) rfl rfl (by omega) (by omega) rfl ?_
    refine jx_goto c1 hm 23 rfl rfl ?_
    exact ihW9 (b1 + 6) (by omega) o2 ho2 o3 ho3 M148 (hH148.mono (by omega) (by omega)) k (by omega) (SOK.cg hs1 (fun j h1 h2 => ((hR148 175 j (jin_hi (b := 234) (by decide +kernel) h1)).trans (hR146 175 j rfl)))) (KOK.cg hs2 (fun j h1 h2 => ((hR148 177 j rfl).trans (hR146 177 j rfl)))) (KOK.cg hs3 (fun j h1 h2 => ((hR148 177 j rfl).trans (hR146 177 j rfl)))) (IMG.cg hs4 (fun j => ((hR148 46 j rfl).trans (hR146 46 j rfl))) (fun j => ((hR148 183 j rfl).trans (hR146 183 j rfl)))) (by omega)
   by_cases h149 : z13 = 16
   ·
    refine jx_tswI c1 hm 783 rfl ⟨by omega, by omega⟩ (by rw [h149] <;> rfl) rfl ?_
    refine jx_load c1 hm rfl rfl rfl rfl ?_
    refine jx_load c1 hm rfl rfl rfl rfl ?_
    refine jx_load c1 hm rfl rfl rfl rfl ?_
    refine jy_ic c1 hm rfl (by decide) ?_
    refine jy_add c1 hm (b1 + 1) rfl (by omega) ?_
    obtain ⟨z150, kz150, lz150, uz150⟩ := hf ((b1 + 1)).toNat
    refine jx_sald c1 hm rfl ⟨by omega, by omega⟩ kz150 ?_
    refine jv_i c3 hm rfl (plp pj_X11_weeks rfl) rfl rfl ⟨_, _, _, rfl, sh_0⟩ rfl ((ct_X11_weeks_0 (X + 8000 * b1) (by omega) M4 hH4 z150 ⟨by omega, by omega⟩).le (by decide)) (fun z151 M152 ⟨hH152, hR152, lz151, uz151⟩ => ?_)
    refine jx_pop c1 hm rfl rfl ?_
    refine jx_load c1 hm rfl rfl rfl rfl ?_
    refine jx_load c1 hm rfl rfl rfl rfl ?_
    refine jx_load c1 hm rfl rfl rfl rfl ?_
    refine jy_ic c1 hm rfl (by decide) ?_
    refine jy_add c1 hm (b1 + 1) rfl (by omega) ?_
    obtain ⟨z153, kz153, lz153, uz153⟩ := hf ((b1 + 1)).toNat
    refine jx_sald c1 hm rfl ⟨by omega, by omega⟩ kz153 ?_
    refine jv_i c3 hm rfl (plp pj_X12_weeks rfl) rfl rfl ⟨_, _, _, rfl, sh_173⟩ rfl ((ct_X12_weeks_173 (X + 8000 * b1 + 1) (by omega) M152 hH152 z153 ⟨by omega, by omega⟩).le (by decide)) (fun z154 M155 ⟨hH155, hR155, lz154, uz154⟩ => ?_)
    refine jx_pop c1 hm rfl rfl ?_
    refine jx_goto c1 hm 1445 rfl rfl ?_
    refine jx_iinc c1 hm (v := (b1 + 6)) (L' := [some (.inr (.inr (.inr 0))), some (.inr (.inr (.inl 0))), some (.inr (.inr (.inl 173))), some (.inr (.inr (.inl 198))), some (.inl (b1 + 6)), o2, o3]) rfl rfl (by omega) (by omega) rfl ?_
    refine jx_goto c1 hm 23 rfl rfl ?_
    exact ihW9 (b1 + 6) (by omega) o2 ho2 o3 ho3 M155 (hH155.mono (by omega) (by omega)) k (by omega) (SOK.cg hs1 (fun j h1 h2 => ((hR155 175 j (jin_hi (b := 234) (by decide +kernel) h1)).trans (hR152 175 j rfl)))) (KOK.cg hs2 (fun j h1 h2 => ((hR155 177 j rfl).trans (hR152 177 j rfl)))) (KOK.cg hs3 (fun j h1 h2 => ((hR155 177 j rfl).trans (hR152 177 j rfl)))) (IMG.cg hs4 (fun j => ((hR155 46 j rfl).trans (hR152 46 j rfl))) (fun j => ((hR155 183 j rfl).trans (hR152 183 j rfl)))) (by omega)
   by_cases h156 : z13 = 17
   ·
    refine jx_tswI c1 hm 808 rfl ⟨by omega, by omega⟩ (by rw [h156] <;> rfl) rfl ?_
    refine jx_load c1 hm rfl rfl rfl rfl ?_
    refine jv_i c3 hm rfl (plp pj_X11_undo rfl) rfl rfl ⟨_, _, _, rfl, sh_0⟩ rfl ((ct_X11_undo_0 (X + 8000 * b1) (by omega) M4 hH4 ).le (by decide)) (fun z157 M158 ⟨hH158, hR158, lz157, uz157⟩ => ?_)
    refine jx_pop c1 hm rfl rfl ?_
    refine jx_load c1 hm rfl rfl rfl rfl ?_
    refine jv_i c3 hm rfl (plp pj_X12_undo rfl) rfl rfl ⟨_, _, _, rfl, sh_173⟩ rfl ((ct_X12_undo_173 (X + 8000 * b1) (by omega) M158 hH158 ).le (by decide)) (fun z159 M160 ⟨hH160, hR160, lz159, uz159⟩ => ?_)
    refine jx_pop c1 hm rfl rfl ?_
    refine jx_goto c1 hm 1445 rfl rfl ?_
    refine jx_iinc c1 hm (v := (b1 + 6)) (L' := [some (.inr (.inr (.inr 0))), some (.inr (.inr (.inl 0))), some (.inr (.inr (.inl 173))), some (.inr (.inr (.inl 198))), some (.inl (b1 + 6)), o2, o3]) rfl rfl (by omega) (by omega) rfl ?_
    refine jx_goto c1 hm 23 rfl rfl ?_
    exact ihW9 (b1 + 6) (by omega) o2 ho2 o3 ho3 M160 (hH160.mono (by omega) (by omega)) k (by omega) (SOK.cg hs1 (fun j h1 h2 => ((hR160 175 j (jin_hi (b := 234) (by decide +kernel) h1)).trans (hR158 175 j rfl)))) (KOK.cg hs2 (fun j h1 h2 => ((hR160 177 j rfl).trans (hR158 177 j rfl)))) (KOK.cg hs3 (fun j h1 h2 => ((hR160 177 j rfl).trans (hR158 177 j rfl)))) (IMG.cg hs4 (fun j => ((hR160 46 j rfl).trans (hR158 46 j rfl))) (fun j => ((hR160 183 j rfl).trans (hR158 183 j rfl)))) (by omega)
   by_cases h161 : z13 = 18
   ·
    refine jx_tswI c1 hm 821 rfl ⟨by omega, by omega⟩ (by rw [h161] <;> rfl) rfl ?_
    refine jx_load c1 hm rfl rfl rfl rfl ?_
    refine jv_i c3 hm rfl (plp pj_X11_ring rfl) rfl rfl ⟨_, _, _, rfl, sh_0⟩ rfl ((ct_X11_ring_0 (X + 8000 * b1) (by omega) M4 hH4 ).le (by decide)) (fun z162 M163 ⟨hH163, hR163, lz162, uz162⟩ => ?_)
    refine jx_pop c1 hm rfl rfl ?_
    refine jx_load c1 hm rfl rfl rfl rfl ?_
    refine jv_i c3 hm rfl (plp pj_X12_ring rfl) rfl rfl ⟨_, _, _, rfl, sh_173⟩ rfl ((ct_X12_ring_173 (X + 8000 * b1) (by omega) M163 hH163 ).le (by decide)) (fun z164 M165 ⟨hH165, hR165, lz164, uz164⟩ => ?_)
    refine jx_pop c1 hm rfl rfl ?_
    refine jx_goto c1 hm 1445 rfl rfl ?_
    refine jx_iinc c1 hm (v := (b1 + 6)) (L' := [some (.inr (.inr (.inr 0))), some (.inr (.inr (.inl 0))), some (.inr (.inr (.inl 173))), some (.inr (.inr (.inl 198))), some (.inl (b1 + 6)), o2, o3]) rfl rfl (by omega) (by omega) rfl ?_
    refine jx_goto c1 hm 23 rfl rfl ?_
    exact ihW9 (b1 + 6) (by omega) o2 ho2 o3 ho3 M165 (hH165.mono (by omega) (by omega)) k (by omega) (SOK.cg hs1 (fun j h1 h2 => ((hR165 175 j rfl).trans (hR163 175 j rfl)))) (KOK.cg hs2 (fun j h1 h2 => ((hR165 177 j rfl).trans (hR163 177 j rfl)))) (KOK.cg hs3 (fun j h1 h2 => ((hR165 177 j rfl).trans (hR163 177 j rfl)))) (IMG.cg hs4 (fun j => ((hR165 46 j rfl).trans (hR163 46 j rfl))) (fun j => ((hR165 183 j rfl).trans (hR163 183 j rfl)))) (by omega)
   by_cases h166 : z13 = 19
   ·
    refine jx_tswI c1 hm 834 rfl ⟨by omega, by omega⟩ (by rw [h166] <;> rfl) rfl ?_
    refine jx_load c1 hm rfl rfl rfl rfl ?_
    refine jx_load c1 hm rfl rfl rfl rfl ?_
    refine jx_load c1 hm rfl rfl rfl rfl ?_
    refine jy_ic c1 hm rfl (by decide) ?_
    refine jy_add c1 hm (b1 + 1) rfl (by omega) ?_
    obtain ⟨z167, kz167, lz167, uz167⟩ := hf ((b1 + 1)).toNat
    refine jx_sald c1 hm rfl ⟨by omega, by omega⟩ kz167 ?_
    refine jv_i c3 hm rfl (plp pj_X11_ringAt rfl) rfl rfl ⟨_, _, _, rfl, sh_0⟩ rfl ((ct_X11_ringAt_0 (X + 8000 * b1) (by omega) M4 hH4 z167 ⟨by omega, by omega⟩).le (by decide)) (fun z168 _ ⟨rfl, lz168, uz168⟩ => ?_)
    refine jx_pop c1 hm rfl rfl ?_
    refine jx_load c1 hm rfl rfl rfl rfl ?_
    refine jx_load c1 hm rfl rfl rfl rfl ?_
    refine jx_load c1 hm rfl rfl rfl rfl ?_
    refine jy_ic c1 hm rfl (by decide) ?_
    refine jy_add c1 hm (b1 + 1) rfl (by omega) ?_
    obtain ⟨z169, kz169, lz169, uz169⟩ := hf ((b1 + 1)).toNat
    refine jx_sald c1 hm rfl ⟨by omega, by omega⟩ kz169 ?_
    refine jv_i c3 hm rfl (plp pj_X12_ringAt rfl) rfl rfl ⟨_, _, _, rfl, sh_173⟩ rfl ((ct_X12_ringAt_173 (X + 8000 * b1) (by omega) M4 hH4 z169 ⟨by omega, by omega⟩).le (by decide)) (fun z170 M171 ⟨hH171, hR171, lz170, uz170⟩ => ?_)
    refine jx_pop c1 hm rfl rfl ?_
    refine jx_goto c1 hm 1445 rfl rfl ?_
    refine jx_iinc c1 hm (v := (b1 + 6)) (L' := [some (.inr (.inr (.inr 0))), some (.inr (.inr (.inl 0))), some (.inr (.inr (.inl 173))), some (.inr (.inr (.inl 198))), some (.inl (b1 + 6)), o2, o3]) rfl rfl (by omega) (by omega) rfl ?_
    refine jx_goto c1 hm 23 rfl rfl ?_
    exact ihW9 (b1 + 6) (by omega) o2 ho2 o3 ho3 M171 (hH171.mono (by omega) (by omega)) k (by omega) (SOK.cg hs1 (fun j h1 h2 => (hR171 175 j rfl))) (KOK.cg hs2 (fun j h1 h2 => (hR171 177 j rfl))) (KOK.cg hs3 (fun j h1 h2 => (hR171 177 j rfl))) (IMG.cg hs4 (fun j => (hR171 46 j rfl)) (fun j => (hR171 183 j rfl))) (by omega)
   by_cases h172 : z13 = 20
   ·
    refine jx_tswI c1 hm 859 rfl ⟨by omega, by omega⟩ (by rw [h172] <;> rfl) rfl ?_
    refine jx_load c1 hm rfl rfl rfl rfl ?_
    refine jx_load c1 hm rfl rfl rfl rfl ?_
    refine jx_load c1 hm rfl rfl rfl rfl ?_
    refine jy_ic c1 hm rfl (by decide) ?_
    refine jy_add c1 hm (b1 + 1) rfl (by omega) ?_
    obtain ⟨z173, kz173, lz173, uz173⟩ := hf ((b1 + 1)).toNat
    refine jx_sald c1 hm rfl ⟨by omega, by omega⟩ kz173 ?_
    refine jx_load c1 hm rfl rfl rfl rfl ?_
    refine jx_load c1 hm rfl rfl rfl rfl ?_
    refine jy_ic c1 hm rfl (by decide) ?_
    refine jy_add c1 hm (b1 + 2) rfl (by omega) ?_
    obtain ⟨z174, kz174, lz174, uz174⟩ := hf ((b1 + 2)).toNat
    refine jx_sald c1 hm rfl ⟨by omega, by omega⟩ kz174 ?_
    refine jv_i c3 hm rfl (plp pj_X11_plan rfl) rfl rfl ⟨_, _, _, rfl, sh_0⟩ rfl ((ct_X11_plan_0 (X + 8000 * b1) (by omega) M4 hH4 z173 ⟨by omega, by omega⟩ z174 ⟨by omega, by omega⟩).le (by decide)) (fun z175 M176 ⟨hH176, hR176, lz175, uz175⟩ => ?_)
    refine jx_pop c1 hm rfl rfl ?_
    refine jx_load c1 hm rfl rfl rfl rfl ?_
    refine jx_load c1 hm rfl rfl rfl rfl ?_
    refine jx_load c1 hm rfl rfl rfl rfl ?_
    refine jy_ic c1 hm rfl (by decide) ?_
    refine jy_add c1 hm (b1 + 1) rfl (by omega) ?_
    obtain ⟨z177, kz177, lz177, uz177⟩ := hf ((b1 + 1)).toNat
    refine jx_sald c1 hm rfl ⟨by omega, by omega⟩ kz177 ?_
    refine jx_load c1 hm rfl rfl rfl rfl ?_
    refine jx_load c1 hm rfl rfl rfl rfl ?_
    refine jy_ic c1 hm rfl (by decide) ?_
    refine jy_add c1 hm (b1 + 2) rfl (by omega) ?_
    obtain ⟨z178, kz178, lz178, uz178⟩ := hf ((b1 + 2)).toNat
    refine jx_sald c1 hm rfl ⟨by omega, by omega⟩ kz178 ?_
    refine jv_i c3 hm rfl (plp pj_X12_plan rfl) rfl rfl ⟨_, _, _, rfl, sh_173⟩ rfl ((ct_X12_plan_173 (X + 8000 * b1) (by omega) M176 hH176 z177 ⟨by omega, by omega⟩ z178 ⟨by omega, by omega⟩).le (by decide)) (fun z179 M180 ⟨hH180, hR180, lz179, uz179⟩ => ?_)
    refine jx_pop c1 hm rfl rfl ?_
    refine jx_goto c1 hm 1445 rfl rfl ?_
    refine jx_iinc c1 hm (v := (b1 + 6)) (L' := [some (.inr (.inr (.inr 0))), some (.inr (.inr (.inl 0))), some (.inr (.inr (.inl 173))), some (.inr (.inr (.inl 198))), some (.inl (b1 + 6)), o2, o3]) rfl rfl (by omega) (by omega) rfl ?_
    refine jx_goto c1 hm 23 rfl rfl ?_
    exact ihW9 (b1 + 6) (by omega) o2 ho2 o3 ho3 M180 (hH180.mono (by omega) (by omega)) k (by omega) (SOK.cg hs1 (fun j h1 h2 => ((hR180 175 j rfl).trans (hR176 175 j rfl)))) (KOK.cg hs2 (fun j h1 h2 => ((hR180 177 j rfl).trans (hR176 177 j rfl)))) (KOK.cg hs3 (fun j h1 h2 => ((hR180 177 j rfl).trans (hR176 177 j rfl)))) (IMG.cg hs4 (fun j => ((hR180 46 j rfl).trans (hR176 46 j rfl))) (fun j => ((hR180 183 j rfl).trans (hR176 183 j rfl)))) (by omega)
   by_cases h181 : z13 = 21
   ·
    refine jx_tswI c1 hm 896 rfl ⟨by omega, by omega⟩ (by rw [h181] <;> rfl) rfl ?_
    refine jx_load c1 hm rfl rfl rfl rfl ?_
    refine jx_load c1 hm rfl rfl rfl rfl ?_
    refine jx_load c1 hm rfl rfl rfl rfl ?_
    refine jy_ic c1 hm rfl (by decide) ?_
    refine jy_add c1 hm (b1 + 1) rfl (by omega) ?_
    obtain ⟨z182, kz182, lz182, uz182⟩ := hf ((b1 + 1)).toNat
    refine jx_sald c1 hm rfl ⟨by omega, by omega⟩ kz182 ?_
    refine jv_i c3 hm rfl (plp pj_X11_planned rfl) rfl rfl ⟨_, _, _, rfl, sh_0⟩ rfl ((ct_X11_planned_0 (X + 8000 * b1) (by omega) M4 hH4 z182 ⟨by omega, by omega⟩).le (by decide)) (fun z183 _ ⟨rfl, lz183, uz183⟩ => ?_)
    refine jx_pop c1 hm rfl rfl ?_
    refine jx_load c1 hm rfl rfl rfl rfl ?_
    refine jx_load c1 hm rfl rfl rfl rfl ?_
    refine jx_load c1 hm rfl rfl rfl rfl ?_
    refine jy_ic c1 hm rfl (by decide) ?_
    refine jy_add c1 hm (b1 + 1) rfl (by omega) ?_
    obtain ⟨z184, kz184, lz184, uz184⟩ := hf ((b1 + 1)).toNat
    refine jx_sald c1 hm rfl ⟨by omega, by omega⟩ kz184 ?_
    refine jv_i c3 hm rfl (plp pj_X12_planned rfl) rfl rfl ⟨_, _, _, rfl, sh_173⟩ rfl ((ct_X12_planned_173 (X + 8000 * b1) (by omega) M4 hH4 z184 ⟨by omega, by omega⟩).le (by decide)) (fun z185 M186 ⟨hH186, hR186, lz185, uz185⟩ => ?_)
    refine jx_pop c1 hm rfl rfl ?_
    refine jx_goto c1 hm 1445 rfl rfl ?_
    refine jx_iinc c1 hm (v := (b1 + 6)) (L' := [some (.inr (.inr (.inr 0))), some (.inr (.inr (.inl 0))), some (.inr (.inr (.inl 173))), some (.inr (.inr (.inl 198))), some (.inl (b1 + 6)), o2, o3]) rfl rfl (by omega) (by omega) rfl ?_
    refine jx_goto c1 hm 23 rfl rfl ?_
    exact ihW9 (b1 + 6) (by omega) o2 ho2 o3 ho3 M186 (hH186.mono (by omega) (by omega)) k (by omega) (SOK.cg hs1 (fun j h1 h2 => (hR186 175 j rfl))) (KOK.cg hs2 (fun j h1 h2 => (hR186 177 j rfl))) (KOK.cg hs3 (fun j h1 h2 => (hR186 177 j rfl))) (IMG.cg hs4 (fun j => (hR186 46 j rfl)) (fun j => (hR186 183 j rfl))) (by omega)
   by_cases h187 : z13 = 22
   ·
    refine jx_tswI c1 hm 921 rfl ⟨by omega, by omega⟩ (by rw [h187] <;> rfl) rfl ?_
    refine jx_load c1 hm rfl rfl rfl rfl ?_
    refine jx_load c1 hm rfl rfl rfl rfl ?_
    refine jx_load c1 hm rfl rfl rfl rfl ?_
    refine jy_ic c1 hm rfl (by decide) ?_
    refine jy_add c1 hm (b1 + 1) rfl (by omega) ?_
    obtain ⟨z188, kz188, lz188, uz188⟩ := hf ((b1 + 1)).toNat
    refine jx_sald c1 hm rfl ⟨by omega, by omega⟩ kz188 ?_
    refine jx_load c1 hm rfl rfl rfl rfl ?_
    refine jx_load c1 hm rfl rfl rfl rfl ?_
    refine jy_ic c1 hm rfl (by decide) ?_
    refine jy_add c1 hm (b1 + 2) rfl (by omega) ?_
    obtain ⟨z189, kz189, lz189, uz189⟩ := hf ((b1 + 2)).toNat
    refine jx_sald c1 hm rfl ⟨by omega, by omega⟩ kz189 ?_
    refine jv_i c3 hm rfl (plp pj_X11_lasts rfl) rfl rfl ⟨_, _, _, rfl, sh_0⟩ rfl ((ct_X11_lasts_0 (X + 8000 * b1) (by omega) M4 hH4 z188 ⟨by omega, by omega⟩ z189 ⟨by omega, by omega⟩).le (by decide)) (fun z190 _ ⟨rfl, lz190, uz190⟩ => ?_)
    refine jx_pop c1 hm rfl rfl ?_
    refine jx_load c1 hm rfl rfl rfl rfl ?_
    refine jx_load c1 hm rfl rfl rfl rfl ?_
    refine jx_load c1 hm rfl rfl rfl rfl ?_
    refine jy_ic c1 hm rfl (by decide) ?_
    refine jy_add c1 hm (b1 + 1) rfl (by omega) ?_
    obtain ⟨z191, kz191, lz191, uz191⟩ := hf ((b1 + 1)).toNat
    refine jx_sald c1 hm rfl ⟨by omega, by omega⟩ kz191 ?_
    refine jx_load c1 hm rfl rfl rfl rfl ?_
    refine jx_load c1 hm rfl rfl rfl rfl ?_
    refine jy_ic c1 hm rfl (by decide) ?_
    refine jy_add c1 hm (b1 + 2) rfl (by omega) ?_
    obtain ⟨z192, kz192, lz192, uz192⟩ := hf ((b1 + 2)).toNat
    refine jx_sald c1 hm rfl ⟨by omega, by omega⟩ kz192 ?_
    refine jv_i c3 hm rfl (plp pj_X12_lasts rfl) rfl rfl ⟨_, _, _, rfl, sh_173⟩ rfl ((ct_X12_lasts_173 (X + 8000 * b1) (by omega) M4 hH4 z191 ⟨by omega, by omega⟩ z192 ⟨by omega, by omega⟩).le (by decide)) (fun z193 M194 ⟨hH194, hR194, lz193, uz193⟩ => ?_)
    refine jx_pop c1 hm rfl rfl ?_
    refine jx_goto c1 hm 1445 rfl rfl ?_
    refine jx_iinc c1 hm (v := (b1 + 6)) (L' := [some (.inr (.inr (.inr 0))), some (.inr (.inr (.inl 0))), some (.inr (.inr (.inl 173))), some (.inr (.inr (.inl 198))), some (.inl (b1 + 6)), o2, o3]) rfl rfl (by omega) (by omega) rfl ?_
    refine jx_goto c1 hm 23 rfl rfl ?_
    exact ihW9 (b1 + 6) (by omega) o2 ho2 o3 ho3 M194 (hH194.mono (by omega) (by omega)) k (by omega) (SOK.cg hs1 (fun j h1 h2 => (hR194 175 j rfl))) (KOK.cg hs2 (fun j h1 h2 => (hR194 177 j rfl))) (KOK.cg hs3 (fun j h1 h2 => (hR194 177 j rfl))) (IMG.cg hs4 (fun j => (hR194 46 j rfl)) (fun j => (hR194 183 j rfl))) (by omega)
   by_cases h195 : z13 = 23
   ·
    refine jx_tswI c1 hm 958 rfl ⟨by omega, by omega⟩ (by rw [h195] <;> rfl) rfl ?_
    refine jx_load c1 hm rfl rfl rfl rfl ?_
    refine jx_load c1 hm rfl rfl rfl rfl ?_
    refine jx_load c1 hm rfl rfl rfl rfl ?_
    refine jy_ic c1 hm rfl (by decide) ?_
    refine jy_add c1 hm (b1 + 1) rfl (by omega) ?_
    obtain ⟨z196, kz196, lz196, uz196⟩ := hf ((b1 + 1)).toNat
    refine jx_sald c1 hm rfl ⟨by omega, by omega⟩ kz196 ?_
    refine jx_load c1 hm rfl rfl rfl rfl ?_
    refine jx_load c1 hm rfl rfl rfl rfl ?_
    refine jy_ic c1 hm rfl (by decide) ?_
    refine jy_add c1 hm (b1 + 2) rfl (by omega) ?_
    obtain ⟨z197, kz197, lz197, uz197⟩ := hf ((b1 + 2)).toNat
    refine jx_sald c1 hm rfl ⟨by omega, by omega⟩ kz197 ?_
    refine jv_i c3 hm rfl (plp pj_X11_worth rfl) rfl rfl ⟨_, _, _, rfl, sh_0⟩ rfl ((ct_X11_worth_0 (X + 8000 * b1) (by omega) M4 hH4 z196 ⟨by omega, by omega⟩ z197 ⟨by omega, by omega⟩).le (by decide)) (fun z198 _ ⟨rfl, lz198, uz198⟩ => ?_)
    refine jx_pop c1 hm rfl rfl ?_
    refine jx_load c1 hm rfl rfl rfl rfl ?_
    refine jx_load c1 hm rfl rfl rfl rfl ?_
    refine jx_load c1 hm rfl rfl rfl rfl ?_
    refine jy_ic c1 hm rfl (by decide) ?_
    refine jy_add c1 hm (b1 + 1) rfl (by omega) ?_
    obtain ⟨z199, kz199, lz199, uz199⟩ := hf ((b1 + 1)).toNat
    refine jx_sald c1 hm rfl ⟨by omega, by omega⟩ kz199 ?_
    refine jx_load c1 hm rfl rfl rfl rfl ?_
    refine jx_load c1 hm rfl rfl rfl rfl ?_
    refine jy_ic c1 hm rfl (by decide) ?_
    refine jy_add c1 hm (b1 + 2) rfl (by omega) ?_
    obtain ⟨z200, kz200, lz200, uz200⟩ := hf ((b1 + 2)).toNat
    refine jx_sald c1 hm rfl ⟨by omega, by omega⟩ kz200 ?_
    refine jv_i c3 hm rfl (plp pj_X12_worth rfl) rfl rfl ⟨_, _, _, rfl, sh_173⟩ rfl ((ct_X12_worth_173 (X + 8000 * b1) (by omega) M4 hH4 z199 ⟨by omega, by omega⟩ z200 ⟨by omega, by omega⟩).le (by decide)) (fun z201 M202 ⟨hH202, hR202, lz201, uz201⟩ => ?_)
    refine jx_pop c1 hm rfl rfl ?_
    refine jx_goto c1 hm 1445 rfl rfl ?_
    refine jx_iinc c1 hm (v := (b1 + 6)) (L' := [some (.inr (.inr (.inr 0))), some (.inr (.inr (.inl 0))), some (.inr (.inr (.inl 173))), some (.inr (.inr (.inl 198))), some (.inl (b1 + 6)), o2, o3]) rfl rfl (by omega) (by omega) rfl ?_
    refine jx_goto c1 hm 23 rfl rfl ?_
    exact ihW9 (b1 + 6) (by omega) o2 ho2 o3 ho3 M202 (hH202.mono (by omega) (by omega)) k (by omega) (SOK.cg hs1 (fun j h1 h2 => (hR202 175 j rfl))) (KOK.cg hs2 (fun j h1 h2 => (hR202 177 j rfl))) (KOK.cg hs3 (fun j h1 h2 => (hR202 177 j rfl))) (IMG.cg hs4 (fun j => (hR202 46 j rfl)) (fun j => (hR202 183 j rfl))) (by omega)
   by_cases h203 : z13 = 24
   ·
    refine jx_tswI c1 hm 995 rfl ⟨by omega, by omega⟩ (by rw [h203] <;> rfl) rfl ?_
    refine jx_load c1 hm rfl rfl rfl rfl ?_
    refine jv_i c3 hm rfl (plp pj_X11_even rfl) rfl rfl ⟨_, _, _, rfl, sh_0⟩ rfl ((ct_X11_even_0 (X + 8000 * b1) (by omega) M4 hH4 ).le (by decide)) (fun z204 M205 ⟨hH205, hR205, lz204, uz204⟩ => ?_)
    refine jx_pop c1 hm rfl rfl ?_
    refine jx_load c1 hm rfl rfl rfl rfl ?_
    refine jv_i c3 hm rfl (plp pj_X12_even rfl) rfl rfl ⟨_, _, _, rfl, sh_173⟩ rfl ((ct_X12_even_173 (X + 8000 * b1) (by omega) M205 hH205 ).le (by decide)) (fun z206 M207 ⟨hH207, hR207, lz206, uz206⟩ => ?_)
    refine jx_pop c1 hm rfl rfl ?_
    refine jx_goto c1 hm 1445 rfl rfl ?_
    refine jx_iinc c1 hm (v := (b1 + 6)) (L' := [some (.inr (.inr (.inr 0))), some (.inr (.inr (.inl 0))), some (.inr (.inr (.inl 173))), some (.inr (.inr (.inl 198))), some (.inl (b1 + 6)), o2, o3]) rfl rfl (by omega) (by omega) rfl ?_
    refine jx_goto c1 hm 23 rfl rfl ?_
    exact ihW9 (b1 + 6) (by omega) o2 ho2 o3 ho3 M207 (hH207.mono (by omega) (by omega)) k (by omega) (SOK.cg hs1 (fun j h1 h2 => ((hR207 175 j rfl).trans (hR205 175 j rfl)))) (KOK.cg hs2 (fun j h1 h2 => ((hR207 177 j rfl).trans (hR205 177 j rfl)))) (KOK.cg hs3 (fun j h1 h2 => ((hR207 177 j rfl).trans (hR205 177 j rfl)))) (IMG.cg hs4 (fun j => ((hR207 46 j rfl).trans (hR205 46 j rfl))) (fun j => ((hR207 183 j rfl).trans (hR205 183 j rfl)))) (by omega)
   by_cases h208 : z13 = 25
   ·
    refine jx_tswI c1 hm 1008 rfl ⟨by omega, by omega⟩ (by rw [h208] <;> rfl) rfl ?_
    refine jx_load c1 hm rfl rfl rfl rfl ?_
    refine jv_i c3 hm rfl (plp pj_X11_fits rfl) rfl rfl ⟨_, _, _, rfl, sh_0⟩ rfl ((ct_X11_fits_0 (X + 8000 * b1) (by omega) M4 hH4 ).le (by decide)) (fun z209 M210 ⟨hH210, hR210, lz209, uz209⟩ => ?_)
    refine jx_pop c1 hm rfl rfl ?_
    refine jx_load c1 hm rfl rfl rfl rfl ?_
    refine jv_i c3 hm rfl (plp pj_X12_fits rfl) rfl rfl ⟨_, _, _, rfl, sh_173⟩ rfl ((ct_X12_fits_173 (X + 8000 * b1) (by omega) M210 hH210 ).le (by decide)) (fun z211 M212 ⟨hH212, hR212, lz211, uz211⟩ => ?_)
    refine jx_pop c1 hm rfl rfl ?_
    refine jx_goto c1 hm 1445 rfl rfl ?_
    refine jx_iinc c1 hm (v := (b1 + 6)) (L' := [some (.inr (.inr (.inr 0))), some (.inr (.inr (.inl 0))), some (.inr (.inr (.inl 173))), some (.inr (.inr (.inl 198))), some (.inl (b1 + 6)), o2, o3]) rfl rfl (by omega) (by omega) rfl ?_
    refine jx_goto c1 hm 23 rfl rfl ?_
    exact ihW9 (b1 + 6) (by omega) o2 ho2 o3 ho3 M212 (hH212.mono (by omega) (by omega)) k (by omega) (SOK.cg hs1 (fun j h1 h2 => ((hR212 175 j rfl).trans (hR210 175 j rfl)))) (KOK.cg hs2 (fun j h1 h2 => ((hR212 177 j rfl).trans (hR210 177 j rfl)))) (KOK.cg hs3 (fun j h1 h2 => ((hR212 177 j rfl).trans (hR210 177 j rfl)))) (IMG.cg hs4 (fun j => ((hR212 46 j rfl).trans (hR210 46 j rfl))) (fun j => ((hR212 183 j rfl).trans (hR210 183 j rfl)))) (by omega)
   by_cases h213 : z13 = 26
   ·
    refine jx_tswI c1 hm 1021 rfl ⟨by omega, by omega⟩ (by rw [h213] <;> rfl) rfl ?_
    refine jx_load c1 hm rfl rfl rfl rfl ?_
    refine jv_i c3 hm rfl (plp pj_X11_tells rfl) rfl rfl ⟨_, _, _, rfl, sh_0⟩ rfl ((ct_X11_tells_0 (X + 8000 * b1) (by omega) M4 hH4 ).le (by decide)) (fun z214 _ ⟨rfl, lz214, uz214⟩ => ?_)
    refine jx_pop c1 hm rfl rfl ?_
    refine jx_load c1 hm rfl rfl rfl rfl ?_
    refine jv_i c3 hm rfl (plp pj_X12_tells rfl) rfl rfl ⟨_, _, _, rfl, sh_173⟩ rfl ((ct_X12_tells_173 (X + 8000 * b1) (by omega) M4 hH4 ).le (by decide)) (fun z215 M216 ⟨hH216, hR216, lz215, uz215⟩ => ?_)
    refine jx_pop c1 hm rfl rfl ?_
    refine jx_goto c1 hm 1445 rfl rfl ?_
    refine jx_iinc c1 hm (v := (b1 + 6)) (L' := [some (.inr (.inr (.inr 0))), some (.inr (.inr (.inl 0))), some (.inr (.inr (.inl 173))), some (.inr (.inr (.inl 198))), some (.inl (b1 + 6)), o2, o3]) rfl rfl (by omega) (by omega) rfl ?_
    refine jx_goto c1 hm 23 rfl rfl ?_
    exact ihW9 (b1 + 6) (by omega) o2 ho2 o3 ho3 M216 (hH216.mono (by omega) (by omega)) k (by omega) (SOK.cg hs1 (fun j h1 h2 => (hR216 175 j rfl))) (KOK.cg hs2 (fun j h1 h2 => (hR216 177 j rfl))) (KOK.cg hs3 (fun j h1 h2 => (hR216 177 j rfl))) (IMG.cg hs4 (fun j => (hR216 46 j rfl)) (fun j => (hR216 183 j rfl))) (by omega)
   by_cases h217 : z13 = 27
   ·
    refine jx_tswI c1 hm 1034 rfl ⟨by omega, by omega⟩ (by rw [h217] <;> rfl) rfl ?_
    refine jx_load c1 hm rfl rfl rfl rfl ?_
    refine jx_load c1 hm rfl rfl rfl rfl ?_
    refine jx_load c1 hm rfl rfl rfl rfl ?_
    refine jy_ic c1 hm rfl (by decide) ?_
    refine jy_add c1 hm (b1 + 1) rfl (by omega) ?_
    obtain ⟨z218, kz218, lz218, uz218⟩ := hf ((b1 + 1)).toNat
    refine jx_sald c1 hm rfl ⟨by omega, by omega⟩ kz218 ?_
    refine jx_load c1 hm rfl rfl rfl rfl ?_
    refine jx_load c1 hm rfl rfl rfl rfl ?_
    refine jy_ic c1 hm rfl (by decide) ?_
    refine jy_add c1 hm (b1 + 2) rfl (by omega) ?_
    obtain ⟨z219, kz219, lz219, uz219⟩ := hf ((b1 + 2)).toNat
    refine jx_sald c1 hm rfl ⟨by omega, by omega⟩ kz219 ?_
    refine jx_load c1 hm rfl rfl rfl rfl ?_
    refine jx_load c1 hm rfl rfl rfl rfl ?_
    refine jy_ic c1 hm rfl (by decide) ?_
    refine jy_add c1 hm (b1 + 3) rfl (by omega) ?_
    obtain ⟨z220, kz220, lz220, uz220⟩ := hf ((b1 + 3)).toNat
    refine jx_sald c1 hm rfl ⟨by omega, by omega⟩ kz220 ?_
    refine jv_i c3 hm rfl (plp pj_X11_share rfl) rfl rfl ⟨_, _, _, rfl, sh_0⟩ rfl ((ct_X11_share_0 (X + 8000 * b1) (by omega) M4 hH4 z218 ⟨by omega, by omega⟩ z219 ⟨by omega, by omega⟩ z220 ⟨by omega, by omega⟩).le (by decide)) (fun z221 _ ⟨rfl, lz221, uz221⟩ => ?_)
    refine jx_pop c1 hm rfl rfl ?_
    refine jx_load c1 hm rfl rfl rfl rfl ?_
    refine jx_load c1 hm rfl rfl rfl rfl ?_
    refine jx_load c1 hm rfl rfl rfl rfl ?_
    refine jy_ic c1 hm rfl (by decide) ?_
    refine jy_add c1 hm (b1 + 1) rfl (by omega) ?_
    obtain ⟨z222, kz222, lz222, uz222⟩ := hf ((b1 + 1)).toNat
    refine jx_sald c1 hm rfl ⟨by omega, by omega⟩ kz222 ?_
    refine jx_load c1 hm rfl rfl rfl rfl ?_
    refine jx_load c1 hm rfl rfl rfl rfl ?_
    refine jy_ic c1 hm rfl (by decide) ?_
    refine jy_add c1 hm (b1 + 2) rfl (by omega) ?_
    obtain ⟨z223, kz223, lz223, uz223⟩ := hf ((b1 + 2)).toNat
    refine jx_sald c1 hm rfl ⟨by omega, by omega⟩ kz223 ?_
    refine jx_load c1 hm rfl rfl rfl rfl ?_
    refine jx_load c1 hm rfl rfl rfl rfl ?_
    refine jy_ic c1 hm rfl (by decide) ?_
    refine jy_add c1 hm (b1 + 3) rfl (by omega) ?_
    obtain ⟨z224, kz224, lz224, uz224⟩ := hf ((b1 + 3)).toNat
    refine jx_sald c1 hm rfl ⟨by omega, by omega⟩ kz224 ?_
    refine jv_i c3 hm rfl (plp pj_X12_share rfl) rfl rfl ⟨_, _, _, rfl, sh_173⟩ rfl ((ct_X12_share_173 (X + 8000 * b1) (by omega) M4 hH4 z222 ⟨by omega, by omega⟩ z223 ⟨by omega, by omega⟩ z224 ⟨by omega, by omega⟩).le (by decide)) (fun z225 M226 ⟨hH226, hR226, lz225, uz225⟩ => ?_)
    refine jx_pop c1 hm rfl rfl ?_
    refine jx_goto c1 hm 1445 rfl rfl ?_
    refine jx_iinc c1 hm (v := (b1 + 6)) (L' := [some (.inr (.inr (.inr 0))), some (.inr (.inr (.inl 0))), some (.inr (.inr (.inl 173))), some (.inr (.inr (.inl 198))), some (.inl (b1 + 6)), o2, o3]) rfl rfl (by omega) (by omega) rfl ?_
    refine jx_goto c1 hm 23 rfl rfl ?_
    exact ihW9 (b1 + 6) (by omega) o2 ho2 o3 ho3 M226 (hH226.mono (by omega) (by omega)) k (by omega) (SOK.cg hs1 (fun j h1 h2 => (hR226 175 j rfl))) (KOK.cg hs2 (fun j h1 h2 => (hR226 177 j rfl))) (KOK.cg hs3 (fun j h1 h2 => (hR226 177 j rfl))) (IMG.cg hs4 (fun j => (hR226 46 j rfl)) (fun j => (hR226 183 j rfl))) (by omega)
   by_cases h227 : z13 = 28
   ·
    refine jx_tswI c1 hm 1083 rfl ⟨by omega, by omega⟩ (by rw [h227] <;> rfl) rfl ?_
    refine jx_load c1 hm rfl rfl rfl rfl ?_
    refine jx_load c1 hm rfl rfl rfl rfl ?_
    refine jx_load c1 hm rfl rfl rfl rfl ?_
    refine jy_ic c1 hm rfl (by decide) ?_
    refine jy_add c1 hm (b1 + 1) rfl (by omega) ?_
    obtain ⟨z228, kz228, lz228, uz228⟩ := hf ((b1 + 1)).toNat
    refine jx_sald c1 hm rfl ⟨by omega, by omega⟩ kz228 ?_
    refine jv_i c3 hm rfl (plp pj_X11_tax rfl) rfl rfl ⟨_, _, _, rfl, sh_0⟩ rfl ((ct_X11_tax_0 (X + 8000 * b1) (by omega) M4 hH4 z228 ⟨by omega, by omega⟩).le (by decide)) (fun z229 M230 ⟨hH230, hR230, lz229, uz229⟩ => ?_)
    refine jx_pop c1 hm rfl rfl ?_
    refine jx_load c1 hm rfl rfl rfl rfl ?_
    refine jx_load c1 hm rfl rfl rfl rfl ?_
    refine jx_load c1 hm rfl rfl rfl rfl ?_
    refine jy_ic c1 hm rfl (by decide) ?_
    refine jy_add c1 hm (b1 + 1) rfl (by omega) ?_
    obtain ⟨z231, kz231, lz231, uz231⟩ := hf ((b1 + 1)).toNat
    refine jx_sald c1 hm rfl ⟨by omega, by omega⟩ kz231 ?_
    refine jv_i c3 hm rfl (plp pj_X12_tax rfl) rfl rfl ⟨_, _, _, rfl, sh_173⟩ rfl ((ct_X12_tax_173 (X + 8000 * b1) (by omega) M230 hH230 z231 ⟨by omega, by omega⟩).le (by decide)) (fun z232 M233 ⟨hH233, hR233, lz232, uz232⟩ => ?_)
    refine jx_pop c1 hm rfl rfl ?_
    refine jx_goto c1 hm 1445 rfl rfl ?_
    refine jx_iinc c1 hm (v := (b1 + 6)) (L' := [some (.inr (.inr (.inr 0))), some (.inr (.inr (.inl 0))), some (.inr (.inr (.inl 173))), some (.inr (.inr (.inl 198))), some (.inl (b1 + 6)), o2, o3]) rfl rfl (by omega) (by omega) rfl ?_
    refine jx_goto c1 hm 23 rfl rfl ?_
    exact ihW9 (b1 + 6) (by omega) o2 ho2 o3 ho3 M233 (hH233.mono (by omega) (by omega)) k (by omega) (SOK.cg hs1 (fun j h1 h2 => ((hR233 175 j rfl).trans (hR230 175 j rfl)))) (KOK.cg hs2 (fun j h1 h2 => ((hR233 177 j rfl).trans (hR230 177 j rfl)))) (KOK.cg hs3 (fun j h1 h2 => ((hR233 177 j rfl).trans (hR230 177 j rfl)))) (IMG.cg hs4 (fun j => ((hR233 46 j rfl).trans (hR230 46 j rfl))) (fun j => ((hR233 183 j rfl).trans (hR230 183 j rfl)))) (by omega)
   by_cases h234 : z13 = 29
   ·
    refine jx_tswI c1 hm 1108 rfl ⟨by omega, by omega⟩ (by rw [h234] <;> rfl) rfl ?_
    refine jx_load c1 hm rfl rfl rfl rfl ?_
    refine jx_load c1 hm rfl rfl rfl rfl ?_
    refine jx_load c1 hm rfl rfl rfl rfl ?_
    refine jy_ic c1 hm rfl (by decide) ?_
    refine jy_add c1 hm (b1 + 1) rfl (by omega) ?_
    obtain ⟨z235, kz235, lz235, uz235⟩ := hf ((b1 + 1)).toNat
    refine jx_sald c1 hm rfl ⟨by omega, by omega⟩ kz235 ?_
    refine jv_i c3 hm rfl (plp pj_X11_taxOf rfl) rfl rfl ⟨_, _, _, rfl, sh_0⟩ rfl ((ct_X11_taxOf_0 (X + 8000 * b1) (by omega) M4 hH4 z235 ⟨by omega, by omega⟩).le (by decide)) (fun z236 _ ⟨rfl, lz236, uz236⟩ => ?_)
    refine jx_pop c1 hm rfl rfl ?_
    refine jx_load c1 hm rfl rfl rfl rfl ?_
    refine jx_load c1 hm rfl rfl rfl rfl ?_
    refine jx_load c1 hm rfl rfl rfl rfl ?_
    refine jy_ic c1 hm rfl (by decide) ?_
    refine jy_add c1 hm (b1 + 1) rfl (by omega) ?_
    obtain ⟨z237, kz237, lz237, uz237⟩ := hf ((b1 + 1)).toNat
    refine jx_sald c1 hm rfl ⟨by omega, by omega⟩ kz237 ?_
    refine jv_i c3 hm rfl (plp pj_X12_taxOf rfl) rfl rfl ⟨_, _, _, rfl, sh_173⟩ rfl ((ct_X12_taxOf_173 (X + 8000 * b1) (by omega) M4 hH4 z237 ⟨by omega, by omega⟩).le (by decide)) (fun z238 M239 ⟨hH239, hR239, lz238, uz238⟩ => ?_)
    refine jx_pop c1 hm rfl rfl ?_
    refine jx_goto c1 hm 1445 rfl rfl ?_
    refine jx_iinc c1 hm (v := (b1 + 6)) (L' := [some (.inr (.inr (.inr 0))), some (.inr (.inr (.inl 0))), some (.inr (.inr (.inl 173))), some (.inr (.inr (.inl 198))), some (.inl (b1 + 6)), o2, o3]) rfl rfl (by omega) (by omega) rfl ?_
    refine jx_goto c1 hm 23 rfl rfl ?_
    exact ihW9 (b1 + 6) (by omega) o2 ho2 o3 ho3 M239 (hH239.mono (by omega) (by omega)) k (by omega) (SOK.cg hs1 (fun j h1 h2 => (hR239 175 j rfl))) (KOK.cg hs2 (fun j h1 h2 => (hR239 177 j rfl))) (KOK.cg hs3 (fun j h1 h2 => (hR239 177 j rfl))) (IMG.cg hs4 (fun j => (hR239 46 j rfl)) (fun j => (hR239 183 j rfl))) (by omega)
   by_cases h240 : z13 = 30
   ·
    refine jx_tswI c1 hm 1133 rfl ⟨by omega, by omega⟩ (by rw [h240] <;> rfl) rfl ?_
    refine jx_load c1 hm rfl rfl rfl rfl ?_
    refine jv_i c3 hm rfl (plp pj_X11_proudest rfl) rfl rfl ⟨_, _, _, rfl, sh_0⟩ rfl ((ct_X11_proudest_0 (X + 8000 * b1) (by omega) M4 hH4 ).le (by decide)) (fun z241 _ ⟨rfl, lz241, uz241⟩ => ?_)
    refine jx_pop c1 hm rfl rfl ?_
    refine jx_load c1 hm rfl rfl rfl rfl ?_
    refine jv_i c3 hm rfl (plp pj_X12_proudest rfl) rfl rfl ⟨_, _, _, rfl, sh_173⟩ rfl ((ct_X12_proudest_173 (X + 8000 * b1) (by omega) M4 hH4 ).le (by decide)) (fun z242 M243 ⟨hH243, hR243, lz242, uz242⟩ => ?_)
    refine jx_pop c1 hm rfl rfl ?_
    refine jx_goto c1 hm 1445 rfl rfl ?_
    refine jx_iinc c1 hm (v := (b1 + 6)) (L' := [some (.inr (.inr (.inr 0))), some (.inr (.inr (.inl 0))), some (.inr (.inr (.inl 173))), some (.inr (.inr (.inl 198))), some (.inl (b1 + 6)), o2, o3]) rfl rfl (by omega) (by omega) rfl ?_
    refine jx_goto c1 hm 23 rfl rfl ?_
    exact ihW9 (b1 + 6) (by omega) o2 ho2 o3 ho3 M243 (hH243.mono (by omega) (by omega)) k (by omega) (SOK.cg hs1 (fun j h1 h2 => (hR243 175 j rfl))) (KOK.cg hs2 (fun j h1 h2 => (hR243 177 j rfl))) (KOK.cg hs3 (fun j h1 h2 => (hR243 177 j rfl))) (IMG.cg hs4 (fun j => (hR243 46 j rfl)) (fun j => (hR243 183 j rfl))) (by omega)
   by_cases h244 : z13 = 31
   ·
    refine jx_tswI c1 hm 1146 rfl ⟨by omega, by omega⟩ (by rw [h244] <;> rfl) rfl ?_
    refine jx_load c1 hm rfl rfl rfl rfl ?_
    refine jx_load c1 hm rfl rfl rfl rfl ?_
    refine jx_load c1 hm rfl rfl rfl rfl ?_
    refine jy_ic c1 hm rfl (by decide) ?_
    refine jy_add c1 hm (b1 + 1) rfl (by omega) ?_
    obtain ⟨z245, kz245, lz245, uz245⟩ := hf ((b1 + 1)).toNat
    refine jx_sald c1 hm rfl ⟨by omega, by omega⟩ kz245 ?_
    refine jv_i c3 hm rfl (plp pj_X11_list rfl) rfl rfl ⟨_, _, _, rfl, sh_0⟩ rfl ((ct_X11_list_0 (X + 8000 * b1) (by omega) M4 hH4 z245 ⟨by omega, by omega⟩).le (by decide)) (fun z246 M247 ⟨hH247, hR247, lz246, uz246⟩ => ?_)
    refine jx_pop c1 hm rfl rfl ?_
    refine jx_load c1 hm rfl rfl rfl rfl ?_
    refine jx_load c1 hm rfl rfl rfl rfl ?_
    refine jx_load c1 hm rfl rfl rfl rfl ?_
    refine jy_ic c1 hm rfl (by decide) ?_
    refine jy_add c1 hm (b1 + 1) rfl (by omega) ?_
    obtain ⟨z248, kz248, lz248, uz248⟩ := hf ((b1 + 1)).toNat
    refine jx_sald c1 hm rfl ⟨by omega, by omega⟩ kz248 ?_
    refine jv_i c3 hm rfl (plp pj_X12_list rfl) rfl rfl ⟨_, _, _, rfl, sh_173⟩ rfl ((ct_X12_list_173 (X + 8000 * b1) (by omega) M247 hH247 z248 ⟨by omega, by omega⟩).le (by decide)) (fun z249 M250 ⟨hH250, hR250, lz249, uz249⟩ => ?_)
    refine jx_pop c1 hm rfl rfl ?_
    refine jx_goto c1 hm 1445 rfl rfl ?_
    refine jx_iinc c1 hm (v := (b1 + 6)) (L' := [some (.inr (.inr (.inr 0))), some (.inr (.inr (.inl 0))), some (.inr (.inr (.inl 173))), some (.inr (.inr (.inl 198))), some (.inl (b1 + 6)), o2, o3]) rfl rfl (by omega) (by omega) rfl ?_
    refine jx_goto c1 hm 23 rfl rfl ?_
    exact ihW9 (b1 + 6) (by omega) o2 ho2 o3 ho3 M250 (hH250.mono (by omega) (by omega)) k (by omega) (SOK.cg hs1 (fun j h1 h2 => ((hR250 175 j rfl).trans (hR247 175 j rfl)))) (KOK.cg hs2 (fun j h1 h2 => ((hR250 177 j rfl).trans (hR247 177 j rfl)))) (KOK.cg hs3 (fun j h1 h2 => ((hR250 177 j rfl).trans (hR247 177 j rfl)))) (IMG.cg hs4 (fun j => ((hR250 46 j rfl).trans (hR247 46 j rfl))) (fun j => ((hR250 183 j rfl).trans (hR247 183 j rfl)))) (by omega)
   by_cases h251 : z13 = 32
   ·
    refine jx_tswI c1 hm 1171 rfl ⟨by omega, by omega⟩ (by rw [h251] <;> rfl) rfl ?_
    refine jx_load c1 hm rfl rfl rfl rfl ?_
    refine jx_load c1 hm rfl rfl rfl rfl ?_
    refine jx_load c1 hm rfl rfl rfl rfl ?_
    refine jy_ic c1 hm rfl (by decide) ?_
    refine jy_add c1 hm (b1 + 1) rfl (by omega) ?_
    obtain ⟨z252, kz252, lz252, uz252⟩ := hf ((b1 + 1)).toNat
    refine jx_sald c1 hm rfl ⟨by omega, by omega⟩ kz252 ?_
    refine jv_i c3 hm rfl (plp pj_X11_byteAt rfl) rfl rfl ⟨_, _, _, rfl, sh_0⟩ rfl ((ct_X11_byteAt_0 (X + 8000 * b1) (by omega) M4 hH4 z252 ⟨by omega, by omega⟩).le (by decide)) (fun z253 _ ⟨rfl, lz253, uz253⟩ => ?_)
    refine jx_pop c1 hm rfl rfl ?_
    refine jx_load c1 hm rfl rfl rfl rfl ?_
    refine jx_load c1 hm rfl rfl rfl rfl ?_
    refine jx_load c1 hm rfl rfl rfl rfl ?_
    refine jy_ic c1 hm rfl (by decide) ?_
    refine jy_add c1 hm (b1 + 1) rfl (by omega) ?_
    obtain ⟨z254, kz254, lz254, uz254⟩ := hf ((b1 + 1)).toNat
    refine jx_sald c1 hm rfl ⟨by omega, by omega⟩ kz254 ?_
    refine jv_i c3 hm rfl (plp pj_X12_byteAt rfl) rfl rfl ⟨_, _, _, rfl, sh_173⟩ rfl ((ct_X12_byteAt_173 (X + 8000 * b1) (by omega) M4 hH4 z254 ⟨by omega, by omega⟩).le (by decide)) (fun z255 M256 ⟨hH256, hR256, lz255, uz255⟩ => ?_)
    refine jx_pop c1 hm rfl rfl ?_
    refine jx_goto c1 hm 1445 rfl rfl ?_
    refine jx_iinc c1 hm (v := (b1 + 6)) (L' := [some (.inr (.inr (.inr 0))), some (.inr (.inr (.inl 0))), some (.inr (.inr (.inl 173))), some (.inr (.inr (.inl 198))), some (.inl (b1 + 6)), o2, o3]) rfl rfl (by omega) (by omega) rfl ?_
    refine jx_goto c1 hm 23 rfl rfl ?_
    exact ihW9 (b1 + 6) (by omega) o2 ho2 o3 ho3 M256 (hH256.mono (by omega) (by omega)) k (by omega) (SOK.cg hs1 (fun j h1 h2 => (hR256 175 j rfl))) (KOK.cg hs2 (fun j h1 h2 => (hR256 177 j rfl))) (KOK.cg hs3 (fun j h1 h2 => (hR256 177 j rfl))) (IMG.cg hs4 (fun j => (hR256 46 j rfl)) (fun j => (hR256 183 j rfl))) (by omega)
   by_cases h257 : z13 = 33
   ·
    refine jx_tswI c1 hm 1196 rfl ⟨by omega, by omega⟩ (by rw [h257] <;> rfl) rfl ?_
    refine jx_load c1 hm rfl rfl rfl rfl ?_
    refine jx_load c1 hm rfl rfl rfl rfl ?_
    refine jx_load c1 hm rfl rfl rfl rfl ?_
    refine jy_ic c1 hm rfl (by decide) ?_
    refine jy_add c1 hm (b1 + 1) rfl (by omega) ?_
    obtain ⟨z258, kz258, lz258, uz258⟩ := hf ((b1 + 1)).toNat
    refine jx_sald c1 hm rfl ⟨by omega, by omega⟩ kz258 ?_
    refine jx_load c1 hm rfl rfl rfl rfl ?_
    refine jx_load c1 hm rfl rfl rfl rfl ?_
    refine jy_ic c1 hm rfl (by decide) ?_
    refine jy_add c1 hm (b1 + 2) rfl (by omega) ?_
    obtain ⟨z259, kz259, lz259, uz259⟩ := hf ((b1 + 2)).toNat
    refine jx_sald c1 hm rfl ⟨by omega, by omega⟩ kz259 ?_
    refine jv_i c3 hm rfl (plp pj_X11_drawn rfl) rfl rfl ⟨_, _, _, rfl, sh_0⟩ rfl ((ct_X11_drawn_0 (X + 8000 * b1) (by omega) M4 hH4 z258 ⟨by omega, by omega⟩ z259 ⟨by omega, by omega⟩).le (by decide)) (fun z260 M261 ⟨hH261, hR261, lz260, uz260⟩ => ?_)
    refine jx_pop c1 hm rfl rfl ?_
    refine jx_load c1 hm rfl rfl rfl rfl ?_
    refine jx_load c1 hm rfl rfl rfl rfl ?_
    refine jx_load c1 hm rfl rfl rfl rfl ?_
    refine jy_ic c1 hm rfl (by decide) ?_
    refine jy_add c1 hm (b1 + 1) rfl (by omega) ?_
    obtain ⟨z262, kz262, lz262, uz262⟩ := hf ((b1 + 1)).toNat
    refine jx_sald c1 hm rfl ⟨by omega, by omega⟩ kz262 ?_
    refine jx_load c1 hm rfl rfl rfl rfl ?_
    refine jx_load c1 hm rfl rfl rfl rfl ?_
    refine jy_ic c1 hm rfl (by decide) ?_
    refine jy_add c1 hm (b1 + 2) rfl (by omega) ?_
    obtain ⟨z263, kz263, lz263, uz263⟩ := hf ((b1 + 2)).toNat
    refine jx_sald c1 hm rfl ⟨by omega, by omega⟩ kz263 ?_
    refine jv_i c3 hm rfl (plp pj_X12_drawn rfl) rfl rfl ⟨_, _, _, rfl, sh_173⟩ rfl ((ct_X12_drawn_173 (X + 8000 * b1 + 360) (by omega) M261 hH261 z262 ⟨by omega, by omega⟩ z263 ⟨by omega, by omega⟩).le (by decide)) (fun z264 M265 ⟨hH265, hR265, lz264, uz264⟩ => ?_)
    rw [show X + 8000 * b1 + 360 + 1080 = X + 8000 * b1 + 1440 by omega] at hH265
    refine jx_pop c1 hm rfl rfl ?_
    refine jx_goto c1 hm 1445 rfl rfl ?_
    refine jx_iinc c1 hm (v := (b1 + 6)) (L' := [some (.inr (.inr (.inr 0))), some (.inr (.inr (.inl 0))), some (.inr (.inr (.inl 173))), some (.inr (.inr (.inl 198))), some (.inl (b1 + 6)), o2, o3]) rfl rfl (by omega) (by omega) rfl ?_
    refine jx_goto c1 hm 23 rfl rfl ?_
    exact ihW9 (b1 + 6) (by omega) o2 ho2 o3 ho3 M265 (hH265.mono (by omega) (by omega)) k (by omega) (SOK.cg hs1 (fun j h1 h2 => ((hR265 175 j (jin_hi (b := 234) (by decide +kernel) h1)).trans (hR261 175 j rfl)))) (KOK.cg hs2 (fun j h1 h2 => ((hR265 177 j rfl).trans (hR261 177 j rfl)))) (KOK.cg hs3 (fun j h1 h2 => ((hR265 177 j rfl).trans (hR261 177 j rfl)))) (IMG.cg hs4 (fun j => ((hR265 46 j rfl).trans (hR261 46 j rfl))) (fun j => ((hR265 183 j rfl).trans (hR261 183 j rfl)))) (by omega)
   by_cases h266 : z13 = 34
   ·
    refine jx_tswI c1 hm 1233 rfl ⟨by omega, by omega⟩ (by rw [h266] <;> rfl) rfl ?_
    refine jx_load c1 hm rfl rfl rfl rfl ?_
    refine jx_load c1 hm rfl rfl rfl rfl ?_
    refine jx_load c1 hm rfl rfl rfl rfl ?_
    refine jy_ic c1 hm rfl (by decide) ?_
    refine jy_add c1 hm (b1 + 1) rfl (by omega) ?_
    obtain ⟨z267, kz267, lz267, uz267⟩ := hf ((b1 + 1)).toNat
    refine jx_sald c1 hm rfl ⟨by omega, by omega⟩ kz267 ?_
    refine jx_load c1 hm rfl rfl rfl rfl ?_
    refine jx_load c1 hm rfl rfl rfl rfl ?_
    refine jy_ic c1 hm rfl (by decide) ?_
    refine jy_add c1 hm (b1 + 2) rfl (by omega) ?_
    obtain ⟨z268, kz268, lz268, uz268⟩ := hf ((b1 + 2)).toNat
    refine jx_sald c1 hm rfl ⟨by omega, by omega⟩ kz268 ?_
    refine jx_load c1 hm rfl rfl rfl rfl ?_
    refine jx_load c1 hm rfl rfl rfl rfl ?_
    refine jy_ic c1 hm rfl (by decide) ?_
    refine jy_add c1 hm (b1 + 3) rfl (by omega) ?_
    obtain ⟨z269, kz269, lz269, uz269⟩ := hf ((b1 + 3)).toNat
    refine jx_sald c1 hm rfl ⟨by omega, by omega⟩ kz269 ?_
    refine jv_i c3 hm rfl (plp pj_X11_odds rfl) rfl rfl ⟨_, _, _, rfl, sh_0⟩ rfl ((ct_X11_odds_0 (X + 8000 * b1) (by omega) M4 hH4 z267 ⟨by omega, by omega⟩ z268 ⟨by omega, by omega⟩ z269 ⟨by omega, by omega⟩).le (by decide)) (fun z270 M271 ⟨hH271, hR271, lz270, uz270⟩ => ?_)
    refine jx_pop c1 hm rfl rfl ?_
    refine jx_load c1 hm rfl rfl rfl rfl ?_
    refine jx_load c1 hm rfl rfl rfl rfl ?_
    refine jx_load c1 hm rfl rfl rfl rfl ?_
    refine jy_ic c1 hm rfl (by decide) ?_
    refine jy_add c1 hm (b1 + 1) rfl (by omega) ?_
    obtain ⟨z272, kz272, lz272, uz272⟩ := hf ((b1 + 1)).toNat
    refine jx_sald c1 hm rfl ⟨by omega, by omega⟩ kz272 ?_
    refine jx_load c1 hm rfl rfl rfl rfl ?_
    refine jx_load c1 hm rfl rfl rfl rfl ?_
    refine jy_ic c1 hm rfl (by decide) ?_
    refine jy_add c1 hm (b1 + 2) rfl (by omega) ?_
    obtain ⟨z273, kz273, lz273, uz273⟩ := hf ((b1 + 2)).toNat
    refine jx_sald c1 hm rfl ⟨by omega, by omega⟩ kz273 ?_
    refine jx_load c1 hm rfl rfl rfl rfl ?_
    refine jx_load c1 hm rfl rfl rfl rfl ?_
    refine jy_ic c1 hm rfl (by decide) ?_
    refine jy_add c1 hm (b1 + 3) rfl (by omega) ?_
    obtain ⟨z274, kz274, lz274, uz274⟩ := hf ((b1 + 3)).toNat
    refine jx_sald c1 hm rfl ⟨by omega, by omega⟩ kz274 ?_
    refine jv_i c3 hm rfl (plp pj_X12_odds rfl) rfl rfl ⟨_, _, _, rfl, sh_173⟩ rfl ((ct_X12_odds_173 (X + 8000 * b1 + 10800) (by omega) M271 hH271 z272 ⟨by omega, by omega⟩ z273 ⟨by omega, by omega⟩ z274 ⟨by omega, by omega⟩).le (by decide)) (fun z275 M276 ⟨hH276, hR276, lz275, uz275⟩ => ?_)
    rw [show X + 8000 * b1 + 10800 + 32400 = X + 8000 * b1 + 43200 by omega] at hH276
    refine jx_pop c1 hm rfl rfl ?_
    refine jx_goto c1 hm 1445 rfl rfl ?_
    refine jx_iinc c1 hm (v := (b1 + 6)) (L' := [some (.inr (.inr (.inr 0))), some (.inr (.inr (.inl 0))), some (.inr (.inr (.inl 173))), some (.inr (.inr (.inl 198))), some (.inl (b1 + 6)), o2, o3]) rfl rfl (by omega) (by omega) rfl ?_
    refine jx_goto c1 hm 23 rfl rfl ?_
    exact ihW9 (b1 + 6) (by omega) o2 ho2 o3 ho3 M276 (hH276.mono (by omega) (by omega)) k (by omega) (SOK.cg hs1 (fun j h1 h2 => ((hR276 175 j (jin_hi (b := 234) (by decide +kernel) h1)).trans (hR271 175 j rfl)))) (KOK.cg hs2 (fun j h1 h2 => ((hR276 177 j rfl).trans (hR271 177 j rfl)))) (KOK.cg hs3 (fun j h1 h2 => ((hR276 177 j rfl).trans (hR271 177 j rfl)))) (IMG.cg hs4 (fun j => ((hR276 46 j rfl).trans (hR271 46 j rfl))) (fun j => ((hR276 183 j rfl).trans (hR271 183 j rfl)))) (by omega)
   by_cases h277 : z13 = 35
   ·
    refine jx_tswI c1 hm 1282 rfl ⟨by omega, by omega⟩ (by rw [h277] <;> rfl) rfl ?_
    refine jx_load c1 hm rfl rfl rfl rfl ?_
    refine jx_load c1 hm rfl rfl rfl rfl ?_
    refine jx_load c1 hm rfl rfl rfl rfl ?_
    refine jy_ic c1 hm rfl (by decide) ?_
    refine jy_add c1 hm (b1 + 1) rfl (by omega) ?_
    obtain ⟨z278, kz278, lz278, uz278⟩ := hf ((b1 + 1)).toNat
    refine jx_sald c1 hm rfl ⟨by omega, by omega⟩ kz278 ?_
    refine jv_i c3 hm rfl (plp pj_X11_book rfl) rfl rfl ⟨_, _, _, rfl, sh_0⟩ rfl ((ct_X11_book_0 (X + 8000 * b1) (by omega) M4 hH4 z278 ⟨by omega, by omega⟩).le (by decide)) (fun z279 M280 ⟨hH280, hR280, lz279, uz279⟩ => ?_)
    refine jx_pop c1 hm rfl rfl ?_
    refine jx_load c1 hm rfl rfl rfl rfl ?_
    refine jx_load c1 hm rfl rfl rfl rfl ?_
    refine jx_load c1 hm rfl rfl rfl rfl ?_
    refine jy_ic c1 hm rfl (by decide) ?_
    refine jy_add c1 hm (b1 + 1) rfl (by omega) ?_
    obtain ⟨z281, kz281, lz281, uz281⟩ := hf ((b1 + 1)).toNat
    refine jx_sald c1 hm rfl ⟨by omega, by omega⟩ kz281 ?_
    refine jv_i c3 hm rfl (plp pj_X12_book rfl) rfl rfl ⟨_, _, _, rfl, sh_173⟩ rfl ((ct_X12_book_173 (X + 8000 * b1 + 40) (by omega) M280 hH280 z281 ⟨by omega, by omega⟩).le (by decide)) (fun z282 M283 ⟨hH283, hR283, lz282, uz282⟩ => ?_)
    rw [show X + 8000 * b1 + 40 + 92 = X + 8000 * b1 + 132 by omega] at hH283
    refine jx_pop c1 hm rfl rfl ?_
    refine jx_goto c1 hm 1445 rfl rfl ?_
    refine jx_iinc c1 hm (v := (b1 + 6)) (L' := [some (.inr (.inr (.inr 0))), some (.inr (.inr (.inl 0))), some (.inr (.inr (.inl 173))), some (.inr (.inr (.inl 198))), some (.inl (b1 + 6)), o2, o3]) rfl rfl (by omega) (by omega) rfl ?_
    refine jx_goto c1 hm 23 rfl rfl ?_
    exact ihW9 (b1 + 6) (by omega) o2 ho2 o3 ho3 M283 (hH283.mono (by omega) (by omega)) k (by omega) (SOK.cg hs1 (fun j h1 h2 => ((hR283 175 j (jin_hi (b := 234) (by decide +kernel) h1)).trans (hR280 175 j rfl)))) (KOK.cg hs2 (fun j h1 h2 => ((hR283 177 j rfl).trans (hR280 177 j rfl)))) (KOK.cg hs3 (fun j h1 h2 => ((hR283 177 j rfl).trans (hR280 177 j rfl)))) (IMG.cg hs4 (fun j => ((hR283 46 j rfl).trans (hR280 46 j rfl))) (fun j => ((hR283 183 j rfl).trans (hR280 183 j rfl)))) (by omega)
   by_cases h284 : z13 = 36
   ·
    refine jx_tswI c1 hm 1307 rfl ⟨by omega, by omega⟩ (by rw [h284] <;> rfl) rfl ?_
    refine jx_load c1 hm rfl rfl rfl rfl ?_
    refine jx_load c1 hm rfl rfl rfl rfl ?_
    refine jx_load c1 hm rfl rfl rfl rfl ?_
    refine jy_ic c1 hm rfl (by decide) ?_
    refine jy_add c1 hm (b1 + 1) rfl (by omega) ?_
    obtain ⟨z285, kz285, lz285, uz285⟩ := hf ((b1 + 1)).toNat
    refine jx_sald c1 hm rfl ⟨by omega, by omega⟩ kz285 ?_
    refine jv_i c3 hm rfl (plp pj_X11_told rfl) rfl rfl ⟨_, _, _, rfl, sh_0⟩ rfl ((ct_X11_told_0 (X + 8000 * b1) (by omega) M4 hH4 z285 ⟨by omega, by omega⟩).le (by decide)) (fun z286 _ ⟨rfl, lz286, uz286⟩ => ?_)
    refine jx_pop c1 hm rfl rfl ?_
    refine jx_load c1 hm rfl rfl rfl rfl ?_
    refine jx_load c1 hm rfl rfl rfl rfl ?_
    refine jx_load c1 hm rfl rfl rfl rfl ?_
    refine jy_ic c1 hm rfl (by decide) ?_
    refine jy_add c1 hm (b1 + 1) rfl (by omega) ?_
    obtain ⟨z287, kz287, lz287, uz287⟩ := hf ((b1 + 1)).toNat
    refine jx_sald c1 hm rfl ⟨by omega, by omega⟩ kz287 ?_
    refine jv_i c3 hm rfl (plp pj_X12_told rfl) rfl rfl ⟨_, _, _, rfl, sh_173⟩ rfl ((ct_X12_told_173 (X + 8000 * b1) (by omega) M4 hH4 z287 ⟨by omega, by omega⟩).le (by decide)) (fun z288 M289 ⟨hH289, hR289, lz288, uz288⟩ => ?_)
    refine jx_pop c1 hm rfl rfl ?_
    refine jx_goto c1 hm 1445 rfl rfl ?_
    refine jx_iinc c1 hm (v := (b1 + 6)) (L' := [some (.inr (.inr (.inr 0))), some (.inr (.inr (.inl 0))), some (.inr (.inr (.inl 173))), some (.inr (.inr (.inl 198))), some (.inl (b1 + 6)), o2, o3]) rfl rfl (by omega) (by omega) rfl ?_
    refine jx_goto c1 hm 23 rfl rfl ?_
    exact ihW9 (b1 + 6) (by omega) o2 ho2 o3 ho3 M289 (hH289.mono (by omega) (by omega)) k (by omega) (SOK.cg hs1 (fun j h1 h2 => (hR289 175 j rfl))) (KOK.cg hs2 (fun j h1 h2 => (hR289 177 j rfl))) (KOK.cg hs3 (fun j h1 h2 => (hR289 177 j rfl))) (IMG.cg hs4 (fun j => (hR289 46 j rfl)) (fun j => (hR289 183 j rfl))) (by omega)
   by_cases h290 : z13 = 37
   ·
    refine jx_tswI c1 hm 1332 rfl ⟨by omega, by omega⟩ (by rw [h290] <;> rfl) rfl ?_
    refine jx_load c1 hm rfl rfl rfl rfl ?_
    refine jv_i c3 hm rfl (plp pj_X11_sentence rfl) rfl rfl ⟨_, _, _, rfl, sh_0⟩ rfl ((ct_X11_sentence_0 (X + 8000 * b1) (by omega) M4 hH4 ).le (by decide)) (fun z291 M292 ⟨hH292, hR292, lz291, uz291⟩ => ?_)
    refine jx_pop c1 hm rfl rfl ?_
    refine jx_load c1 hm rfl rfl rfl rfl ?_
    refine jv_i c3 hm rfl (plp pj_X12_sentence rfl) rfl rfl ⟨_, _, _, rfl, sh_173⟩ rfl ((ct_X12_sentence_173 (X + 8000 * b1) (by omega) M292 hH292 (SOK.cg hs1 (fun j h1 h2 => (hR292 175 j rfl)))).le (by decide)) (fun z293 M295 ⟨hH295, hR295, lz293, uz293, p294⟩ => ?_)
    refine jx_pop c1 hm rfl rfl ?_
    refine jx_goto c1 hm 1445 rfl rfl ?_
    refine jx_iinc c1 hm (v := (b1 + 6)) (L' := [some (.inr (.inr (.inr 0))), some (.inr (.inr (.inl 0))), some (.inr (.inr (.inl 173))), some (.inr (.inr (.inl 198))), some (.inl (b1 + 6)), o2, o3]) rfl rfl (by omega) (by omega) rfl ?_
    refine jx_goto c1 hm 23 rfl rfl ?_
    exact ihW9 (b1 + 6) (by omega) o2 ho2 o3 ho3 M295 (hH295.mono (by omega) (by omega)) k (by omega) p294 (KOK.cg hs2 (fun j h1 h2 => ((hR295 177 j rfl).trans (hR292 177 j rfl)))) (KOK.cg hs3 (fun j h1 h2 => ((hR295 177 j rfl).trans (hR292 177 j rfl)))) (IMG.cg hs4 (fun j => ((hR295 46 j rfl).trans (hR292 46 j rfl))) (fun j => ((hR295 183 j rfl).trans (hR292 183 j rfl)))) (by omega)
   by_cases h296 : z13 = 38
   ·
    refine jx_tswI c1 hm 1345 rfl ⟨by omega, by omega⟩ (by rw [h296] <;> rfl) rfl ?_
    refine jx_load c1 hm rfl rfl rfl rfl ?_
    refine jx_load c1 hm rfl rfl rfl rfl ?_
    refine jx_load c1 hm rfl rfl rfl rfl ?_
    refine jy_ic c1 hm rfl (by decide) ?_
    refine jy_add c1 hm (b1 + 1) rfl (by omega) ?_
    obtain ⟨z297, kz297, lz297, uz297⟩ := hf ((b1 + 1)).toNat
    refine jx_sald c1 hm rfl ⟨by omega, by omega⟩ kz297 ?_
    refine jv_i c3 hm rfl (plp pj_X11_said rfl) rfl rfl ⟨_, _, _, rfl, sh_0⟩ rfl ((ct_X11_said_0 (X + 8000 * b1) (by omega) M4 hH4 z297 ⟨by omega, by omega⟩).le (by decide)) (fun z298 M299 ⟨hH299, hR299, lz298, uz298⟩ => ?_)
    refine jx_pop c1 hm rfl rfl ?_
    refine jx_load c1 hm rfl rfl rfl rfl ?_
    refine jx_load c1 hm rfl rfl rfl rfl ?_
    refine jx_load c1 hm rfl rfl rfl rfl ?_
    refine jy_ic c1 hm rfl (by decide) ?_
    refine jy_add c1 hm (b1 + 1) rfl (by omega) ?_
    obtain ⟨z300, kz300, lz300, uz300⟩ := hf ((b1 + 1)).toNat
    refine jx_sald c1 hm rfl ⟨by omega, by omega⟩ kz300 ?_
    refine jv_i c3 hm rfl (plp pj_X12_said rfl) rfl rfl ⟨_, _, _, rfl, sh_173⟩ rfl ((ct_X12_said_173 (X + 8000 * b1) (by omega) M299 hH299 z300 ⟨by omega, by omega⟩ (SOK.cg hs1 (fun j h1 h2 => (hR299 175 j rfl)))).le (by decide)) (fun z301 M302 ⟨hH302, hR302, lz301, uz301⟩ => ?_)
    refine jx_pop c1 hm rfl rfl ?_
    refine jx_goto c1 hm 1445 rfl rfl ?_
    refine jx_iinc c1 hm (v := (b1 + 6)) (L' := [some (.inr (.inr (.inr 0))), some (.inr (.inr (.inl 0))), some (.inr (.inr (.inl 173))), some (.inr (.inr (.inl 198))), some (.inl (b1 + 6)), o2, o3]) rfl rfl (by omega) (by omega) rfl ?_
    refine jx_goto c1 hm 23 rfl rfl ?_
    exact ihW9 (b1 + 6) (by omega) o2 ho2 o3 ho3 M302 (hH302.mono (by omega) (by omega)) k (by omega) (SOK.cg hs1 (fun j h1 h2 => ((hR302 175 j rfl).trans (hR299 175 j rfl)))) (KOK.cg hs2 (fun j h1 h2 => ((hR302 177 j rfl).trans (hR299 177 j rfl)))) (KOK.cg hs3 (fun j h1 h2 => ((hR302 177 j rfl).trans (hR299 177 j rfl)))) (IMG.cg hs4 (fun j => ((hR302 46 j rfl).trans (hR299 46 j rfl))) (fun j => ((hR302 183 j rfl).trans (hR299 183 j rfl)))) (by omega)
   by_cases h303 : z13 = 39
   ·
    refine jx_tswI c1 hm 1370 rfl ⟨by omega, by omega⟩ (by rw [h303] <;> rfl) rfl ?_
    refine jx_load c1 hm rfl rfl rfl rfl ?_
    refine jx_load c1 hm rfl rfl rfl rfl ?_
    refine jx_load c1 hm rfl rfl rfl rfl ?_
    refine jy_ic c1 hm rfl (by decide) ?_
    refine jy_add c1 hm (b1 + 1) rfl (by omega) ?_
    obtain ⟨z304, kz304, lz304, uz304⟩ := hf ((b1 + 1)).toNat
    refine jx_sald c1 hm rfl ⟨by omega, by omega⟩ kz304 ?_
    refine jv_i c3 hm rfl (plp pj_X11_image rfl) rfl rfl ⟨_, _, _, rfl, sh_0⟩ rfl ((ct_X11_image_0i (X + 8000 * b1) (by omega) M4 hH4 z304 ⟨by omega, by omega⟩).le (by decide)) (fun z305 M307 ⟨hH307, hR307, lz305, uz305, p306⟩ => ?_)
    refine jx_pop c1 hm rfl rfl ?_
    refine jx_load c1 hm rfl rfl rfl rfl ?_
    refine jx_load c1 hm rfl rfl rfl rfl ?_
    refine jx_load c1 hm rfl rfl rfl rfl ?_
    refine jy_ic c1 hm rfl (by decide) ?_
    refine jy_add c1 hm (b1 + 1) rfl (by omega) ?_
    obtain ⟨z308, kz308, lz308, uz308⟩ := hf ((b1 + 1)).toNat
    refine jx_sald c1 hm rfl ⟨by omega, by omega⟩ kz308 ?_
    refine jv_i c3 hm rfl (plp pj_X12_image rfl) rfl rfl ⟨_, _, _, rfl, sh_173⟩ rfl ((ct_X12_image_173i (X + 8000 * b1) (by omega) M307 hH307 z308 ⟨by omega, by omega⟩ (SOK.cg hs1 (fun j h1 h2 => (hR307 175 j rfl))) (KOK.cg hs2 (fun j h1 h2 => (hR307 177 j rfl))) (KOK.cg hs3 (fun j h1 h2 => (hR307 177 j rfl)))).le (by decide)) (fun z309 M313 ⟨hH313, hR313, lz309, uz309, p310, p311, p312⟩ => ?_)
    refine jx_pop c1 hm rfl rfl ?_
    refine jx_goto c1 hm 1445 rfl rfl ?_
    refine jx_iinc c1 hm (v := (b1 + 6)) (L' := [some (.inr (.inr (.inr 0))), some (.inr (.inr (.inl 0))), some (.inr (.inr (.inl 173))), some (.inr (.inr (.inl 198))), some (.inl (b1 + 6)), o2, o3]) rfl rfl (by omega) (by omega) rfl ?_
    refine jx_goto c1 hm 23 rfl rfl ?_
    exact ihW9 (b1 + 6) (by omega) o2 ho2 o3 ho3 M313 (hH313.mono (by omega) (by omega)) k (by omega) (SOK.cg hs1 (fun j h1 h2 => ((hR313 175 j rfl).trans (hR307 175 j rfl)))) p310 p311 (IMG.im hs4 (kz304.symm.trans kz308) p306 (fun j => (hR307 183 j rfl)) p312 (fun j => (hR313 46 j rfl))) (by omega)
   by_cases h314 : z13 = 40
   ·
    refine jx_tswI c1 hm 1395 rfl ⟨by omega, by omega⟩ (by rw [h314] <;> rfl) rfl ?_
    refine jx_load c1 hm rfl rfl rfl rfl ?_
    refine jx_load c1 hm rfl rfl rfl rfl ?_
    refine jx_load c1 hm rfl rfl rfl rfl ?_
    refine jy_ic c1 hm rfl (by decide) ?_
    refine jy_add c1 hm (b1 + 1) rfl (by omega) ?_
    obtain ⟨z315, kz315, lz315, uz315⟩ := hf ((b1 + 1)).toNat
    refine jx_sald c1 hm rfl ⟨by omega, by omega⟩ kz315 ?_
    refine jv_i c3 hm rfl (plp pj_X11_restore rfl) rfl rfl ⟨_, _, _, rfl, sh_0⟩ rfl ((ct_X11_restore_0i (X + 8000 * b1) (by omega) M4 hH4 z315 ⟨by omega, by omega⟩).le (by decide)) (fun z316 M318 ⟨hH318, hR318, lz316, uz316, p317⟩ => ?_)
    refine jx_load c1 hm rfl rfl rfl rfl ?_
    refine jx_load c1 hm rfl rfl rfl rfl ?_
    refine jx_load c1 hm rfl rfl rfl rfl ?_
    refine jy_ic c1 hm rfl (by decide) ?_
    refine jy_add c1 hm (b1 + 1) rfl (by omega) ?_
    obtain ⟨z319, kz319, lz319, uz319⟩ := hf ((b1 + 1)).toNat
    refine jx_sald c1 hm rfl ⟨by omega, by omega⟩ kz319 ?_
    refine jv_i c3 hm rfl (plp pj_X12_restore rfl) rfl rfl ⟨_, _, _, rfl, sh_173⟩ rfl ((ct_X12_restore_173i (X + 8000 * b1) (by omega) M318 hH318 z319 ⟨by omega, by omega⟩ (SOK.cg hs1 (fun j h1 h2 => (hR318 175 j rfl))) (KOK.cg hs2 (fun j h1 h2 => (hR318 177 j rfl))) (KOK.cg hs3 (fun j h1 h2 => (hR318 177 j rfl)))).le (by decide)) (fun z320 M323 ⟨hH323, hR323, lz320, uz320, p321, p322⟩ => ?_)
    have hq9 := imR_eq hs4 (kz315.symm.trans kz319) p317 p322 (fun j => (hR318 183 j rfl))
    refine jc_eq c1 hm 1445 rfl rfl (fun h324 => ?_) (fun h324 => ?_)
    ·
     refine jx_iinc c1 hm (v := (b1 + 6)) (L' := [some (.inr (.inr (.inr 0))), some (.inr (.inr (.inl 0))), some (.inr (.inr (.inl 173))), some (.inr (.inr (.inl 198))), some (.inl (b1 + 6)), o2, o3]) rfl rfl (by omega) (by omega) rfl ?_
     refine jx_goto c1 hm 23 rfl rfl ?_
     exact ihW9 (b1 + 6) (by omega) o2 ho2 o3 ho3 M323 (hH323.mono (by omega) (by omega)) k (by omega) p321 (KOK.cg hs2 (fun j h1 h2 => ((hR323 177 j rfl).trans (hR318 177 j rfl)))) (KOK.cg hs3 (fun j h1 h2 => ((hR323 177 j rfl).trans (hR318 177 j rfl)))) (IMG.cg hs4 (fun j => ((hR323 46 j rfl).trans (hR318 46 j rfl))) (fun j => ((hR323 183 j rfl).trans (hR318 183 j rfl)))) (by omega)
    refine jy_ic c1 hm rfl (by decide) ?_
    exfalso; omega
   by_cases h325 : z13 = 41
   ·
    refine jx_tswI c1 hm 1420 rfl ⟨by omega, by omega⟩ (by rw [h325] <;> rfl) rfl ?_
    refine jx_load c1 hm rfl rfl rfl rfl ?_
    refine jx_load c1 hm rfl rfl rfl rfl ?_
    refine jx_load c1 hm rfl rfl rfl rfl ?_
    refine jy_ic c1 hm rfl (by decide) ?_
    refine jy_add c1 hm (b1 + 1) rfl (by omega) ?_
    obtain ⟨z326, kz326, lz326, uz326⟩ := hf ((b1 + 1)).toNat
    refine jx_sald c1 hm rfl ⟨by omega, by omega⟩ kz326 ?_
    refine jv_i c3 hm rfl (plp pj_X11_count rfl) rfl rfl ⟨_, _, _, rfl, sh_0⟩ rfl ((ct_X11_count_0 (X + 8000 * b1) (by omega) M4 hH4 z326 ⟨by omega, by omega⟩).le (by decide)) (fun z327 _ ⟨rfl, lz327, uz327⟩ => ?_)
    refine jx_pop c1 hm rfl rfl ?_
    refine jx_load c1 hm rfl rfl rfl rfl ?_
    refine jx_load c1 hm rfl rfl rfl rfl ?_
    refine jx_load c1 hm rfl rfl rfl rfl ?_
    refine jy_ic c1 hm rfl (by decide) ?_
    refine jy_add c1 hm (b1 + 1) rfl (by omega) ?_
    obtain ⟨z328, kz328, lz328, uz328⟩ := hf ((b1 + 1)).toNat
    refine jx_sald c1 hm rfl ⟨by omega, by omega⟩ kz328 ?_
    refine jv_i c3 hm rfl (plp pj_X12_count rfl) rfl rfl ⟨_, _, _, rfl, sh_173⟩ rfl ((ct_X12_count_173 (X + 8000 * b1) (by omega) M4 hH4 z328 ⟨by omega, by omega⟩).le (by decide)) (fun z329 M330 ⟨hH330, hR330, lz329, uz329⟩ => ?_)
    refine jx_pop c1 hm rfl rfl ?_
    refine jx_goto c1 hm 1445 rfl rfl ?_
    refine jx_iinc c1 hm (v := (b1 + 6)) (L' := [some (.inr (.inr (.inr 0))), some (.inr (.inr (.inl 0))), some (.inr (.inr (.inl 173))), some (.inr (.inr (.inl 198))), some (.inl (b1 + 6)), o2, o3]) rfl rfl (by omega) (by omega) rfl ?_
    refine jx_goto c1 hm 23 rfl rfl ?_
    exact ihW9 (b1 + 6) (by omega) o2 ho2 o3 ho3 M330 (hH330.mono (by omega) (by omega)) k (by omega) (SOK.cg hs1 (fun j h1 h2 => (hR330 175 j rfl))) (KOK.cg hs2 (fun j h1 h2 => (hR330 177 j rfl))) (KOK.cg hs3 (fun j h1 h2 => (hR330 177 j rfl))) (IMG.cg hs4 (fun j => (hR330 46 j rfl)) (fun j => (hR330 183 j rfl))) (by omega)
   refine jx_tswO c1 hm 1445 rfl (by omega) rfl ?_
   refine jx_iinc c1 hm (v := (b1 + 6)) (L' := [some (.inr (.inr (.inr 0))), some (.inr (.inr (.inl 0))), some (.inr (.inr (.inl 173))), some (.inr (.inr (.inl 198))), some (.inl (b1 + 6)), o2, o3]) rfl rfl (by omega) (by omega) rfl ?_
   refine jx_goto c1 hm 23 rfl rfl ?_
   exact ihW9 (b1 + 6) (by omega) o2 ho2 o3 ho3 M4 (hH4.mono (by omega) (by omega)) k (by omega) (SOK.cg hs1 (fun j h1 h2 => rfl)) (KOK.cg hs2 (fun j h1 h2 => rfl)) (KOK.cg hs3 (fun j h1 h2 => rfl)) (IMG.cg hs4 (fun j => rfl) (fun j => rfl)) (by omega)
 exact W9 (3072 + 1 : Int).toNat 0 (by omega) none (Or.inl rfl) none (Or.inl rfl) M0 (hH0.mono (by omega) (by omega)) 0 (by omega) hs1 hs2 hs3 hs4 (by omega)
