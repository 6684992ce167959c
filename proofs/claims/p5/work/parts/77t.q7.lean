/-! The whole SENTENCE, as the class reads it. -/
def ansQ (r : QR) : Int := if r.1 = 0 then r.2.2.2 else -1 - r.2.1
def WhlC (t : TXT) (σ : PSt) (v : Int) (M : JM) : Prop := ∃ r : QR, QP t 1 1 (σ, 0) r ∧ LT t (whlQ t r) v M ∧ ((whlQ t r).1 = 0 → (whlQ t r).2.2.2 = M.1 42 3)
def SenC (u : Nat → Int) (n : Int) (σ : PSt) (v f : Int) : Prop := ∃ r : QR, QP (u, (n, 200)) 1 1 ((0, σ.2), 0) r ∧ v = ansQ (whlQ (u, (n, 200)) r) ∧ f = (whlQ (u, (n, 200)) r).1
section WHS
variable {M M0 M1 M' : JM} {t : TXT} {σ : PSt} {v v1 m n : Int} {u : Nat → Int}
theorem WhlC.no (p : OneC t 1 1 (σ, m) v1 M) (hm : m = 0) (hv1 : v1 = 0) (hv : v = 0) : WhlC t σ v M := by
  subst hm
  obtain ⟨r, q1, l1, e1⟩ := p
  have hb := l1.bad hv1
  have e : whlQ t r = r := seqQ_n hb.1
  exact ⟨r, q1, LT.eq e (l1.vc (hv1.trans hv.symm)), fun h => absurd (e ▸ h) hb.1⟩
theorem WhlC.ok (p : OneC t 1 1 (σ, m) v1 M) (hm : m = 0) (hv1 : v1 ≠ 0) (h6 : M.1 1 6 = 0) (hv : v = 1) : WhlC t σ v M := by
  subst hm
  obtain ⟨r, q1, l1, e1⟩ := p
  obtain ⟨b1, b2⟩ := l1.ok hv1
  have e : whlQ t r = okQ r.2.2 := (seqQ_0 b1).trans (if_pos (b2.kind.1.mp h6))
  refine ⟨r, q1, LT.eq e (LT.o b2 rfl hv), fun _ => ?_⟩
  rw [e]
  exact e1 b1
theorem WhlC.bad (p : OneC t 1 1 (σ, m) v1 M) (hm : m = 0) (hv1 : v1 ≠ 0) (h6 : M.1 1 6 ≠ 0) (hv : v = 0) (e12 : M'.1 1 12 = 1) (e13 : M'.1 1 13 = M.1 1 5) : WhlC t σ v M' := by
  subst hm
  obtain ⟨r, q1, l1, e1⟩ := p
  obtain ⟨b1, b2⟩ := l1.ok hv1
  have e : whlQ t r = noQ t 1 r.2.2 := (seqQ_0 b1).trans (if_neg (fun q => h6 (b2.kind.1.mpr q)))
  refine ⟨r, q1, LT.no (σ := r.2.2.1) (n := r.2.2.2) (k := 1) e (by decide) b2 hv e12 e13, fun h => ?_⟩
  rw [e] at h
  exact absurd h (show (1 : Int) ≠ 0 by decide)
theorem CQ.zero (hc : CTk M (u, (n, 200)) 0) (h12 : M.1 1 12 = 0) (hn : 0 ≤ n ∧ n ≤ 940) (h : HC M0 5 σ) (hp : PIn σ) (h6 : ∀ j, M.1 6 j = M0.1 6 j) (h7 : ∀ k, M.2 7 k = M0.2 7 k) : CQ M (u, (n, 200)) (0, σ.2) :=
  ⟨hc, h12, HC.cp (σ := (0, σ.2)) h (fun j _ => h6 j) (fun k _ => h7 k), Int.le_refl _, hn.1, ⟨hn.2, by show (0 : Int) ≤ 200; decide⟩, hp⟩
theorem SenC.bad {f : Int} (p : WhlC (u, (n, 200)) (0, σ.2) v1 M) (hv1 : v1 = 0) (hv : v = -1 - M.1 1 13) (hf : f = M.1 1 12) : SenC u n σ v f := by
  obtain ⟨r, q1, l1, _⟩ := p
  obtain ⟨h1, h2, h3⟩ := l1.bad hv1
  refine ⟨r, q1, ?_, hf.trans h2⟩
  unfold ansQ
  rw [if_neg h1, ← h3]
  exact hv
theorem SenC.ok {f : Int} (p : WhlC (u, (n, 200)) (0, σ.2) v1 M) (hv1 : v1 ≠ 0) (hv : v = M.1 42 3) (hf : f = M.1 1 12) : SenC u n σ v f := by
  obtain ⟨r, q1, l1, e1⟩ := p
  obtain ⟨h1, h2⟩ := l1.ok hv1
  refine ⟨r, q1, ?_, ?_⟩
  · unfold ansQ
    rw [if_pos h1, e1 h1]
    exact hv
  · rw [hf, h2.2.1, h1]
end WHS
/-! Contracts of a SENTENCE, of names (by wip/q/wlk.py). -/
def md_X7_clear_42q : List (Nat × (Nat × Nat)) := [(42, (2, 2)), (42, (3, 3))]
theorem ct_X7_clear_42q (X : Int) (hX : 0 ≤ X ∧ X ≤ 100000000) (M0 : JM) (hH0 : HI X M0)  : JOk shp PJ 1 251 [.inr (.inr (.inl 42))] M0 (jRv (fun M' => HI X M' ∧ Fr md_X7_clear_42q M0 M' ∧ (LFr ml_0 M0 M') ∧ (M'.1 42 3 = 0))) := by
 refine ⟨jr_X7_clear, pj_X7_clear, fun F c1 c2 c3 => ?_⟩
 have hm := pj_X7_clear
 change F 0 [some (.inr (.inr (.inl 42)))] [] M0
 have hF0 : Fr md_X7_clear_42q M0 M0 := Fr.rf _ _
 refine jx_load c1 hm rfl rfl rfl rfl ?_
 refine jy_ic c1 hm rfl (by decide) ?_
 obtain ⟨M1, e1, hH1, hF1, k1, n1, q1⟩ := mup hH0 hF0 (c := 42) (i := 2) (v := 0) (A := 0) (B := 40) (bs_21_1 _ _ (by omega) (by omega)) ⟨by omega, by omega⟩ (jin_of 0 rfl ⟨by omega, by omega⟩)
 refine jm_puti c1 hm rfl sh_42 rfl e1 ?_
 refine jx_load c1 hm rfl rfl rfl rfl ?_
 refine jy_ic c1 hm rfl (by decide) ?_
 obtain ⟨M2, e2, hH2, hF2, k2, n2, q2⟩ := mup hH1 hF1 (c := 42) (i := 3) (v := 0) (A := 0) (B := 20) (bs_21_2 _ _ (by omega) (by omega)) ⟨by omega, by omega⟩ (jin_of 1 rfl ⟨by omega, by omega⟩)
 refine jm_puti c1 hm rfl sh_42 rfl e2 ?_
 exact jx_retv c2 hm rfl rfl ⟨rfl, hH2, hF2, (((LFr.rf _ _).eq q1).eq q2), (by omega)⟩
def md_X7_readWhole_42_1_5q : List (Nat × (Nat × Nat)) := [(1, (4, 4)), (1, (5, 5)), (1, (6, 6)), (1, (7, 7)), (1, (9, 9)), (1, (11, 11)), (1, (12, 12)), (1, (13, 13)), (42, (2, 2)), (42, (3, 3)), (43, (0, 39))]
theorem ct_X7_readWhole_42_1_5q (X : Int) (hX : 0 ≤ X ∧ X ≤ 100000000) (M0 : JM) (hH0 : HI X M0)  : JOk shp PJ 25 259 [.inr (.inr (.inl 42)), .inr (.inr (.inl 1)), .inr (.inr (.inl 5))] M0 (jRi (fun v M' => HI X M' ∧ Fr md_X7_readWhole_42_1_5q M0 M' ∧ 0 ≤ v ∧ v ≤ 1 ∧ (∀ (t : TXT) (σ : PSt), CQ M0 t σ → WhlC t σ v M') ∧ (LFr ml_X7_readOne_42_1_5q M0 M'))) := by
 refine ⟨jr_X7_readWhole, pj_X7_readWhole, fun F c1 c2 c3 => ?_⟩
 have hm := pj_X7_readWhole
 change F 0 [some (.inr (.inr (.inl 42))), some (.inr (.inr (.inl 1))), some (.inr (.inr (.inl 5)))] [] M0
 have hF0 : Fr md_X7_readWhole_42_1_5q M0 M0 := Fr.rf _ _
 refine jx_load c1 hm rfl rfl rfl rfl ?_
 refine jv_v c3 hm rfl pj_X7_clear rfl rfl ⟨_, _, _, rfl, sh_42⟩ rfl ((ct_X7_clear_42q X (by omega) M0 hH0 ).le (by decide)) (fun M3 ⟨hH3, hR3, p1, p2⟩ => ?_)
 have hF3 := hF0.tr hR3 (by decide +kernel)
 obtain ⟨z4, k5, lz4, uz4⟩ := hH3.ld (c := 42) (i := 3) (A := 0) (B := 20) (bs_21_2 _ _ (by omega) (by omega))
 refine jx_load c1 hm rfl rfl rfl rfl ?_
 refine jx_load c1 hm rfl rfl rfl rfl ?_
 refine jx_load c1 hm rfl rfl rfl rfl ?_
 refine jy_ic c1 hm rfl (by decide) ?_
 refine jv_i c3 hm rfl pj_X7_readCond rfl rfl ⟨_, _, _, rfl, sh_42⟩ rfl ((ct_X7_readCond_42_1_5q 9 (ct_X7_readOne_42_1_5q 9) X (by omega) M3 hH3 1 ⟨by omega, by omega⟩ (by omega)).le (by decide)) (fun z6 M10 ⟨hH10, hR10, lz6, uz6, p7, p8, p9⟩ => ?_)
 have hF10 := hF3.tr hR10 (by decide +kernel)
 obtain ⟨z11, k12, lz11, uz11⟩ := hH10.ld (c := 42) (i := 3) (A := 0) (B := 20) (bs_21_2 _ _ (by omega) (by omega))
 refine jz_ne c1 hm 16 rfl rfl (fun h13 => ?_) (fun h13 => ?_)
 ·
  refine jx_load c1 hm rfl rfl rfl rfl ?_
  obtain ⟨z14, k15, lz14, uz14⟩ := hH10.ld (c := 1) (i := 6) (A := 0) (B := 4) (bs_19_4 _ _ (by omega) (by omega))
  refine jx_geti c1 hm rfl sh_1 rfl k15 ?_
  refine jz_eq c1 hm 35 rfl rfl (fun h16 => ?_) (fun h16 => ?_)
  ·
   refine jy_ic c1 hm rfl (by decide) ?_
   refine jx_goto c1 hm 40 rfl rfl ?_
   exact jx_retz c2 hm rfl rfl ⟨by omega, by omega⟩ ⟨_, rfl, hH10, hF10, by omega, by omega, (fun t σ hσ => WhlC.ok (p8 t σ (CQ.cg hσ (fun j => (hR3 2 j rfl)) (fun i hi => (hR3 1 i rfl)) ((p1 1 8 rfl)) (fun j => (hR3 6 j rfl)) (fun k => (p1 7 k rfl)))) (by omega) (by omega) (by omega) (by omega)), (((LFr.rf _ _).tr p1 (by decide +kernel)).tr p9 (by decide +kernel))⟩
  refine jx_load c1 hm rfl rfl rfl rfl ?_
  refine jy_ic c1 hm rfl (by decide) ?_
  refine jx_load c1 hm rfl rfl rfl rfl ?_
  obtain ⟨z17, k18, lz17, uz17⟩ := hH10.ld (c := 1) (i := 5) (A := 0) (B := 940) (bs_19_3 _ _ (by omega) (by omega))
  refine jx_geti c1 hm rfl sh_1 rfl k18 ?_
  refine jv_i c3 hm rfl pj_X10_fails rfl rfl ⟨_, _, _, rfl, sh_1⟩ rfl ((ct_X10_fails_1p X (by omega) M10 hH10 1 ⟨by omega, by omega⟩ z17 ⟨by omega, by omega⟩).le (by decide)) (fun z19 M25 ⟨hH25, hR25, lz19, uz19, p20, p21, p22, p23, p24⟩ => ?_)
  have hF25 := hF10.tr hR25 (by decide +kernel)
  obtain ⟨z26, k27, lz26, uz26⟩ := hH25.ld (c := 1) (i := 12) (A := 0) (B := 4) (bs_19_8 _ _ (by omega) (by omega))
  obtain ⟨z28, k29, lz28, uz28⟩ := hH25.ld (c := 1) (i := 13) (A := 0) (B := 940) (bs_19_9 _ _ (by omega) (by omega))
  refine jz_eq c1 hm 39 rfl rfl (fun h30 => ?_) (fun h30 => ?_)
  ·
   refine jy_ic c1 hm rfl (by decide) ?_
   exact jx_retz c2 hm rfl rfl ⟨by omega, by omega⟩ ⟨_, rfl, hH25, hF25, by omega, by omega, (fun t σ hσ => WhlC.bad (p8 t σ (CQ.cg hσ (fun j => (hR3 2 j rfl)) (fun i hi => (hR3 1 i rfl)) ((p1 1 8 rfl)) (fun j => (hR3 6 j rfl)) (fun k => (p1 7 k rfl)))) (by omega) (by omega) (by omega) (by omega) (by omega) (by omega)), ((((LFr.rf _ _).tr p1 (by decide +kernel)).tr p9 (by decide +kernel)).tr p24 (by decide +kernel))⟩
  exfalso; omega
 refine jy_ic c1 hm rfl (by decide) ?_
 exact jx_retz c2 hm rfl rfl ⟨by omega, by omega⟩ ⟨_, rfl, hH10, hF10, by omega, by omega, (fun t σ hσ => WhlC.no (p8 t σ (CQ.cg hσ (fun j => (hR3 2 j rfl)) (fun i hi => (hR3 1 i rfl)) ((p1 1 8 rfl)) (fun j => (hR3 6 j rfl)) (fun k => (p1 7 k rfl)))) (by omega) (by omega) (by omega)), (((LFr.rf _ _).tr p1 (by decide +kernel)).tr p9 (by decide +kernel))⟩
def md_X7_takeAll_20_42q : List (Nat × (Nat × Nat)) := [(20, (2, 2)), (20, (3, 3)), (21, (0, 39))]
theorem ct_X7_takeAll_20_42q (X : Int) (hX : 0 ≤ X ∧ X ≤ 100000000) (M0 : JM) (hH0 : HI X M0)  : JOk shp PJ 2 260 [.inr (.inr (.inl 20)), .inr (.inr (.inl 42))] M0 (jRv (fun M' => HI X M' ∧ Fr md_X7_takeAll_20_42q M0 M' ∧ (M'.1 20 3 = M0.1 42 3))) := by
 refine ⟨jr_X7_takeAll, pj_X7_takeAll, fun F c1 c2 c3 => ?_⟩
 have hm := pj_X7_takeAll
 change F 0 [some (.inr (.inr (.inl 20))), some (.inr (.inr (.inl 42)))] [] M0
 have hF0 : Fr md_X7_takeAll_20_42q M0 M0 := Fr.rf _ _
 obtain ⟨z1, k2, lz1, uz1⟩ := hH0.ld (c := 42) (i := 3) (A := 0) (B := 20) (bs_21_2 _ _ (by omega) (by omega))
 refine jx_load c1 hm rfl rfl rfl rfl ?_
 refine jx_getr c1 hm rfl sh_42 rfl ?_
 refine jx_load c1 hm rfl rfl rfl rfl ?_
 refine jx_getr c1 hm rfl sh_20 rfl ?_
 refine jt_v c3 hm rfl rfl pj_X11_copyRow rfl rfl rfl ((ct_X11_copyRow_43_21 X (by omega) M0 hH0 ).le (by decide)) (fun M3 ⟨hH3, hR3⟩ => ?_)
 have hF3 := hF0.tr hR3 (by decide +kernel)
 refine jx_load c1 hm rfl rfl rfl rfl ?_
 refine jx_load c1 hm rfl rfl rfl rfl ?_
 obtain ⟨z4, k5, lz4, uz4⟩ := hH3.ld (c := 42) (i := 2) (A := 0) (B := 40) (bs_21_1 _ _ (by omega) (by omega))
 refine jx_geti c1 hm rfl sh_42 rfl k5 ?_
 obtain ⟨M6, e6, hH6, hF6, k6, n6, q6⟩ := mup hH3 hF3 (c := 20) (i := 2) (v := z4) (A := 0) (B := 40) (bs_21_1 _ _ (by omega) (by omega)) ⟨by omega, by omega⟩ (jin_of 0 rfl ⟨by omega, by omega⟩)
 refine jm_puti c1 hm rfl sh_20 rfl e6 ?_
 refine jx_load c1 hm rfl rfl rfl rfl ?_
 refine jx_load c1 hm rfl rfl rfl rfl ?_
 have k7 : M6.1 42 3 = z1 := (n6 42 3 (fun h => absurd h.1 (by decide))).trans ((hR3 42 3 (by decide +kernel)).trans k2)
 refine jx_geti c1 hm rfl sh_42 rfl k7 ?_
 obtain ⟨M8, e8, hH8, hF8, k8, n8, q8⟩ := mup hH6 hF6 (c := 20) (i := 3) (v := z1) (A := 0) (B := 20) (bs_21_2 _ _ (by omega) (by omega)) ⟨by omega, by omega⟩ (jin_of 1 rfl ⟨by omega, by omega⟩)
 refine jm_puti c1 hm rfl sh_20 rfl e8 ?_
 have k9 : M8.1 42 3 = z1 := (n8 42 3 (fun h => absurd h.1 (by decide))).trans k7
 exact jx_retv c2 hm rfl rfl ⟨rfl, hH8, hF8, (by omega)⟩
def md_X11_sentence_0q : List (Nat × (Nat × Nat)) := [(0, (2, 2)), (0, (3, 3)), (1, (2, 2)), (1, (3, 3)), (1, (4, 4)), (1, (5, 5)), (1, (6, 6)), (1, (7, 7)), (1, (9, 9)), (1, (11, 11)), (1, (12, 12)), (1, (13, 13)), (20, (2, 2)), (20, (3, 3)), (21, (0, 39)), (42, (2, 2)), (42, (3, 3)), (43, (0, 39))]
theorem ct_X11_sentence_0q (X : Int) (hX : 0 ≤ X ∧ X ≤ 100000000) (M0 : JM) (hH0 : HI X M0)  : JOk shp PJ 26 64 [.inr (.inr (.inl 0))] M0 (jRi (fun v M' => HI X M' ∧ Fr md_X11_sentence_0q M0 M' ∧ (-941) ≤ v ∧ v ≤ 20 ∧ (∀ σ : PSt, HC M0 5 σ → PIn σ → SenC (uC M0) (M0.1 0 2) σ v (M'.1 0 3)) ∧ (M'.1 0 2 = 0))) := by
 refine ⟨jr_X11_sentence, pj_X11_sentence, fun F c1 c2 c3 => ?_⟩
 have hm := pj_X11_sentence
 change F 0 [some (.inr (.inr (.inl 0))), none] [] M0
 have hF0 : Fr md_X11_sentence_0q M0 M0 := Fr.rf _ _
 obtain ⟨z1, k2, lz1, uz1⟩ := hH0.ld (c := 0) (i := 2) (A := 0) (B := 940) (bs_18_1 _ _ (by omega) (by omega))
 refine jx_load c1 hm rfl rfl rfl rfl ?_
 refine jy_sp c1 hm rfl (by decide) ?_
 refine jv_v c3 hm rfl pj_X11_startTokens rfl rfl ⟨_, _, _, rfl, sh_0⟩ rfl (((ct_X11_startTokens_0p X (by omega) M0 hH0 200 ⟨by omega, by omega⟩).lkv (by decide +kernel) rfl).le (by decide)) (fun M5 ⟨⟨hH5, hR5, p3, p4⟩, hL5⟩ => ?_)
 have hF5 := hF0.tr hR5 (by decide +kernel)
 obtain ⟨z6, k7, lz6, uz6⟩ := hH5.ld (c := 1) (i := 12) (A := 0) (B := 4) (bs_19_8 _ _ (by omega) (by omega))
 obtain ⟨z8, k9, lz8, uz8⟩ := hH5.ld (c := 0) (i := 2) (A := 0) (B := 940) (bs_18_1 _ _ (by omega) (by omega))
 refine jx_load c1 hm rfl rfl rfl rfl ?_
 refine jx_getr c1 hm rfl sh_0 rfl ?_
 refine jx_getr c1 hm rfl sh_27 rfl ?_
 refine jx_load c1 hm rfl rfl rfl rfl ?_
 refine jx_getr c1 hm rfl sh_0 rfl ?_
 refine jx_load c1 hm rfl rfl rfl rfl ?_
 refine jx_getr c1 hm rfl sh_0 rfl ?_
 refine jv_i c3 hm rfl pj_X7_readWhole rfl rfl ⟨_, _, _, rfl, sh_42⟩ rfl (((ct_X7_readWhole_42_1_5q X (by omega) M5 hH5 ).lki (by decide +kernel) rfl).le (by decide)) (fun z10 M13 ⟨⟨hH13, hR13, lz10, uz10, p11, p12⟩, hL13⟩ => ?_)
 have hF13 := hF5.tr hR13 (by decide +kernel)
 refine jx_stor c1 hm (L' := [some (.inr (.inr (.inl 0))), some (.inl z10)]) rfl rfl rfl rfl rfl ?_
 refine jx_load c1 hm rfl rfl rfl rfl ?_
 refine jx_load c1 hm rfl rfl rfl rfl ?_
 refine jx_getr c1 hm rfl sh_0 rfl ?_
 obtain ⟨z14, k15, lz14, uz14⟩ := hH13.ld (c := 1) (i := 12) (A := 0) (B := 4) (bs_19_8 _ _ (by omega) (by omega))
 refine jx_geti c1 hm rfl sh_1 rfl k15 ?_
 obtain ⟨M16, e16, hH16, hF16, k16, n16, q16⟩ := mup hH13 hF13 (c := 0) (i := 3) (v := z14) (A := (-2147483648)) (B := 2147483647) (bs_18_2 _ _ (by omega) (by omega)) ⟨by omega, by omega⟩ (jin_of 1 rfl ⟨by omega, by omega⟩)
 refine jm_puti c1 hm rfl sh_0 rfl e16 ?_
 refine jx_load c1 hm rfl rfl rfl rfl ?_
 refine jz_ne c1 hm 51 rfl rfl (fun h17 => ?_) (fun h17 => ?_)
 ·
  refine jx_load c1 hm rfl rfl rfl rfl ?_
  refine jx_getr c1 hm rfl sh_0 rfl ?_
  refine jx_getr c1 hm rfl sh_5 rfl ?_
  refine jx_load c1 hm rfl rfl rfl rfl ?_
  refine jx_getr c1 hm rfl sh_0 rfl ?_
  refine jx_getr c1 hm rfl sh_27 rfl ?_
  obtain ⟨z18, k19, lz18, uz18⟩ := hH16.ld (c := 42) (i := 3) (A := 0) (B := 20) (bs_21_2 _ _ (by omega) (by omega))
  refine jv_v c3 hm rfl pj_X7_takeAll rfl rfl ⟨_, _, _, rfl, sh_20⟩ rfl (((ct_X7_takeAll_20_42q X (by omega) M16 hH16 ).lkv (by decide +kernel) rfl).le (by decide)) (fun M21 ⟨⟨hH21, hR21, p20⟩, hL21⟩ => ?_)
  have hF21 := hF16.tr hR21 (by decide +kernel)
  obtain ⟨z22, k23, lz22, uz22⟩ := hH21.ld (c := 20) (i := 3) (A := 0) (B := 20) (bs_21_2 _ _ (by omega) (by omega))
  refine jx_load c1 hm rfl rfl rfl rfl ?_
  refine jx_getr c1 hm rfl sh_0 rfl ?_
  refine jx_getr c1 hm rfl sh_5 rfl ?_
  refine jx_geti c1 hm rfl sh_20 rfl k23 ?_
  have k24 : M21.1 0 2 = z8 := (hR21 0 2 (by decide +kernel)).trans ((n16 0 2 (by decide)).trans ((hR13 0 2 (by decide +kernel)).trans k9))
  have k25 : M21.1 0 3 = z14 := (hR21 0 3 (by decide +kernel)).trans k16
  exact jx_reti c2 hm rfl rfl ⟨_, rfl, hH21, hF21, by omega, by omega, (fun σ hσ hp9 => SenC.ok (p11 _ _ (CQ.zero p3.1 p3.2 ⟨by omega, by omega⟩ hσ hp9 (fun j => hR5 6 j rfl) (fun k => hL5 7 k (by decide +kernel)))) (by omega) (by have y9 := (n16 42 3 (fun h => absurd h.1 (by decide))); omega) (by omega)), (by omega)⟩
 refine jy_ic c1 hm rfl (by decide) ?_
 refine jx_load c1 hm rfl rfl rfl rfl ?_
 refine jx_getr c1 hm rfl sh_0 rfl ?_
 obtain ⟨z26, k27, lz26, uz26⟩ := hH16.ld (c := 1) (i := 13) (A := 0) (B := 940) (bs_19_9 _ _ (by omega) (by omega))
 refine jx_geti c1 hm rfl sh_1 rfl k27 ?_
 refine jy_sub c1 hm (-z26 - 1) rfl (by omega) ?_
 have k28 : M16.1 0 2 = z8 := (n16 0 2 (by decide)).trans ((hR13 0 2 (by decide +kernel)).trans k9)
 exact jx_reti c2 hm rfl rfl ⟨_, rfl, hH16, hF16, by omega, by omega, (fun σ hσ hp9 => SenC.bad (p11 _ _ (CQ.zero p3.1 p3.2 ⟨by omega, by omega⟩ hσ hp9 (fun j => hR5 6 j rfl) (fun k => hL5 7 k (by decide +kernel)))) (by omega) (by have y9 := (n16 1 13 (fun h => absurd h.1 (by decide))); omega) (by omega)), (by omega)⟩
