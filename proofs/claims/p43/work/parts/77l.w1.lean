/-! What wears and mends say, and how many there are of each sort, once a text is read. -/
abbrev FV : Type := Int × (Int × (Int × (Int × Int)))
def lineW (t : TXT) (σ : PSt) (wm : Int × Int) : Int × Int := if kK t σ = 2 ∧ keyS (kV t σ) = 5 then (kV t (goS t σ), wm.2) else if kK t σ = 2 ∧ keyS (kV t σ) = 6 then (wm.1, kV t (goS t σ)) else wm
def endW (σ : PSt) (wm : Int × Int) : FV := (σ.2.1 0, (σ.2.1 1, (σ.2.1 2, (wm.1, wm.2))))
def allW (t : TXT) : Nat → PSt → Int × Int → FV
  | 0, σ, wm => endW σ wm
  | Nat.succ k, σ, wm => if kK t σ = 0 then endW σ wm else if (oneS t σ).1 < 0 then allW t k (oneS t σ).2 (lineW t σ wm) else endW σ wm
def fiS (u : Nat → Int) (n : Int) : FV := allW (u, (n, 900)) 1000 st0 (1, 1)
/-- a Duchy's five numbers: of the class, of the reference -/
def dq (M : JM) (d : Nat) : FV := (M.1 (d + 1) 0, (M.1 (d + 1) 1, (M.1 (d + 1) 2, (M.1 d 6, M.1 d 7))))
def nq (M : JM) (c o : Nat) : FV := (M.1 c (o + 0), (M.1 c (o + 1), (M.1 c (o + 2), (M.1 c (o + 3), M.1 c (o + 4)))))
theorem fv_eq {a b c d e a' b' c' d' e' : Int} (h1 : a = a') (h2 : b = b') (h3 : c = c') (h4 : d = d') (h5 : e = e') : ((a, (b, (c, (d, e)))) : FV) = (a', (b', (c', (d', e')))) := by
  subst h1 h2 h3 h4 h5
  rfl
theorem dq_cg {M M' : JM} {d : Nat} (h : ∀ j, M'.1 (d + 1) j = M.1 (d + 1) j) (h6 : M'.1 d 6 = M.1 d 6) (h7 : M'.1 d 7 = M.1 d 7) : dq M' d = dq M d := fv_eq (h 0) (h 1) (h 2) h6 h7
theorem dq_cp {M M' : JM} {d e : Nat} (h : ∀ j : Nat, (j : Int) < 3 → M'.1 (d + 1) j = M.1 (e + 1) j) (h6 : M'.1 d 6 = M.1 e 6) (h7 : M'.1 d 7 = M.1 e 7) : dq M' d = dq M e := fv_eq (h 0 (by decide)) (h 1 (by decide)) (h 2 (by decide)) h6 h7
theorem nq_cp {M M' : JM} {c c' o o' : Nat} (h : ∀ j : Nat, j < 5 → M'.1 c (o + j) = M.1 c' (o' + j)) : nq M' c o = nq M c' o' := fv_eq (h 0 (by decide)) (h 1 (by decide)) (h 2 (by decide)) (h 3 (by decide)) (h 4 (by decide))
theorem cp_at {M M' : JM} {c1 c2 : Nat} {n : Int} (e : (jcp M.1 c1 c2 n, M.2) = M') {j : Nat} (hj : (j : Int) < n) : M'.1 c2 j = M.1 c1 j := by
  rw [← e]
  show jcp M.1 c1 c2 n c2 j = _
  unfold jcp
  rw [if_pos rfl, if_pos hj]
theorem jin_lo {md : List (Nat × (Nat × Nat))} {c b i : Nat} (h : md.all (fun q => !Nat.beq q.1 c || Nat.ble b q.2.1) = true) (hb : i < b) : jin md c i = false := by
  unfold jin
  rw [List.any_eq_false]
  intro q hq hc
  have h1 := List.all_eq_true.mp h q hq
  simp only [Bool.and_eq_true] at hc
  rw [hc.1] at h1
  have h2 : Nat.ble b q.2.1 = true := by simpa using h1
  have h3 := Nat.le_of_ble_eq_true h2
  have h4 := Nat.le_of_ble_eq_true hc.2.1
  omega
def wdf (x : Int) : Int := if x = -1 then 1 else x
def CWv (M : JM) (wm : Int × Int) : Prop := wdf (M.1 27 6) = wm.1 ∧ wdf (M.1 27 7) = wm.2
def RWv (M : JM) (wm : Int × Int) : Prop := M.1 176 3 = wm.1 ∧ M.1 176 4 = wm.2
section WMS
variable {t : TXT} {σ : PSt} {M M0 M1 M' : JM} {wm : Int × Int} {n i v k : Int}
theorem allW_st {k : Nat} (hk : kK t σ ≠ 0) (h1 : (oneS t σ).1 < 0) : allW t (k + 1) σ wm = allW t k (oneS t σ).2 (lineW t σ wm) := by
  show (if kK t σ = 0 then _ else if (oneS t σ).1 < 0 then _ else _) = _
  rw [if_neg hk, if_pos h1]
theorem allW_0 {k : Nat} (hk : kK t σ = 0) : allW t (k + 1) σ wm = endW σ wm := if_pos hk
theorem CWv.cg (h : CWv M wm) (e6 : M'.1 27 6 = M.1 27 6) (e7 : M'.1 27 7 = M.1 27 7) : CWv M' wm := by
  unfold CWv
  rw [e6, e7]
  exact h
theorem CS.keyd (h : CS M t σ) (hk : M.1 1 7 = k) (h0 : 0 ≤ k) : kK t σ = 2 ∧ keyS (kV t σ) = k := by
  have h1 : M.1 1 7 = (if kK t σ = 2 then keyS (kV t σ) else -1) := h.1.2.2.2.2.2.1
  rw [hk] at h1
  by_cases c : kK t σ = 2
  · rw [if_pos c] at h1
    exact ⟨c, h1.symm⟩
  · rw [if_neg c] at h1
    omega
theorem lw_o (h : CS M t σ) (h5 : M.1 1 7 ≠ 5) (h6 : M.1 1 7 ≠ 6) : lineW t σ wm = wm := by
  have hk : M.1 1 7 = (if kK t σ = 2 then keyS (kV t σ) else -1) := h.1.2.2.2.2.2.1
  unfold lineW
  rw [if_neg (fun e => h5 (by rw [hk, if_pos e.1, e.2])), if_neg (fun e => h6 (by rw [hk, if_pos e.1, e.2]))]
theorem CWv.o (h : CWv M0 wm) (hσ : CS M0 t σ) (h5 : M0.1 1 7 ≠ 5) (h6 : M0.1 1 7 ≠ 6) (e6 : M'.1 27 6 = M0.1 27 6) (e7 : M'.1 27 7 = M0.1 27 7) : CWv M' (lineW t σ wm) := by
  rw [lw_o hσ h5 h6]
  exact h.cg e6 e7
theorem CWv.w5 (h : CWv M0 wm) (hσ : CS M0 t σ) (h5 : M0.1 1 7 = 5) (e : M'.1 27 6 = kV t (goS t σ) ∧ 0 ≤ M'.1 27 6) (e7 : M'.1 27 7 = M0.1 27 7) : CWv M' (lineW t σ wm) := by
  have hk := hσ.keyd h5 (by decide)
  unfold lineW
  rw [if_pos hk]
  refine ⟨?_, ?_⟩
  · show wdf (M'.1 27 6) = kV t (goS t σ)
    unfold wdf
    rw [if_neg (by omega)]
    exact e.1
  · show wdf (M'.1 27 7) = wm.2
    rw [e7]
    exact h.2
theorem CWv.w6 (h : CWv M0 wm) (hσ : CS M0 t σ) (h5 : M0.1 1 7 = 6) (e : M'.1 27 7 = kV t (goS t σ) ∧ 0 ≤ M'.1 27 7) (e7 : M'.1 27 6 = M0.1 27 6) : CWv M' (lineW t σ wm) := by
  have hk := hσ.keyd h5 (by decide)
  unfold lineW
  rw [if_neg (fun q => by have := q.2; omega), if_pos hk]
  refine ⟨?_, ?_⟩
  · show wdf (M'.1 27 6) = wm.1
    rw [e7]
    exact h.1
  · show wdf (M'.1 27 7) = kV t (goS t σ)
    unfold wdf
    rw [if_neg (by omega)]
    exact e.1
def RLW (t : TXT) (M : JM) (i : Int) : Prop := M.1 1 12 = 0 → ∃ (σ : PSt) (wm : Int × Int), CS M t σ ∧ CWv M wm ∧ 2 * i ≤ σ.1 ∧ allW t 1000 st0 (1, 1) = allW t (1000 - i).toNat σ wm
theorem RLW.start (hc : CTk M t 0) (h12 : M.1 1 12 = 0) (hd : DR M st0) (hp : PI t st0) : RLW t M 0 := fun _ => by
  have h6 : M.1 27 6 = -1 := hd.2.2.2.2.1.mpr rfl
  have h7 : M.1 27 7 = -1 := hd.2.2.2.2.2.mpr rfl
  exact ⟨st0, (1, 1), ⟨hc, h12, hd, hp⟩, ⟨by rw [h6]; rfl, by rw [h7]; rfl⟩, by show 2 * 0 ≤ (0 : Int); decide, rfl⟩
theorem RLW.no (h12 : M'.1 1 12 ≠ 0) : RLW t M' i := fun e => absurd e h12
theorem LRc.flt {r : RES} (h : LRc t r 0 M) : M.1 1 12 ≠ 0 := by
  rcases h with ⟨_, h2, _⟩ | ⟨_, _, h3, _⟩
  · omega
  · exact h3
theorem RLW.nol (h : RLW t M i) (h12 : M.1 1 12 = 0) (hl : ∀ σ : PSt, CS M t σ → LRc t (oneS t σ) 0 M') : RLW t M' (i + 1) := by
  obtain ⟨σ, wm, h1, _⟩ := h h12
  exact RLW.no (hl σ h1).flt
theorem RLW.go (h : RLW t M i) (h12 : M.1 1 12 = 0) (hi : 0 ≤ i) (h6 : M.1 1 6 ≠ 0) (hl : ∀ σ : PSt, CS M t σ → LRc t (oneS t σ) 1 M') (hw : ∀ (σ : PSt) (wm : Int × Int), CS M t σ → CWv M wm → CWv M' (lineW t σ wm)) : RLW t M' (i + 1) := by
  intro _
  obtain ⟨σ, wm, h1, h2, h3, h4⟩ := h h12
  have hk : kK t σ ≠ 0 := fun e => h6 (h1.kind.1.mpr e)
  obtain ⟨b1, b2⟩ := (hl σ h1).ok (by decide)
  have hm := one_mo h1.2.2.2.2.2.1.2 h1.2.2.2.1 b1
  have hb1 := h1.2.2.2.2.1
  have hb2 := h1.2.2.2.2.2.1.1
  exact ⟨_, _, b2, hw σ wm h1 h2, by omega, by rw [h4, show (1000 - i).toNat = (999 - i).toNat + 1 by omega, allW_st hk b1, show (1000 - (i + 1)).toNat = (999 - i).toNat by omega]⟩
theorem RLW.fin (h : RLW t M i) (hi : 0 ≤ i) (hc : 900 ≤ i ∨ M.1 1 12 ≠ 0 ∨ M.1 1 6 = 0) (f12 : M'.1 1 12 = M.1 1 12) (f : ∀ s, M'.1 28 s = M.1 28 s) (e6 : M'.1 27 6 = wdf (M.1 27 6)) (e7 : M'.1 27 7 = wdf (M.1 27 7)) : M'.1 1 12 = 0 → dq M' 27 = allW t 1000 st0 (1, 1) := by
  rw [f12]
  intro h12
  obtain ⟨σ, wm, h1, h2, h3, h4⟩ := h h12
  have hb1 := h1.2.2.2.2.1
  have hb2 := h1.2.2.2.2.2.1.1
  have h6 : M.1 1 6 = 0 := by
    rcases hc with e | e | e
    · omega
    · exact absurd h12 e
    · exact e
  have hk := h1.kind.1.mp h6
  rw [h4, show (1000 - i).toNat = (999 - i).toNat + 1 by omega, allW_0 hk]
  obtain ⟨d1, _⟩ := h1.2.2.1
  exact fv_eq ((f 0).trans (d1 0 (by decide))) ((f 1).trans (d1 1 (by decide))) ((f 2).trans (d1 2 (by decide))) (e6.trans h2.1) (e7.trans h2.2)
/-! The reference's. -/
theorem RWv.kk (h : RWv M0 wm) (hσ : RS M0 t σ) (w : WD M0 k) (hk : 0 ≤ k ∧ k < 5) (e3 : M'.1 176 3 = M0.1 176 3) (e4 : M'.1 176 4 = M0.1 176 4) : RWv M' (lineW t σ wm) := by
  have hy := (w.y hσ (by omega)).2
  unfold lineW
  rw [if_neg (fun e => by have := e.2; omega), if_neg (fun e => by have := e.2; omega)]
  exact ⟨e3.trans h.1, e4.trans h.2⟩
theorem RWv.w5 (h : RWv M0 wm) (hσ : RS M0 t σ) (w : WD M0 5) (e3 : M'.1 176 3 = kV t (goS t σ)) (e4 : M'.1 176 4 = M0.1 176 4) : RWv M' (lineW t σ wm) := by
  unfold lineW
  rw [if_pos (w.y hσ (by decide))]
  exact ⟨e3, e4.trans h.2⟩
theorem RWv.w6 (h : RWv M0 wm) (hσ : RS M0 t σ) (w : WD M0 6) (e3 : M'.1 176 3 = M0.1 176 3) (e4 : M'.1 176 4 = kV t (goS t σ)) : RWv M' (lineW t σ wm) := by
  have hy := (w.y hσ (by decide)).2
  unfold lineW
  rw [if_neg (fun e => by have := e.2; omega), if_pos (w.y hσ (by decide))]
  exact ⟨e3.trans h.1, e4⟩
theorem kV_fl {j : Nat} : kV t (goS t (setS j σ).2) = kV t (goS t σ) := rfl
theorem RWv.cg (h : RWv M wm) (e3 : M'.1 176 3 = M.1 176 3) (e4 : M'.1 176 4 = M.1 176 4) : RWv M' wm := ⟨e3.trans h.1, e4.trans h.2⟩
def RLrW (t : TXT) (M : JM) (n : Int) : Prop := 0 ≤ n ∧ ∃ (σ : PSt) (wm : Int × Int), RS M t σ ∧ RWv M wm ∧ 2 * n ≤ σ.1 ∧ allW t 1000 st0 (1, 1) = allW t (1000 - n).toNat σ wm
theorem RLrW.start (hc : RTk M t 0) (hz : RZ M 36) (h24 : M.1 173 24 = 0) (h25 : M.1 173 25 = 0) (hn : 0 ≤ t.2.1 ∧ t.2.1 ≤ 940) (hm : 0 ≤ t.2.2) (h3 : M.1 176 3 = 1) (h4 : M.1 176 4 = 1) : RLrW t M 0 := by
  refine ⟨Int.le_refl _, st0, (1, 1), ⟨hc, ⟨fun s hs => hz.1 s hs, fun k h1 h2 => ?_, fun p hp => ⟨fun _ => rfl, fun _ => hz.2.2 p (by omega)⟩, fun p hp => ⟨by rw [hz.2.1 p hp]; exact Int.le_refl _, ⟨fun _ => rfl, fun _ => hz.2.1 p hp⟩⟩, ⟨fun _ => rfl, fun _ => h24⟩, ⟨fun _ => rfl, fun _ => h25⟩⟩, PI.zero hn hm⟩, ⟨h3, h4⟩, by show 2 * 0 ≤ (0 : Int); decide, rfl⟩
  have h2 : ((k % 6 : Nat) : Int) < 0 := h2
  omega
theorem RLrW.go (h : RLrW t M n) (h7 : M.1 173 7 ≠ 0) (hl : ∀ σ : PSt, RS M t σ → LRr t (oneS t σ) 1 M') (hw : ∀ (σ : PSt) (wm : Int × Int), RS M t σ → RWv M wm → RWv M' (lineW t σ wm)) : RLrW t M' (n + 1) := by
  obtain ⟨h0, σ, wm, h1, h2, h3, h4⟩ := h
  have hk : kK t σ ≠ 0 := fun e => h7 (h1.kind.trans e)
  obtain ⟨b1, b2⟩ := (hl σ h1).ok (by decide)
  have hm := one_mo h1.2.2.2.2.1.2 h1.2.2.1 b1
  have hb1 := h1.2.2.2.1
  have hb2 := h1.2.2.2.2.1.1
  exact ⟨by omega, _, _, b2, hw σ wm h1 h2, by omega, by rw [h4, show (1000 - n).toNat = (999 - n).toNat + 1 by omega, allW_st hk b1, show (1000 - (n + 1)).toNat = (999 - n).toNat by omega]⟩
theorem RLrW.fin (h : RLrW t M n) (h7 : M.1 173 7 = 0) : nq M 176 0 = allW t 1000 st0 (1, 1) := by
  obtain ⟨h0, σ, wm, h1, h2, h3, h4⟩ := h
  have hb1 := h1.2.2.2.1
  have hb2 := h1.2.2.2.2.1.1
  rw [h4, show (1000 - n).toNat = (999 - n).toNat + 1 by omega, allW_0 (h1.kind.symm.trans h7)]
  obtain ⟨d1, _⟩ := h1.2.1
  exact fv_eq (d1 0 (by decide)) (d1 1 (by decide)) (d1 2 (by decide)) h2.1 h2.2
end WMS
/-! Images of the five numbers; what count() answers. -/
def imP (c : Nat) (a : Int) (M M' : JM) : Prop := ∀ j : Nat, j < 2 → M'.1 c j = if (j : Int) = a then 1 else M.1 c j
theorem imP.no {c : Nat} {a : Int} {M M' : JM} (h : ∀ j : Nat, M'.1 c j = M.1 c j) (ha : a < 0 ∨ 1 < a) : imP c a M M' := fun j hj => by
  rw [if_neg (by omega)]
  exact h j
theorem imP.st {c : Nat} {a : Int} {M Mx M' : JM} (k : M'.1 c a.toNat = 1) (n : ∀ c' j, ¬ (c' = c ∧ j = a.toNat) → M'.1 c' j = Mx.1 c' j) (e : ∀ j : Nat, Mx.1 c j = M.1 c j) (ha : 0 ≤ a) : imP c a M M' := fun j hj => by
  by_cases h : (j : Int) = a
  · rw [if_pos h, show j = a.toNat by omega]
    exact k
  · rw [if_neg h]
    exact (n c j (by omega)).trans (e j)
def imR (c : Nat) (a : Int) (M : JM) : Int := if 0 ≤ a ∧ a ≤ 1 then M.1 c a.toNat else 0
def IMG (M : JM) : Prop := ∀ j : Nat, j < 2 → M.1 46 j = M.1 183 j
theorem IMG.cg {M M' : JM} (h : IMG M) (h1 : ∀ j : Nat, M'.1 46 j = M.1 46 j) (h2 : ∀ j : Nat, M'.1 183 j = M.1 183 j) : IMG M' := fun j hj => by rw [h1, h2]; exact h j hj
theorem IMG.im {M M1 M2 : JM} {a a2 : Int} (h : IMG M) (ea : a = a2) (p1 : imP 46 a M M1) (f1 : ∀ j : Nat, M1.1 183 j = M.1 183 j) (p2 : imP 183 a2 M1 M2) (f2 : ∀ j : Nat, M2.1 46 j = M1.1 46 j) : IMG M2 := fun j hj => by
  subst ea
  rw [f2, p1 j hj, p2 j hj, f1, h j hj]
theorem imR_eq {M M1 : JM} {a a2 z1 z2 : Int} (h : IMG M) (ea : a = a2) (e1 : z1 = imR 46 a M) (e2 : z2 = imR 183 a2 M1) (f : ∀ j : Nat, M1.1 183 j = M.1 183 j) : z1 = z2 := by
  subst ea
  rw [e1, e2]
  unfold imR
  by_cases hc : 0 ≤ a ∧ a ≤ 1
  · rw [if_pos hc, if_pos hc, f]
    exact h _ (by omega)
  · rw [if_neg hc, if_neg hc]
def IMC (a v : Int) (M M' : JM) : Prop := (dq M' 137 = if v = 1 ∧ a = 0 then dq M 5 else dq M 137) ∧ (dq M' 155 = if v = 1 ∧ a = 1 then dq M 5 else dq M 155)
def IMN (a v : Int) (M M' : JM) : Prop := (nq M' 177 0 = if v = 1 ∧ a = 0 then nq M 175 0 else nq M 177 0) ∧ (nq M' 177 476 = if v = 1 ∧ a = 1 then nq M 175 0 else nq M 177 476)
def RSC (a v : Int) (M M' : JM) : Prop := dq M' 5 = if v = 1 then (if a = 0 then dq M 137 else dq M 155) else dq M 5
def RSN (a v : Int) (M M' : JM) : Prop := nq M' 175 0 = if v = 1 then (if a = 0 then nq M 177 0 else nq M 177 476) else nq M 175 0
section IMS
variable {M M' M1 M2 : JM} {a v a2 v1 v2 : Int}
theorem IMC.no (hv : v = 0) (h1 : dq M' 137 = dq M 137) (h2 : dq M' 155 = dq M 155) : IMC a v M M' := by
  unfold IMC
  rw [if_neg (by omega), if_neg (by omega)]
  exact ⟨h1, h2⟩
theorem IMC.i0 (hv : v = 1) (ha : a = 0) (h1 : dq M' 137 = dq M 5) (h2 : dq M' 155 = dq M 155) : IMC a v M M' := by
  unfold IMC
  rw [if_pos ⟨hv, ha⟩, if_neg (by omega)]
  exact ⟨h1, h2⟩
theorem IMC.i1 (hv : v = 1) (ha : a = 1) (h1 : dq M' 155 = dq M 5) (h2 : dq M' 137 = dq M 137) : IMC a v M M' := by
  unfold IMC
  rw [if_neg (by omega), if_pos ⟨hv, ha⟩]
  exact ⟨h2, h1⟩
theorem RSC.no (hv : v = 0) (h : dq M' 5 = dq M 5) : RSC a v M M' := by
  unfold RSC
  rw [if_neg (by omega)]
  exact h
theorem RSC.i0 (hv : v = 1) (ha : a = 0) (h : dq M' 5 = dq M 137) : RSC a v M M' := by
  unfold RSC
  rw [if_pos hv, if_pos ha]
  exact h
theorem RSC.i1 (hv : v = 1) (ha : a = 1) (h : dq M' 5 = dq M 155) : RSC a v M M' := by
  unfold RSC
  rw [if_pos hv, if_neg (by omega)]
  exact h
theorem IMN.no (hv : v = 0) (h : ∀ j : Nat, M'.1 177 j = M.1 177 j) : IMN a v M M' := by
  unfold IMN
  rw [if_neg (by omega), if_neg (by omega)]
  exact ⟨nq_cp (fun j _ => h _), nq_cp (fun j _ => h _)⟩
theorem IMN.ok (hv : v = 1) (ha : 0 ≤ a ∧ a ≤ 1) (hI : ∀ j : Nat, j < 476 → M'.1 177 (476 * a.toNat + j) = M.1 175 j) (hO : ∀ j : Nat, j < 476 * a.toNat ∨ 476 * a.toNat + 476 ≤ j → M'.1 177 j = M.1 177 j) : IMN a v M M' := by
  unfold IMN
  rcases (show a = 0 ∨ a = 1 by omega) with h | h
  · subst h
    rw [if_pos ⟨hv, rfl⟩, if_neg (by omega)]
    refine ⟨nq_cp (fun j hj => ?_), nq_cp (fun j hj => hO _ (Or.inr (by show 476 * 0 + 476 ≤ 476 + j; omega)))⟩
    rw [Nat.zero_add]
    have h1 := hI j (by omega)
    rw [show 476 * (0 : Int).toNat + j = j by show 476 * 0 + j = j; omega] at h1
    exact h1
  · subst h
    rw [if_neg (by omega), if_pos ⟨hv, rfl⟩]
    refine ⟨nq_cp (fun j hj => hO _ (Or.inl (by show 0 + j < 476 * 1; omega))), nq_cp (fun j hj => ?_)⟩
    rw [Nat.zero_add]
    exact hI j (by omega)
theorem RSN.no (hv : v = 0) (h : ∀ j : Nat, M'.1 175 j = M.1 175 j) : RSN a v M M' := by
  unfold RSN
  rw [if_neg (by omega)]
  exact nq_cp (fun j _ => h _)
theorem RSN.ok (hv : v = 1) (ha : 0 ≤ a ∧ a ≤ 1) (hI : ∀ j : Nat, j < 476 → M'.1 175 j = M.1 177 (476 * a.toNat + j)) : RSN a v M M' := by
  unfold RSN
  rw [if_pos hv]
  rcases (show a = 0 ∨ a = 1 by omega) with h | h
  · subst h
    rw [if_pos rfl]
    refine nq_cp (fun j hj => ?_)
    rw [Nat.zero_add]
    have h1 := hI j (by omega)
    rw [show 476 * (0 : Int).toNat + j = j by show 476 * 0 + j = j; omega] at h1
    exact h1
  · subst h
    rw [if_neg (by decide)]
    refine nq_cp (fun j hj => ?_)
    rw [Nat.zero_add]
    exact hI j (by omega)
def ctS (a : Int) (r : FV) (n : Int) : Int := if a = 0 then r.1 else if a = 1 then r.2.1 else if a = 2 then r.2.2.1 else if a = 3 then r.2.2.2.1 else if a = 4 then r.2.2.2.2 else if a = 5 then n else -1
theorem ctS_0 {r : FV} {n : Int} (h : a = 0) : ctS a r n = r.1 := if_pos h
theorem ctS_1 {r : FV} {n : Int} (h : a = 1) : ctS a r n = r.2.1 := by subst h; rfl
theorem ctS_2 {r : FV} {n : Int} (h : a = 2) : ctS a r n = r.2.2.1 := by subst h; rfl
theorem ctS_3 {r : FV} {n : Int} (h : a = 3) : ctS a r n = r.2.2.2.1 := by subst h; rfl
theorem ctS_4 {r : FV} {n : Int} (h : a = 4) : ctS a r n = r.2.2.2.2 := by subst h; rfl
theorem ctS_5 {r : FV} {n : Int} (h : a = 5) : ctS a r n = n := by subst h; rfl
theorem ctS_6 {r : FV} {n : Int} (h : a < 0 ∨ 5 < a) : ctS a r n = -1 := by
  unfold ctS
  rw [if_neg (by omega), if_neg (by omega), if_neg (by omega), if_neg (by omega), if_neg (by omega), if_neg (by omega)]
end IMS
