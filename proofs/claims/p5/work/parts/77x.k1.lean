/-! Kinds of faults of a DUCHY's text: beside each reading the kind that it would have. -/
def numK (t : TXT) (σ : PSt) : Int := if kK t σ = 3 then 2 else 1
def nmK (t : TXT) (σ : PSt) : Int := if isNm t σ = true then 3 else 1
def sqK (f : PSt → RES) (k1 k2 : PSt → Int) (σ : PSt) : Int := if (f σ).1 < 0 then k2 (f σ).2 else k1 σ
def nameK (t : TXT) (s : Int) (g : Int → PSt → Int) (σ : PSt) : Int := if isNm t σ = true ∧ 0 ≤ fndS σ (kV t σ) ∧ fndS σ (kV t σ) / 6 = s then g (fndS σ (kV t σ) % 6) (goS t σ) else nmK t σ
def manK (t : TXT) : PSt → Int := sqK (firstS t 0) (fun _ => 4) (sqK (newS t 0) (nmK t) (numK t))
def forK (t : TXT) : PSt → Int := sqK (firstS t 1) (fun _ => 4) (sqK (newS t 1) (nmK t) (numK t))
def gooK (t : TXT) : PSt → Int := sqK (firstS t 2) (fun _ => 4) (sqK (newS t 2) (nmK t) (sqK (numS t 1 99) (numK t) (numK t)))
def minK (t : TXT) (σ : PSt) : Int := nameK t 0 (fun m σ2 => nameK t 1 (fun f σ3 => if σ3.2.2.2 (6 * m + f).toNat ≠ 0 then 3 else numK t σ3) σ2) (goS t σ)
def oweK (t : TXT) (σ : PSt) : Int := nameK t 0 (fun m σ2 => nameK t 0 (fun k σ3 => if m = k ∨ σ3.2.2.2 (36 + 6 * m + k).toNat ≠ 0 then 3 else numK t σ3) σ2) (goS t σ)
def wmK (t : TXT) (j : Nat) (σ : PSt) : Int := if σ.2.2.2 j ≠ 0 then 3 else numK t (goS t σ)
def lineK (t : TXT) (σ : PSt) : Int :=
  if kK t σ = 2 ∧ keyS (kV t σ) = 0 then manK t σ else if kK t σ = 2 ∧ keyS (kV t σ) = 1 then forK t σ else if kK t σ = 2 ∧ keyS (kV t σ) = 2 then minK t σ else
  if kK t σ = 2 ∧ keyS (kV t σ) = 3 then gooK t σ else if kK t σ = 2 ∧ keyS (kV t σ) = 4 then oweK t σ else if kK t σ = 2 ∧ keyS (kV t σ) = 5 then wmK t 72 σ else if kK t σ = 2 ∧ keyS (kV t σ) = 6 then wmK t 73 σ else 1
def oneK (t : TXT) : PSt → Int := sqK (lineS t) (lineK t) (fun _ => 1)
def allK (t : TXT) : Nat → PSt → Int
  | 0, _ => 0
  | Nat.succ k, σ => if kK t σ = 0 then 0 else if (oneS t σ).1 < 0 then allK t k (oneS t σ).2 else oneK t σ
/-- the kind that fault() tells behind a duchy() of this tape -/
def dkS (u : Nat → Int) (n : Int) : Int := allK (u, (n, 900)) 1000 st0
section KDS
variable {t : TXT} {σ : PSt} {M M0 M1 M' : JM} {k k' v v1 i n a : Int} {f : PSt → RES} {k1 k2 : PSt → Int}
theorem sqK_0 (h : 0 ≤ (f σ).1) : sqK f k1 k2 σ = k1 σ := if_neg (by omega)
theorem sqK_1 (h : (f σ).1 < 0) : sqK f k1 k2 σ = k2 (f σ).2 := if_pos h
theorem nmK_1 (h : ¬ isNm t σ = true) : nmK t σ = 1 := if_neg h
theorem nmK_3 (h : isNm t σ = true) : nmK t σ = 3 := if_pos h
theorem nameS_bad {s : Int} (h : nameS t s (fun _ y => okS y) σ = badS (kF t σ) σ) (h0 : 0 ≤ kF t σ) : ∀ g : Int → PSt → Int, nameK t s g σ = nmK t σ := by
  intro g
  unfold nameK
  refine if_neg (fun q => ?_)
  unfold nameS at h
  rw [if_pos q] at h
  have h1 : (-1 : Int) = kF t σ := congrArg Prod.fst h
  omega
theorem nameS_ok {s m : Int} (h : ∀ g : Int → PSt → RES, nameS t s g σ = g m (goS t σ)) : ∀ g : Int → PSt → Int, nameK t s g σ = g m (goS t σ) := by
  intro g
  have h1 := h (fun _ y => okS y)
  have h2 := h (fun m y => (m, y))
  unfold nameS at h1 h2
  unfold nameK
  by_cases q : isNm t σ = true ∧ 0 ≤ fndS σ (kV t σ) ∧ fndS σ (kV t σ) / 6 = s
  · rw [if_pos q] at h2 ⊢
    have h3 : fndS σ (kV t σ) % 6 = m := congrArg Prod.fst h2
    rw [h3]
  · exfalso
    rw [if_neg q] at h1 h2
    have h4 : kF t σ = (-1 : Int) := congrArg Prod.fst h1
    have h6 := h (fun _ y => ((0 : Int), y))
    unfold nameS at h6
    rw [if_neg q] at h6
    have h7 : kF t σ = (0 : Int) := congrArg Prod.fst h6
    omega
theorem lk_0 (h : kK t σ = 2 ∧ keyS (kV t σ) = 0) : lineK t σ = manK t σ := by
  unfold lineK
  rw [if_pos h]
theorem lk_1 (h : kK t σ = 2 ∧ keyS (kV t σ) = 1) : lineK t σ = forK t σ := by
  unfold lineK
  rw [if_neg (by omega), if_pos h]
theorem lk_2 (h : kK t σ = 2 ∧ keyS (kV t σ) = 2) : lineK t σ = minK t σ := by
  unfold lineK
  rw [if_neg (by omega), if_neg (by omega), if_pos h]
theorem lk_3 (h : kK t σ = 2 ∧ keyS (kV t σ) = 3) : lineK t σ = gooK t σ := by
  unfold lineK
  rw [if_neg (by omega), if_neg (by omega), if_neg (by omega), if_pos h]
theorem lk_4 (h : kK t σ = 2 ∧ keyS (kV t σ) = 4) : lineK t σ = oweK t σ := by
  unfold lineK
  rw [if_neg (by omega), if_neg (by omega), if_neg (by omega), if_neg (by omega), if_pos h]
theorem lk_5 (h : kK t σ = 2 ∧ keyS (kV t σ) = 5) : lineK t σ = wmK t 72 σ := by
  unfold lineK
  rw [if_neg (by omega), if_neg (by omega), if_neg (by omega), if_neg (by omega), if_neg (by omega), if_pos h]
theorem lk_6 (h : kK t σ = 2 ∧ keyS (kV t σ) = 6) : lineK t σ = wmK t 73 σ := by
  unfold lineK
  rw [if_neg (by omega), if_neg (by omega), if_neg (by omega), if_neg (by omega), if_neg (by omega), if_neg (by omega), if_pos h]
theorem lk_no (g : ∀ k : Int, 0 ≤ k → k ≤ 6 → ¬ (kK t σ = 2 ∧ keyS (kV t σ) = k)) : lineK t σ = 1 := by
  unfold lineK
  rw [if_neg (g 0 (by decide) (by decide)), if_neg (g 1 (by decide) (by decide)), if_neg (g 2 (by decide) (by decide)), if_neg (g 3 (by decide) (by decide)), if_neg (g 4 (by decide) (by decide)), if_neg (g 5 (by decide) (by decide)), if_neg (g 6 (by decide) (by decide))]
/-! The class. -/
def KCc (k v : Int) (M : JM) : Prop := v = 0 → M.1 1 12 = k
theorem KCc.y (hv : v ≠ 0) : KCc k v M := fun e => absurd e hv
theorem KCc.of (e : M.1 1 12 = k) : KCc k v M := fun _ => e
theorem KCc.eq (e : k = k') (h : KCc k' v M) : KCc k v M := e ▸ h
theorem KCc.vc (h : KCc k v1 M) (e : v1 = 0) : KCc k v M := fun _ => h e
theorem KCc.seqz (l : LRc t (f σ) v1 M) (p : KCc (k1 σ) v1 M) (hv1 : v1 = 0) : KCc (sqK f k1 k2 σ) v M := fun _ => by
  rw [sqK_0 (l.bad hv1).1]
  exact p hv1
theorem KCc.seqg (l : LRc t (f σ) v1 M1) (hv1 : v1 ≠ 0) (h : (f σ).1 < 0 → CS M1 t (f σ).2 → KCc (k2 (f σ).2) v M) : KCc (sqK f k1 k2 σ) v M := by
  have b := l.ok hv1
  intro e
  rw [sqK_1 b.1]
  exact h b.1 b.2 e
theorem NMP.kb {s : Int} (h : NMP t s (fun _ y => okS y) σ v M) (hv : v = 0) (g : Int → PSt → Int) : nameK t s g σ = nmK t σ := by
  rcases h with ⟨h1, _⟩ | ⟨_, h2, h3, _⟩
  · omega
  · exact nameS_bad h2 h3 g
theorem NMP.ko {s : Int} (h : ∀ g : Int → PSt → RES, NMP t s g σ v M) (hv : v ≠ 0) (g : Int → PSt → Int) : nameK t s g σ = g (M.1 1 11) (goS t σ) := nameS_ok (fun g => ((h g).ok hv).2.1) g
theorem wmk_3 {i : Nat} (hi : i = 6 ∨ i = 7) (h : CS M0 t σ) (hw : M0.1 27 i ≠ -1) : wmK t (66 + i) σ = 3 := by
  unfold wmK
  refine if_pos ?_
  rcases hi with rfl | rfl
  · exact fun e => hw (h.2.2.1.2.2.2.2.1.mpr e)
  · exact fun e => hw (h.2.2.1.2.2.2.2.2.mpr e)
theorem wmk_n {i : Nat} (hi : i = 6 ∨ i = 7) (h : CS M0 t σ) (hw : M0.1 27 i = -1) : wmK t (66 + i) σ = numK t (goS t σ) := by
  unfold wmK
  refine if_neg ?_
  rcases hi with rfl | rfl
  · exact fun e => e (h.2.2.1.2.2.2.2.1.mp hw)
  · exact fun e => e (h.2.2.1.2.2.2.2.2.mp hw)
theorem lck_no (h : CS M0 t σ) (hk : M0.1 1 7 < 0 ∨ 6 < M0.1 1 7) : lineK t σ = 1 := lk_no (fun k h1 h2 q => by
  have e := h.key
  rw [if_pos q.1, q.2] at e
  omega)
def RLk (t : TXT) (M : JM) (i : Int) : Prop := (M.1 1 12 = 0 ∧ ∃ σ : PSt, CS M t σ ∧ 2 * i ≤ σ.1 ∧ allK t 1000 st0 = allK t (1000 - i).toNat σ) ∨ (M.1 1 12 ≠ 0 ∧ allK t 1000 st0 = M.1 1 12)
theorem allK_st {k : Nat} (hk : kK t σ ≠ 0) : allK t (k + 1) σ = if (oneS t σ).1 < 0 then allK t k (oneS t σ).2 else oneK t σ := by
  show (if kK t σ = 0 then 0 else _) = _
  rw [if_neg hk]
theorem allK_0 {k : Nat} (hk : kK t σ = 0) : allK t (k + 1) σ = 0 := if_pos hk
theorem RLk.start (hc : CTk M t 0) (h12 : M.1 1 12 = 0) (hd : DR M st0) (hp : PI t st0) : RLk t M 0 := Or.inl ⟨h12, st0, ⟨hc, h12, hd, hp⟩, by show 2 * 0 ≤ (0 : Int); decide, rfl⟩
theorem RLk.bd (h : RLk t M i) (h12 : M.1 1 12 = 0) : i ≤ 470 := by
  rcases h with ⟨_, σ, h1, h2, _⟩ | ⟨h1, _⟩
  · have := h1.2.2.2.2.1
    have := h1.2.2.2.2.2.1.1
    omega
  · exact absurd h12 h1
theorem RLk.no (h : RLk t M i) (h12 : M.1 1 12 = 0) (hi : 0 ≤ i) (h6 : M.1 1 6 ≠ 0) (hl : ∀ σ : PSt, CS M t σ → LRc t (oneS t σ) 0 M') (hq : ∀ σ : PSt, CS M t σ → KCc (oneK t σ) 0 M') : RLk t M' (i + 1) := by
  have hb := h.bd h12
  rcases h with ⟨_, σ, h1, h2, h3⟩ | ⟨h1, _⟩
  · have hk : kK t σ ≠ 0 := fun e => h6 (h1.kind.1.mpr e)
    obtain ⟨b1, b2, b3⟩ := (hl σ h1).bad rfl
    refine Or.inr ⟨b2, ?_⟩
    rw [h3, show (1000 - i).toNat = (999 - i).toNat + 1 by omega, allK_st hk, if_neg (by omega), hq σ h1 rfl]
  · exact absurd h12 h1
theorem RLk.go (h : RLk t M i) (h12 : M.1 1 12 = 0) (hi : 0 ≤ i) (h6 : M.1 1 6 ≠ 0) (hl : ∀ σ : PSt, CS M t σ → LRc t (oneS t σ) 1 M') : RLk t M' (i + 1) := by
  have hb := h.bd h12
  rcases h with ⟨_, σ, h1, h2, h3⟩ | ⟨h1, _⟩
  · have hk : kK t σ ≠ 0 := fun e => h6 (h1.kind.1.mpr e)
    obtain ⟨b1, b2⟩ := (hl σ h1).ok (by decide)
    have hm := one_mo h1.2.2.2.2.2.1.2 h1.2.2.2.1 b1
    refine Or.inl ⟨b2.2.1, (oneS t σ).2, b2, by omega, ?_⟩
    rw [h3, show (1000 - i).toNat = (999 - i).toNat + 1 by omega, allK_st hk, if_pos b1, show (1000 - (i + 1)).toNat = (999 - i).toNat by omega]
  · exact absurd h12 h1
theorem RLk.fin (h : RLk t M i) (hi : 0 ≤ i) (hc : 900 ≤ i ∨ M.1 1 12 ≠ 0 ∨ M.1 1 6 = 0) (f12 : M'.1 1 12 = M.1 1 12) : M'.1 1 12 = allK t 1000 st0 := by
  rw [f12]
  by_cases h12 : M.1 1 12 = 0
  · have hb := h.bd h12
    rcases h with ⟨_, σ, h1, h2, h3⟩ | ⟨h1, _⟩
    · have h6 : M.1 1 6 = 0 := by
        rcases hc with e | e | e
        · omega
        · exact absurd h12 e
        · exact e
      rw [h3, show (1000 - i).toNat = (999 - i).toNat + 1 by omega, allK_0 (h1.kind.1.mp h6)]
      exact h12
    · exact absurd h12 h1
  · rcases h with ⟨h1, _⟩ | ⟨_, h3⟩
    · exact absurd h1 h12
    · exact h3.symm
/-! The reference. -/
def KCr (k v : Int) (M : JM) : Prop := v = 0 → M.1 173 10 = k
/-- what is done leaves the kind be -/
def FEr (v : Int) (M M' : JM) : Prop := v = 0 ∨ M'.1 173 10 = M.1 173 10
theorem FEr.no (hv : v = 0) : FEr v M M' := Or.inl hv
theorem FEr.ok (e : M'.1 173 10 = M.1 173 10) : FEr v M M' := Or.inr e
theorem FEr.e (h : FEr v M M') (hv : v ≠ 0) : M'.1 173 10 = M.1 173 10 := h.resolve_left hv
theorem FEr.pu (h : FEr v1 M0 M1) (e1 : M0.1 173 10 = M.1 173 10) (e2 : M'.1 173 10 = M1.1 173 10) (hv : v = v1) : FEr v M M' := by
  subst hv
  exact h.imp id (fun e => e2.trans (e.trans e1))
theorem KCr.y (hv : v ≠ 0) : KCr k v M := fun e => absurd e hv
theorem KCr.of (e : M.1 173 10 = k) : KCr k v M := fun _ => e
theorem KCr.eq (e : k = k') (h : KCr k' v M) : KCr k v M := e ▸ h
theorem KCr.vc (h : KCr k v1 M) (e : v1 = 0) : KCr k v M := fun _ => h e
theorem KCr.cg (h : KCr k v1 M) (hv : v = v1) (e : M'.1 173 10 = M.1 173 10) : KCr k v M' := fun e0 => e.trans (h (hv.symm.trans e0))
theorem KCr.seqz (l : LRr t (f σ) v1 M) (p : KCr (k1 σ) v1 M) (hv1 : v1 = 0) : KCr (sqK f k1 k2 σ) v M := fun _ => by
  rw [sqK_0 (l.bad hv1).1]
  exact p hv1
theorem KCr.seqg (l : LRr t (f σ) v1 M1) (hv1 : v1 ≠ 0) (h : (f σ).1 < 0 → RS M1 t (f σ).2 → KCr (k2 (f σ).2) v M) : KCr (sqK f k1 k2 σ) v M := by
  have b := l.ok hv1
  intro e
  rw [sqK_1 b.1]
  exact h b.1 b.2 e
theorem NMR.kb {s : Int} (h : NMR t s (fun _ y => okS y) σ v M) (hv : v = 0) (g : Int → PSt → Int) : nameK t s g σ = nmK t σ := by
  rcases h with ⟨h1, _⟩ | ⟨_, h2, h3, _⟩
  · omega
  · exact nameS_bad h2 h3 g
theorem NMR.ko {s : Int} (h : ∀ g : Int → PSt → RES, NMR t s g σ v M) (hv : v ≠ 0) (g : Int → PSt → Int) : nameK t s g σ = g (M.1 173 13) (goS t σ) := nameS_ok (fun g => ((h g).ok hv).2.1) g
theorem rwmk_3 {i j : Nat} (hi : i = 24 ∧ j = 72 ∨ i = 25 ∧ j = 73) (h : RS M0 t σ) (hw : M0.1 173 i ≠ 0) : wmK t j σ = 3 := by
  unfold wmK
  refine if_pos ?_
  rcases hi with ⟨rfl, rfl⟩ | ⟨rfl, rfl⟩
  · exact fun e => hw (h.2.1.2.2.2.2.1.mpr e)
  · exact fun e => hw (h.2.1.2.2.2.2.2.mpr e)
theorem rwmk_n {i j : Nat} (hi : i = 24 ∧ j = 72 ∨ i = 25 ∧ j = 73) (h : RS M0 t σ) (hw : M0.1 173 i = 0) : wmK t j σ = numK t (goS t σ) := by
  unfold wmK
  refine if_neg ?_
  rcases hi with ⟨rfl, rfl⟩ | ⟨rfl, rfl⟩
  · exact fun e => e (h.2.1.2.2.2.2.1.mp hw)
  · exact fun e => e (h.2.1.2.2.2.2.2.mp hw)
theorem lrk_no (h : RS M t σ) (n0 : ¬ WD M 0) (n1 : ¬ WD M 1) (n2 : ¬ WD M 2) (n3 : ¬ WD M 3) (n4 : ¬ WD M 4) (n5 : ¬ WD M 5) (n6 : ¬ WD M 6) : lineK t σ = 1 := lk_no (fun k h1 h2 => by
  refine WD.n h (fun hw => ?_) h1
  rcases (show k = 0 ∨ k = 1 ∨ k = 2 ∨ k = 3 ∨ k = 4 ∨ k = 5 ∨ k = 6 by omega) with rfl | rfl | rfl | rfl | rfl | rfl | rfl
  · exact n0 hw
  · exact n1 hw
  · exact n2 hw
  · exact n3 hw
  · exact n4 hw
  · exact n5 hw
  · exact n6 hw)
def RLrk (t : TXT) (M : JM) (n : Int) : Prop := 0 ≤ n ∧ ∃ σ : PSt, RS M t σ ∧ 2 * n ≤ σ.1 ∧ M.1 173 10 = 0 ∧ allK t 1000 st0 = allK t (1000 - n).toNat σ
theorem RLrk.start (hc : RTk M t 0) (hz : RZ M 36) (h24 : M.1 173 24 = 0) (h25 : M.1 173 25 = 0) (hn : 0 ≤ t.2.1 ∧ t.2.1 ≤ 940) (hm : 0 ≤ t.2.2) (h10 : M.1 173 10 = 0) : RLrk t M 0 := by
  refine ⟨Int.le_refl _, st0, ⟨hc, ⟨fun s hs => hz.1 s hs, fun k h1 h2 => ?_, fun p hp => ⟨fun _ => rfl, fun _ => hz.2.2 p (by omega)⟩, fun p hp => ⟨by rw [hz.2.1 p hp]; exact Int.le_refl _, ⟨fun _ => rfl, fun _ => hz.2.1 p hp⟩⟩, ⟨fun _ => rfl, fun _ => h24⟩, ⟨fun _ => rfl, fun _ => h25⟩⟩, PI.zero hn hm⟩, by show 2 * 0 ≤ (0 : Int); decide, h10, rfl⟩
  have h2 : ((k % 6 : Nat) : Int) < 0 := h2
  omega
theorem RLrk.bd (h : RLrk t M n) : n ≤ 470 := by
  obtain ⟨_, σ, h1, h2, _⟩ := h
  have := h1.2.2.2.1
  have := h1.2.2.2.2.1.1
  omega
theorem RLrk.no (h : RLrk t M n) (h7 : M.1 173 7 ≠ 0) (hl : ∀ σ : PSt, RS M t σ → LRr t (oneS t σ) 0 M') (hq : ∀ σ : PSt, RS M t σ → KCr (oneK t σ) 0 M') : M'.1 173 10 = allK t 1000 st0 := by
  have hb := h.bd
  obtain ⟨h0, σ, h1, h2, h10, h3⟩ := h
  have hk : kK t σ ≠ 0 := fun e => h7 (h1.kind.trans e)
  obtain ⟨b1, b2⟩ := (hl σ h1).bad rfl
  rw [h3, show (1000 - n).toNat = (999 - n).toNat + 1 by omega, allK_st hk, if_neg (by omega)]
  exact hq σ h1 rfl
theorem RLrk.go (h : RLrk t M n) (h7 : M.1 173 7 ≠ 0) (hl : ∀ σ : PSt, RS M t σ → LRr t (oneS t σ) 1 M') (e : M'.1 173 10 = M.1 173 10) : RLrk t M' (n + 1) := by
  have hb := h.bd
  obtain ⟨h0, σ, h1, h2, h10, h3⟩ := h
  have hk : kK t σ ≠ 0 := fun e => h7 (h1.kind.trans e)
  obtain ⟨b1, b2⟩ := (hl σ h1).ok (by decide)
  have hm := one_mo h1.2.2.2.2.1.2 h1.2.2.1 b1
  refine ⟨by omega, (oneS t σ).2, b2, by omega, e.trans h10, ?_⟩
  rw [h3, show (1000 - n).toNat = (999 - n).toNat + 1 by omega, allK_st hk, if_pos b1, show (1000 - (n + 1)).toNat = (999 - n).toNat by omega]
theorem RLrk.fin (h : RLrk t M n) (h7 : M.1 173 7 = 0) : M.1 173 10 = allK t 1000 st0 := by
  have hb := h.bd
  obtain ⟨h0, σ, h1, h2, h10, h3⟩ := h
  rw [h3, show (1000 - n).toNat = (999 - n).toNat + 1 by omega, allK_0 (h1.kind.symm.trans h7)]
  exact h10
end KDS
