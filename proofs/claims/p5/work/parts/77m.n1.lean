/-! Contracts with 'long rows stay' (ints, longs, nothing given back). -/
noncomputable def nlA (As : List JV) : Bool := As.all (fun a => match a with
  | .inr (.inr (.inl c)) => !lgc c
  | _ => true)
theorem nlA_ok {As : List JV} (h : nlA As = true) (c : Nat) (hc : (.inr (.inr (.inl c)) : JV) ∈ As) : lgc c = false := by
  have h1 := List.all_eq_true.mp h _ hc
  simpa using h1
theorem JOk.lki {d y : Nat} {As : List JV} {M : JM} {Q : Int → JM → Prop} (h : JOk shp PJ d y As M (jRi Q)) (hy : Nat.beq (KJ y) 0 = false) (hA : nlA As = true) : JOk shp PJ d y As M (jRi (fun v M' => Q v M' ∧ LK M M')) :=
  (h.lk hy (nlA_ok hA)).weaken (fun r M' hp => by
    obtain ⟨⟨v, h1, h2⟩, h3⟩ := hp
    exact ⟨v, h1, h2, h3⟩)
theorem JOk.lkv {d y : Nat} {As : List JV} {M : JM} {Q : JM → Prop} (h : JOk shp PJ d y As M (jRv Q)) (hy : Nat.beq (KJ y) 0 = false) (hA : nlA As = true) : JOk shp PJ d y As M (jRv (fun M' => Q M' ∧ LK M M')) :=
  (h.lk hy (nlA_ok hA)).weaken (fun r M' hp => by
    obtain ⟨⟨h1, h2⟩, h3⟩ := hp
    exact ⟨h1, h2, h3⟩)
/-! Names: what is told of them once a text is read. -/
def allQ (t : TXT) : Nat → PSt → PSt
  | 0, σ => σ
  | Nat.succ k, σ => if kK t σ = 0 then σ else if (oneS t σ).1 < 0 then allQ t k (oneS t σ).2 else σ
def fnS (u : Nat → Int) (n : Int) : PSt := allQ (u, (n, 900)) 1000 st0
/-- counts and names of a Duchy of the class (cell d), of the reference (counts at c from o on, names at e from p on) -/
def HC (M : JM) (d : Nat) (σ : PSt) : Prop := (∀ s : Nat, s < 3 → M.1 (d + 1) s = σ.2.1 s) ∧ ∀ k : Nat, k < 18 → ((k % 6 : Nat) : Int) < σ.2.1 (k / 6) → (M.2 (d + 2) k).toInt = cw (σ.2.2.1 k)
def HN (M : JM) (c o e p : Nat) (σ : PSt) : Prop := (∀ s : Nat, s < 3 → M.1 c (o + s) = σ.2.1 s) ∧ ∀ k : Nat, k < 18 → ((k % 6 : Nat) : Int) < σ.2.1 (k / 6) → (M.2 e (p + k)).toInt = σ.2.2.1 k
def PIn (σ : PSt) : Prop := (∀ s : Nat, s < 3 → 0 ≤ σ.2.1 s ∧ σ.2.1 s ≤ 6) ∧ (∀ k : Nat, k < 18 → ((k % 6 : Nat) : Int) < σ.2.1 (k / 6) → wok 7 (σ.2.2.1 k)) ∧ (∀ k k' : Nat, k < 18 → k' < 18 → ((k % 6 : Nat) : Int) < σ.2.1 (k / 6) → ((k' % 6 : Nat) : Int) < σ.2.1 (k' / 6) → σ.2.2.1 k = σ.2.2.1 k' → k = k')
theorem HC.cp {M M' : JM} {d e : Nat} {σ : PSt} (h : HC M e σ) (h1 : ∀ j : Nat, (j : Int) < 3 → M'.1 (d + 1) j = M.1 (e + 1) j) (h2 : ∀ k : Nat, (k : Int) < 18 → M'.2 (d + 2) k = M.2 (e + 2) k) : HC M' d σ :=
  ⟨fun s hs => (h1 s (by omega)).trans (h.1 s hs), fun k hk hl => by rw [h2 k (by omega)]; exact h.2 k hk hl⟩
theorem HN.cp {M M' : JM} {c o e p c' o' e' p' : Nat} {σ : PSt} (h : HN M c' o' e' p' σ) (h1 : ∀ j : Nat, j < 3 → M'.1 c (o + j) = M.1 c' (o' + j)) (h2 : ∀ k : Nat, k < 18 → M'.2 e (p + k) = M.2 e' (p' + k)) : HN M' c o e p σ :=
  ⟨fun s hs => (h1 s hs).trans (h.1 s hs), fun k hk hl => by rw [h2 k hk]; exact h.2 k hk hl⟩
def LKs (xs : List Nat) (M M' : JM) : Prop := ∀ c i : Nat, lgc c = true → xs.all (fun x => !Nat.beq c x) = true → M'.2 c i = M.2 c i
theorem LKs.rf (xs : List Nat) (M : JM) : LKs xs M M := fun _ _ _ _ => rfl
theorem LKs.lk {xs : List Nat} {M M1 M' : JM} (h : LKs xs M M1) (h2 : LK M1 M') : LKs xs M M' := fun c i hc hx => (h2 c i hc).trans (h c i hc hx)
theorem LKs.tr {xs ys : List Nat} {M M1 M' : JM} (h : LKs xs M M1) (h2 : LKs ys M1 M') (hs : ys.all (fun y => xs.any (fun x => Nat.beq y x)) = true) : LKs xs M M' := fun c i hc hx => by
  refine (h2 c i hc ?_).trans (h c i hc hx)
  rw [List.all_eq_true]
  intro y hy
  have h3 := List.all_eq_true.mp hs y hy
  obtain ⟨x, h4, h5⟩ := List.any_eq_true.mp h3
  rw [Nat.eq_of_beq_eq_true h5]
  exact List.all_eq_true.mp hx x h4
theorem LKs.eq {xs : List Nat} {M M1 M' : JM} (h : LKs xs M M1) (h2 : ∀ c i, M'.2 c i = M1.2 c i) : LKs xs M M' := fun c i hc hx => (h2 c i).trans (h c i hc hx)
theorem LKs.st {xs : List Nat} {M M1 M' : JM} {c0 i0 : Nat} (h : LKs xs M M1) (g : ∀ c i, ¬ (c = c0 ∧ i = i0) → M'.2 c i = M1.2 c i) (hx : (lgc c0 = false) ∨ xs.any (fun x => Nat.beq c0 x) = true) : LKs xs M M' := fun c i hc hn => by
  refine (g c i (fun e => ?_)).trans (h c i hc hn)
  rcases hx with hx | hx
  · rw [e.1, hx] at hc
    cases hc
  · obtain ⟨x, h4, h5⟩ := List.any_eq_true.mp hx
    have h6 := List.all_eq_true.mp hn x h4
    rw [e.1, h5] at h6
    cases h6
theorem LFr.lks {xs : List Nat} {ml : List (Nat × (Nat × Nat))} {M M1 M' : JM} (h : LKs xs M M1) (h2 : LFr ml M1 M') (hm : ml.all (fun q => xs.any (fun x => Nat.beq q.1 x) || !lgc q.1) = true) : LKs xs M M' := fun c i hc hx => by
  refine (h2 c i ?_).trans (h c i hc hx)
  unfold jin
  rw [List.any_eq_false]
  intro q hq hj
  have h3 := List.all_eq_true.mp hm q hq
  simp only [Bool.and_eq_true] at hj
  have e := Nat.eq_of_beq_eq_true hj.1
  rw [e, hc] at h3
  have h4 : xs.any (fun x => Nat.beq c x) = true := by simpa using h3
  obtain ⟨x, h5, h6⟩ := List.any_eq_true.mp h4
  have h7 := List.all_eq_true.mp hx x h5
  rw [h6] at h7
  cases h7
theorem cpl_at {M M' : JM} {c1 c2 : Nat} {n : Int} (e : (M.1, jcp M.2 c1 c2 n) = M') {j : Nat} (hj : (j : Int) < n) : M'.2 c2 j = M.2 c1 j := by
  rw [← e]
  show jcp M.2 c1 c2 n c2 j = _
  unfold jcp
  rw [if_pos rfl, if_pos hj]
theorem cpl_ne {M M' : JM} {c1 c2 : Nat} {n : Int} (e : (M.1, jcp M.2 c1 c2 n) = M') {c j : Nat} (hc : c ≠ c2) : M'.2 c j = M.2 c j := by
  rw [← e]
  show jcp M.2 c1 c2 n c j = _
  unfold jcp
  rw [if_neg hc]
theorem LKs.cpl {xs : List Nat} {M M1 M' : JM} {c1 c2 : Nat} {n : Int} (h : LKs xs M M1) (e : (M1.1, jcp M1.2 c1 c2 n) = M') (hx : xs.any (fun x => Nat.beq c2 x) = true) : LKs xs M M' := fun c i hc hn => by
  refine (cpl_ne e (fun e2 => ?_)).trans (h c i hc hn)
  obtain ⟨x, h4, h5⟩ := List.any_eq_true.mp hx
  have h6 := List.all_eq_true.mp hn x h4
  rw [e2, h5] at h6
  cases h6
theorem cp_at {M M' : JM} {c1 c2 : Nat} {n : Int} (e : (jcp M.1 c1 c2 n, M.2) = M') {j : Nat} (hj : (j : Int) < n) : M'.1 c2 j = M.1 c1 j := by
  rw [← e]
  show jcp M.1 c1 c2 n c2 j = _
  unfold jcp
  rw [if_pos rfl, if_pos hj]
section NMS
variable {t : TXT} {σ : PSt} {M M0 M1 M' : JM} {n i v k : Int}
theorem allQ_st {k : Nat} (hk : kK t σ ≠ 0) (h1 : (oneS t σ).1 < 0) : allQ t (k + 1) σ = allQ t k (oneS t σ).2 := by
  show (if kK t σ = 0 then _ else if (oneS t σ).1 < 0 then _ else _) = _
  rw [if_neg hk, if_pos h1]
theorem allQ_0 {k : Nat} (hk : kK t σ = 0) : allQ t (k + 1) σ = σ := if_pos hk
def RLF (t : TXT) (M : JM) (i : Int) : Prop := M.1 1 12 = 0 → ∃ σ : PSt, CS M t σ ∧ 2 * i ≤ σ.1 ∧ allQ t 1000 st0 = allQ t (1000 - i).toNat σ
theorem RLF.start (hc : CTk M t 0) (h12 : M.1 1 12 = 0) (hd : DR M st0) (hp : PI t st0) : RLF t M 0 := fun _ => ⟨st0, ⟨hc, h12, hd, hp⟩, by show 2 * 0 ≤ (0 : Int); decide, rfl⟩
theorem LRc.flt' {r : RES} (h : LRc t r 0 M) : M.1 1 12 ≠ 0 := by
  rcases h with ⟨_, h2, _⟩ | ⟨_, _, h3, _⟩
  · omega
  · exact h3
theorem RLF.nol (h : RLF t M i) (h12 : M.1 1 12 = 0) (hl : ∀ σ : PSt, CS M t σ → LRc t (oneS t σ) 0 M') : RLF t M' (i + 1) := by
  obtain ⟨σ, h1, _⟩ := h h12
  exact fun e => absurd e (hl σ h1).flt'
theorem RLF.go (h : RLF t M i) (h12 : M.1 1 12 = 0) (hi : 0 ≤ i) (h6 : M.1 1 6 ≠ 0) (hl : ∀ σ : PSt, CS M t σ → LRc t (oneS t σ) 1 M') : RLF t M' (i + 1) := by
  intro _
  obtain ⟨σ, h1, h3, h4⟩ := h h12
  have hk : kK t σ ≠ 0 := fun e => h6 (h1.kind.1.mpr e)
  obtain ⟨b1, b2⟩ := (hl σ h1).ok (by decide)
  have hm := one_mo h1.2.2.2.2.2.1.2 h1.2.2.2.1 b1
  have hb1 := h1.2.2.2.2.1
  have hb2 := h1.2.2.2.2.2.1.1
  exact ⟨_, b2, by omega, by rw [h4, show (1000 - i).toNat = (999 - i).toNat + 1 by omega, allQ_st hk b1, show (1000 - (i + 1)).toNat = (999 - i).toNat by omega]⟩
theorem RLF.fin (h : RLF t M i) (hi : 0 ≤ i) (hc : 900 ≤ i ∨ M.1 1 12 ≠ 0 ∨ M.1 1 6 = 0) (f12 : M'.1 1 12 = M.1 1 12) (f : ∀ s, M'.1 28 s = M.1 28 s) (hL : LK M M') : M'.1 1 12 = 0 → HC M' 27 (allQ t 1000 st0) ∧ PIn (allQ t 1000 st0) := by
  rw [f12]
  intro h12
  obtain ⟨σ, h1, h3, h4⟩ := h h12
  have hb1 := h1.2.2.2.2.1
  have hb2 := h1.2.2.2.2.2.1.1
  have h6 : M.1 1 6 = 0 := by
    rcases hc with e | e | e
    · omega
    · exact absurd h12 e
    · exact e
  have hk := h1.kind.1.mp h6
  rw [h4, show (1000 - i).toNat = (999 - i).toNat + 1 by omega, allQ_0 hk]
  obtain ⟨d1, d2, _⟩ := h1.2.2.1
  exact ⟨⟨fun s hs => (f s).trans (d1 s hs), fun k hk hl => by rw [hL 29 k (by decide +kernel)]; exact d2 k hk hl⟩, h1.2.2.2.2.2.2⟩
def RLrF (t : TXT) (M : JM) (n : Int) : Prop := 0 ≤ n ∧ ∃ σ : PSt, RS M t σ ∧ 2 * n ≤ σ.1 ∧ allQ t 1000 st0 = allQ t (1000 - n).toNat σ
theorem RLrF.start (hc : RTk M t 0) (hz : RZ M 36) (h24 : M.1 173 24 = 0) (h25 : M.1 173 25 = 0) (hn : 0 ≤ t.2.1 ∧ t.2.1 ≤ 940) (hm : 0 ≤ t.2.2) : RLrF t M 0 := by
  refine ⟨Int.le_refl _, st0, ⟨hc, ⟨fun s hs => hz.1 s hs, fun k h1 h2 => ?_, fun p hp => ⟨fun _ => rfl, fun _ => hz.2.2 p (by omega)⟩, fun p hp => ⟨by rw [hz.2.1 p hp]; exact Int.le_refl _, ⟨fun _ => rfl, fun _ => hz.2.1 p hp⟩⟩, ⟨fun _ => rfl, fun _ => h24⟩, ⟨fun _ => rfl, fun _ => h25⟩⟩, PI.zero hn hm⟩, by show 2 * 0 ≤ (0 : Int); decide, rfl⟩
  have h2 : ((k % 6 : Nat) : Int) < 0 := h2
  omega
theorem RLrF.go (h : RLrF t M n) (h7 : M.1 173 7 ≠ 0) (hl : ∀ σ : PSt, RS M t σ → LRr t (oneS t σ) 1 M') : RLrF t M' (n + 1) := by
  obtain ⟨h0, σ, h1, h3, h4⟩ := h
  have hk : kK t σ ≠ 0 := fun e => h7 (h1.kind.trans e)
  obtain ⟨b1, b2⟩ := (hl σ h1).ok (by decide)
  have hm := one_mo h1.2.2.2.2.1.2 h1.2.2.1 b1
  have hb1 := h1.2.2.2.1
  have hb2 := h1.2.2.2.2.1.1
  exact ⟨by omega, _, b2, by omega, by rw [h4, show (1000 - n).toNat = (999 - n).toNat + 1 by omega, allQ_st hk b1, show (1000 - (n + 1)).toNat = (999 - n).toNat by omega]⟩
theorem RLrF.fin (h : RLrF t M n) (h7 : M.1 173 7 = 0) : HN M 176 0 181 0 (allQ t 1000 st0) := by
  obtain ⟨h0, σ, h1, h3, h4⟩ := h
  have hb1 := h1.2.2.2.1
  have hb2 := h1.2.2.2.2.1.1
  rw [h4, show (1000 - n).toNat = (999 - n).toNat + 1 by omega, allQ_0 (h1.kind.symm.trans h7)]
  obtain ⟨d1, d2, _⟩ := h1.2.1
  exact ⟨fun s hs => by rw [Nat.zero_add]; exact d1 s hs, fun k hk hl => by rw [Nat.zero_add]; exact d2 k hk hl⟩
end NMS
theorem LKs.up {xs ys : List Nat} {M M' : JM} (h : LKs ys M M') (hs : ys.all (fun y => xs.any (fun x => Nat.beq y x)) = true) : LKs xs M M' := (LKs.rf xs M).tr h hs
theorem jin_lo {md : List (Nat × (Nat × Nat))} {c b i : Nat} (h : md.all (fun q => !Nat.beq q.1 c || Nat.ble b q.2.1) = true) (hb : i < b) : jin md c i = false := by
  unfold jin
  rw [List.any_eq_false]
  intro q hq hc
  have h1 := List.all_eq_true.mp h q hq
  simp only [Bool.and_eq_true] at hc
  rw [hc.1] at h1
  have h2 : Nat.ble b q.2.1 = true := by simpa using h1
  have h3 := Nat.le_of_ble_eq_true h2
  have h4 := Nat.le_of_ble_eq_true hc.2.1
  omega
/-! Images and their names. -/
def IHC (a v : Int) (M M' : JM) : Prop := (v = 1 ∧ a = 0 → ∀ σ : PSt, HC M 5 σ → HC M' 137 σ) ∧ (¬ (v = 1 ∧ a = 0) → ∀ σ : PSt, HC M 137 σ → HC M' 137 σ) ∧ (v = 1 ∧ a = 1 → ∀ σ : PSt, HC M 5 σ → HC M' 155 σ) ∧ (¬ (v = 1 ∧ a = 1) → ∀ σ : PSt, HC M 155 σ → HC M' 155 σ)
def IHN (a v : Int) (M M' : JM) : Prop := (v = 1 ∧ a = 0 → ∀ σ : PSt, HN M 175 0 180 0 σ → HN M' 177 0 182 0 σ) ∧ (¬ (v = 1 ∧ a = 0) → ∀ σ : PSt, HN M 177 0 182 0 σ → HN M' 177 0 182 0 σ) ∧ (v = 1 ∧ a = 1 → ∀ σ : PSt, HN M 175 0 180 0 σ → HN M' 177 476 182 18 σ) ∧ (¬ (v = 1 ∧ a = 1) → ∀ σ : PSt, HN M 177 476 182 18 σ → HN M' 177 476 182 18 σ)
def RHC (a v : Int) (M M' : JM) : Prop := (v = 1 → a = 0 → ∀ σ : PSt, HC M 137 σ → HC M' 5 σ) ∧ (v = 1 → a = 1 → ∀ σ : PSt, HC M 155 σ → HC M' 5 σ) ∧ (v = 0 → ∀ σ : PSt, HC M 5 σ → HC M' 5 σ)
def RHN (a v : Int) (M M' : JM) : Prop := (v = 1 → a = 0 → ∀ σ : PSt, HN M 177 0 182 0 σ → HN M' 175 0 180 0 σ) ∧ (v = 1 → a = 1 → ∀ σ : PSt, HN M 177 476 182 18 σ → HN M' 175 0 180 0 σ) ∧ (v = 0 → ∀ σ : PSt, HN M 175 0 180 0 σ → HN M' 175 0 180 0 σ)
section IHS
variable {M M' : JM} {a v : Int}
theorem IHC.no (hv : v = 0) (h0 : ∀ σ : PSt, HC M 137 σ → HC M' 137 σ) (h1 : ∀ σ : PSt, HC M 155 σ → HC M' 155 σ) : IHC a v M M' := ⟨fun e => by omega, fun _ => h0, fun e => by omega, fun _ => h1⟩
theorem IHC.i0 (hv : v = 1) (ha : a = 0) (h : ∀ σ : PSt, HC M 5 σ → HC M' 137 σ) (h1 : ∀ σ : PSt, HC M 155 σ → HC M' 155 σ) : IHC a v M M' := ⟨fun _ => h, fun e => absurd ⟨hv, ha⟩ e, fun e => by omega, fun _ => h1⟩
theorem IHC.i1 (hv : v = 1) (ha : a = 1) (h : ∀ σ : PSt, HC M 5 σ → HC M' 155 σ) (h1 : ∀ σ : PSt, HC M 137 σ → HC M' 137 σ) : IHC a v M M' := ⟨fun e => by omega, fun _ => h1, fun _ => h, fun e => absurd ⟨hv, ha⟩ e⟩
theorem RHC.no (hv : v = 0) (h : ∀ σ : PSt, HC M 5 σ → HC M' 5 σ) : RHC a v M M' := ⟨fun e => by omega, fun e => by omega, fun _ => h⟩
theorem RHC.i0 (hv : v = 1) (ha : a = 0) (h : ∀ σ : PSt, HC M 137 σ → HC M' 5 σ) : RHC a v M M' := ⟨fun _ _ => h, fun _ e => by omega, fun e => by omega⟩
theorem RHC.i1 (hv : v = 1) (ha : a = 1) (h : ∀ σ : PSt, HC M 155 σ → HC M' 5 σ) : RHC a v M M' := ⟨fun _ e => by omega, fun _ _ => h, fun e => by omega⟩
theorem IHN.no (hv : v = 0) (h1 : ∀ j : Nat, M'.1 177 j = M.1 177 j) (h2 : ∀ k : Nat, M'.2 182 k = M.2 182 k) : IHN a v M M' := ⟨fun e => by omega, fun _ σ hσ => HN.cp hσ (fun j _ => h1 _) (fun k _ => h2 _), fun e => by omega, fun _ σ hσ => HN.cp hσ (fun j _ => h1 _) (fun k _ => h2 _)⟩
theorem IHN.ok (hv : v = 1) (ha : 0 ≤ a ∧ a ≤ 1) (hI : ∀ j : Nat, j < 476 → M'.1 177 (476 * a.toNat + j) = M.1 175 j) (hO : ∀ j : Nat, j < 476 * a.toNat ∨ 476 * a.toNat + 476 ≤ j → M'.1 177 j = M.1 177 j) (hN : ∀ k : Nat, k < 18 → M'.2 182 (18 * a.toNat + k) = M.2 180 k) (hP : ∀ k : Nat, k < 18 * a.toNat ∨ 18 * a.toNat + 18 ≤ k → M'.2 182 k = M.2 182 k) : IHN a v M M' := by
  rcases (show a = 0 ∨ a = 1 by omega) with h | h
  · subst h
    refine ⟨fun _ σ hσ => HN.cp hσ (fun j hj => ?_) (fun k hk => ?_), fun e => absurd ⟨hv, rfl⟩ e, fun e => by omega, fun _ σ hσ => HN.cp hσ (fun j hj => hO _ (Or.inr (by show 476 * 0 + 476 ≤ 476 + j; omega))) (fun k hk => hP _ (Or.inr (by show 18 * 0 + 18 ≤ 18 + k; omega)))⟩
    · have h1 := hI j (by omega)
      rw [show 476 * (0 : Int).toNat + j = 0 + j by show 476 * 0 + j = 0 + j; omega] at h1
      rw [h1, Nat.zero_add]
    · have h1 := hN k hk
      rw [show 18 * (0 : Int).toNat + k = 0 + k by show 18 * 0 + k = 0 + k; omega] at h1
      rw [h1, Nat.zero_add]
  · subst h
    refine ⟨fun e => by omega, fun _ σ hσ => HN.cp hσ (fun j hj => hO _ (Or.inl (by show 0 + j < 476 * 1; omega))) (fun k hk => hP _ (Or.inl (by show 0 + k < 18 * 1; omega))), fun _ σ hσ => HN.cp hσ (fun j hj => ?_) (fun k hk => ?_), fun e => absurd ⟨hv, rfl⟩ e⟩
    · rw [Nat.zero_add]
      exact hI j (by omega)
    · rw [Nat.zero_add]
      exact hN k hk
theorem RHN.no (hv : v = 0) (h1 : ∀ j : Nat, M'.1 175 j = M.1 175 j) (h2 : ∀ k : Nat, M'.2 180 k = M.2 180 k) : RHN a v M M' := ⟨fun e => by omega, fun e => by omega, fun _ σ hσ => HN.cp hσ (fun j _ => h1 _) (fun k _ => h2 _)⟩
theorem RHN.ok (hv : v = 1) (ha : 0 ≤ a ∧ a ≤ 1) (hI : ∀ j : Nat, j < 476 → M'.1 175 j = M.1 177 (476 * a.toNat + j)) (hN : ∀ k : Nat, k < 18 → M'.2 180 k = M.2 182 (18 * a.toNat + k)) : RHN a v M M' := by
  refine ⟨fun _ h σ hσ => HN.cp hσ (fun j hj => ?_) (fun k hk => ?_), fun _ h σ hσ => HN.cp hσ (fun j hj => ?_) (fun k hk => ?_), fun e => by omega⟩
  · subst h
    rw [Nat.zero_add, hI j (by omega)]
    show M.1 177 (476 * 0 + j) = _
    rw [Nat.mul_zero, Nat.zero_add]
  · subst h
    rw [Nat.zero_add, hN k hk]
    show M.2 182 (18 * 0 + k) = _
    rw [Nat.mul_zero, Nat.zero_add]
  · subst h
    rw [Nat.zero_add]
    exact hI j (by omega)
  · subst h
    rw [Nat.zero_add]
    exact hN k hk
end IHS
def imP (c : Nat) (a : Int) (M M' : JM) : Prop := ∀ j : Nat, j < 2 → M'.1 c j = if (j : Int) = a then 1 else M.1 c j
theorem imP.no {c : Nat} {a : Int} {M M' : JM} (h : ∀ j : Nat, M'.1 c j = M.1 c j) (ha : a < 0 ∨ 1 < a) : imP c a M M' := fun j hj => by
  rw [if_neg (by omega)]
  exact h j
theorem imP.st {c : Nat} {a : Int} {M Mx M' : JM} (k : M'.1 c a.toNat = 1) (n : ∀ c' j, ¬ (c' = c ∧ j = a.toNat) → M'.1 c' j = Mx.1 c' j) (e : ∀ j : Nat, Mx.1 c j = M.1 c j) (ha : 0 ≤ a) : imP c a M M' := fun j hj => by
  by_cases h : (j : Int) = a
  · rw [if_pos h, show j = a.toNat by omega]
    exact k
  · rw [if_neg h]
    exact (n c j (by omega)).trans (e j)
def imR (c : Nat) (a : Int) (M : JM) : Int := if 0 ≤ a ∧ a ≤ 1 then M.1 c a.toNat else 0
def IMG (M : JM) : Prop := ∀ j : Nat, j < 2 → M.1 46 j = M.1 183 j
theorem IMG.cg {M M' : JM} (h : IMG M) (h1 : ∀ j : Nat, M'.1 46 j = M.1 46 j) (h2 : ∀ j : Nat, M'.1 183 j = M.1 183 j) : IMG M' := fun j hj => by rw [h1, h2]; exact h j hj
theorem IMG.im {M M1 M2 : JM} {a a2 : Int} (h : IMG M) (ea : a = a2) (p1 : imP 46 a M M1) (f1 : ∀ j : Nat, M1.1 183 j = M.1 183 j) (p2 : imP 183 a2 M1 M2) (f2 : ∀ j : Nat, M2.1 46 j = M1.1 46 j) : IMG M2 := fun j hj => by
  subst ea
  rw [f2, p1 j hj, p2 j hj, f1, h j hj]
theorem imR_eq {M M1 : JM} {a a2 z1 z2 : Int} (h : IMG M) (ea : a = a2) (e1 : z1 = imR 46 a M) (e2 : z2 = imR 183 a2 M1) (f : ∀ j : Nat, M1.1 183 j = M.1 183 j) : z1 = z2 := by
  subst ea
  rw [e1, e2]
  unfold imR
  by_cases hc : 0 ≤ a ∧ a ≤ 1
  · rw [if_pos hc, if_pos hc, f]
    exact h _ (by omega)
  · rw [if_neg hc, if_neg hc]
