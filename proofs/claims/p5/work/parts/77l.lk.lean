/-! Long rows stay: what a method leaves that stores into none of them. Kinds: 1, its own code and that of all it calls stores into no long row; 2, no long row is ever at hand. -/
noncomputable def lgc (c : Nat) : Bool := match lg shp c with
  | some (.inr (.inl (kd, _))) => Nat.beq kd 2
  | _ => false
def NLv (a : JV) : Prop := match a with
  | .inr (.inr (.inl c)) => lgc c = false
  | _ => True
def NLS (S : List JV) : Prop := ∀ a : JV, a ∈ S → NLv a
def NLL (L : JL) : Prop := ∀ (k : Nat) (a : JV), L[k]? = some (some a) → NLv a
def LK (M M' : JM) : Prop := ∀ c i : Nat, lgc c = true → M'.2 c i = M.2 c i
theorem LK.rf (M : JM) : LK M M := fun _ _ _ => rfl
theorem LK.tr {M M1 M2 : JM} (h : LK M M1) (h2 : LK M1 M2) : LK M M2 := fun c i hc => (h2 c i hc).trans (h c i hc)
theorem NLS.nil : NLS [] := fun a h => by cases h
theorem NLS.cons {a : JV} {S : List JV} (ha : NLv a) (h : NLS S) : NLS (a :: S) := fun b hb => by
  rcases List.mem_cons.mp hb with e | e
  · rw [e]
    exact ha
  · exact h b e
theorem NLS.hd {a : JV} {S : List JV} (h : NLS (a :: S)) : NLv a := h a List.mem_cons_self
theorem NLS.tl {a : JV} {S : List JV} (h : NLS (a :: S)) : NLS S := fun b hb => h b (List.mem_cons_of_mem _ hb)
theorem NLL.st {L : JL} {k : Nat} {a : JV} (h : NLL L) (ha : NLv a) : NLL (jst L k a) := fun j d hd => by
  rcases jst_get hd with ⟨_, rfl⟩ | ⟨_, h2, _⟩
  · exact ha
  · exact h j d h2
noncomputable def gfOK (x y : Nat) : Bool := shp.all (fun s => match s with
  | .inl (x', fs) => !Nat.beq x' x || (match lg fs y with
    | some (.inr k) => !lgc k
    | _ => true)
  | _ => true)
noncomputable def aaOK : Bool := shp.all (fun s => match s with
  | .inr (.inr (_, cs)) => cs.all (fun k => !lgc k)
  | _ => true)
theorem aa_ok : aaOK = true := by decide +kernel
theorem gf_get {x y c k : Nat} {fs : List JF} (h : gfOK x y = true) (hc : shp[c]? = some (.inl (x, fs))) (hk : fs[y]? = some (.inr k)) : lgc k = false := by
  have h1 := List.all_eq_true.mp h _ (List.mem_of_getElem? hc)
  simp only [lg_eq, hk] at h1
  have e : Nat.beq x x = true := Nat.beq_refl x
  rw [e] at h1
  simpa using h1
theorem aa_get {c k kd i : Nat} {cs : List Nat} (hc : shp[c]? = some (.inr (.inr (kd, cs)))) (hk : cs[i]? = some k) : lgc k = false := by
  have h1 := List.all_eq_true.mp aa_ok _ (List.mem_of_getElem? hc)
  have h1 : cs.all (fun k => !lgc k) = true := h1
  have h2 := List.all_eq_true.mp h1 _ (List.mem_of_getElem? hk)
  simpa using h2
theorem lgc_y {c n : Nat} (hc : shp[c]? = some (.inr (.inl (2, n)))) : lgc c = true := by
  unfold lgc
  rw [lg_eq, hc]
  rfl
theorem lgc_o {c x : Nat} {fs : List JF} (hc : shp[c]? = some (.inl (x, fs))) : lgc c = false := by
  unfold lgc
  rw [lg_eq, hc]
noncomputable def okLI (K : Nat → Nat) (kd : Nat) (e : EN) : Bool := match e with
  | (.lastore, _) => Nat.beq kd 2
  | (.getfield _, (_, (x, (y, _)))) => Nat.beq kd 1 || gfOK x y
  | (.invokestatic _, (_, (x, (y, _)))) => (!Nat.beq x 6 || Nat.beq kd 2) && (!(Nat.beq x 0 || Nat.beq x 3) || (Nat.beq (K y) 1 || (Nat.beq kd 2 && Nat.beq (K y) 2)))
  | (.invokevirtual _, (_, (x, (y, _)))) => !Nat.beq x 1 || (Nat.beq (K y) 1 || (Nat.beq kd 2 && Nat.beq (K y) 2))
  | _ => true
def NK (kd : Nat) (L : JL) (S : List JV) : Prop := kd = 2 → NLL L ∧ NLS S
section NKS
variable {kd : Nat} {L : JL} {S r : List JV} {a b d : JV}
theorem NK.p (h : NK kd L S) (ha : NLv a) : NK kd L (a :: S) := fun e => ⟨(h e).1, NLS.cons ha (h e).2⟩
theorem NK.t1 (h : NK kd L (a :: r)) : NK kd L r := fun e => ⟨(h e).1, (h e).2.tl⟩
theorem NK.t2 (h : NK kd L (a :: b :: r)) : NK kd L r := h.t1.t1
theorem NK.t3 (h : NK kd L (a :: b :: d :: r)) : NK kd L r := h.t1.t1.t1
end NKS
theorem jwp_lk {sc : Option (Nat × (Nat → Int))} {K : Nat → Nat} {kd len x y z pc : Nat} {ins : Instr} {L : JL} {S : List JV} {M0 M : JM} {F' : JP} (hkd : kd = 1 ∨ kd = 2) (hk : okLI K kd (ins, (len, (x, (y, z)))) = true) (hn : NK kd L S) (hl : LK M0 M) (h : jwp shp sc ins len x y z pc L S M (fun pc L S M => NK kd L S → LK M0 M → F' pc L S M)) : jwp shp sc ins len x y z pc L S M F' := by
  unfold jwp at h ⊢
  rcases h with ⟨v, h1, h2⟩ | ⟨k, so, a, h1, h2, h3, h4⟩ | ⟨k, so, a, r, h1, h2, h3, h4, h5⟩ | ⟨h1, f, a, b, r, h2, h3, h4⟩ | ⟨h1, f, a, b, r, h2, h3, h4, h5⟩ | ⟨h1, f, a, b, r, h2, h3, h4⟩ | ⟨h1, f, a, b, r, h2, h3, h4, h5⟩ | ⟨h1, f, a, b, r, h2, h3, h4⟩ | ⟨h1, f, a, r, h2, h3, h4⟩ | h
  · exact Or.inl ⟨v, h1, h2 (hn.p trivial) hl⟩
  · exact Or.inr (Or.inl ⟨k, so, a, h1, h2, h3, h4 (fun e => ⟨(hn e).1, NLS.cons ((hn e).1 k a h2) (hn e).2⟩) hl⟩)
  · subst h2
    exact Or.inr (Or.inr (Or.inl ⟨k, so, a, r, h1, rfl, h3, h4, h5 (fun e => ⟨(hn e).1.st (hn e).2.hd, (hn e).2.tl⟩) hl⟩))
  · subst h3
    exact Or.inr (Or.inr (Or.inr (Or.inl ⟨h1, f, a, b, r, h2, rfl, h4 (hn.t2.p trivial) hl⟩)))
  · subst h3
    exact Or.inr (Or.inr (Or.inr (Or.inr (Or.inl ⟨h1, f, a, b, r, h2, rfl, h4, h5 (hn.t2.p trivial) hl⟩))))
  · subst h3
    exact Or.inr (Or.inr (Or.inr (Or.inr (Or.inr (Or.inl ⟨h1, f, a, b, r, h2, rfl, h4 (hn.t2.p trivial) hl⟩)))))
  · subst h3
    exact Or.inr (Or.inr (Or.inr (Or.inr (Or.inr (Or.inr (Or.inl ⟨h1, f, a, b, r, h2, rfl, h4, h5 (hn.t2.p trivial) hl⟩))))))
  · subst h3
    exact Or.inr (Or.inr (Or.inr (Or.inr (Or.inr (Or.inr (Or.inr (Or.inl ⟨h1, f, a, b, r, h2, rfl, h4 (hn.t2.p trivial) hl⟩)))))))
  · subst h3
    exact Or.inr (Or.inr (Or.inr (Or.inr (Or.inr (Or.inr (Or.inr (Or.inr (Or.inl ⟨h1, f, a, r, h2, rfl, h4 (hn.t1.p trivial) hl⟩))))))))
  · refine Or.inr (Or.inr (Or.inr (Or.inr (Or.inr (Or.inr (Or.inr (Or.inr (Or.inr ?_))))))))
    unfold jwr at h ⊢
    cases ins
    all_goals first | exact h.elim | skip
    case iinc k n =>
      obtain ⟨h1, a, h2, h3⟩ := h
      exact ⟨h1, a, h2, h3 (fun e => ⟨(hn e).1.st trivial, (hn e).2⟩) hl⟩
    case ldc_w i =>
      obtain ⟨h1, ⟨h2, h3⟩ | ⟨h2, h3, h4, h5⟩⟩ := h
      · exact ⟨h1, Or.inl ⟨h2, h3 (hn.p trivial) hl⟩⟩
      · exact ⟨h1, Or.inr ⟨h2, h3, h4, h5 (hn.p trivial) hl⟩⟩
    case ldc i =>
      obtain ⟨h1, h2⟩ := h
      exact ⟨h1, h2 (hn.p trivial) hl⟩
    case ldc2_w i =>
      obtain ⟨h1, h2⟩ := h
      exact ⟨h1, h2 (hn.p trivial) hl⟩
    case lconst k =>
      obtain ⟨h1, h2⟩ := h
      exact ⟨h1, h2 (hn.p trivial) hl⟩
    case i2l =>
      obtain ⟨h1, a, r, rfl, h2⟩ := h
      exact ⟨h1, a, r, rfl, h2 (hn.t1.p trivial) hl⟩
    case l2i =>
      obtain ⟨h1, a, r, rfl, h2⟩ := h
      exact ⟨h1, a, r, rfl, h2 (hn.t1.p trivial) hl⟩
    case lcmp =>
      obtain ⟨h1, a, b, r, rfl, h2⟩ := h
      exact ⟨h1, a, b, r, rfl, h2 (hn.t2.p trivial) hl⟩
    case dup =>
      obtain ⟨h1, a, r, rfl, h2, h3⟩ := h
      exact ⟨h1, a, r, rfl, h2, h3 (fun e => ⟨(hn e).1, NLS.cons (hn e).2.hd (hn e).2⟩) hl⟩
    case dup2 =>
      obtain ⟨h1, a, b, r, rfl, h2, h3, h4⟩ := h
      exact ⟨h1, a, b, r, rfl, h2, h3, h4 (fun e => ⟨(hn e).1, NLS.cons (hn e).2.hd (NLS.cons (hn e).2.tl.hd (hn e).2)⟩) hl⟩
    case pop =>
      obtain ⟨h1, a, r, rfl, h2, h3⟩ := h
      exact ⟨h1, a, r, rfl, h2, h3 hn.t1 hl⟩
    case goto o =>
      obtain ⟨h1, t, h2, h3⟩ := h
      exact ⟨h1, t, h2, h3 hn hl⟩
    case if_icmp cd o =>
      obtain ⟨h1, a, b, r, t, rfl, h2, h3, h4⟩ := h
      exact ⟨h1, a, b, r, t, rfl, h2, fun e => h3 e hn.t2 hl, fun e => h4 e hn.t2 hl⟩
    case ifCond cd o =>
      obtain ⟨h1, a, r, t, rfl, h2, h3, h4⟩ := h
      exact ⟨h1, a, r, t, rfl, h2, fun e => h3 e hn.t1 hl, fun e => h4 e hn.t1 hl⟩
    case tableswitch d lo hi os =>
      obtain ⟨a, r, o, t, rfl, h2, h3, h4⟩ := h
      exact ⟨a, r, o, t, rfl, h2, h3, h4 hn.t1 hl⟩
    case lookupswitch d ps =>
      obtain ⟨h1, a, r, t, rfl, h2, h3⟩ := h
      exact ⟨h1, a, r, t, rfl, h2, h3 hn.t1 hl⟩
    case getfield i =>
      obtain ⟨h1, c, r, fs, rfl, h2, ⟨h3, h4⟩ | ⟨h3, h4⟩ | ⟨k, h3, h4⟩⟩ := h
      · exact ⟨h1, c, r, fs, rfl, h2, Or.inl ⟨h3, h4 (hn.t1.p trivial) hl⟩⟩
      · exact ⟨h1, c, r, fs, rfl, h2, Or.inr (Or.inl ⟨h3, h4 (hn.t1.p trivial) hl⟩)⟩
      · refine ⟨h1, c, r, fs, rfl, h2, Or.inr (Or.inr ⟨k, h3, h4 (fun e => ?_) hl⟩)⟩
        have hk : (Nat.beq kd 1 || gfOK x y) = true := hk
        subst e
        have hk : gfOK x y = true := hk
        exact ⟨(hn rfl).1, NLS.cons (gf_get hk h2 h3) (hn rfl).2.tl⟩
    case putfield i =>
      obtain ⟨h1, c, r, fs, h2, ⟨a, rfl, h3, h4⟩ | ⟨a, rfl, h3, h4, h5⟩⟩ := h
      · exact ⟨h1, c, r, fs, h2, Or.inl ⟨a, rfl, h3, h4 hn.t2 hl⟩⟩
      · refine ⟨h1, c, r, fs, h2, Or.inr ⟨a, rfl, h3, h4, h5 hn.t2 (fun c' i' hc' => ?_)⟩⟩
        have hne : c' ≠ c := fun e => by
          rw [e, lgc_o h2] at hc'
          cases hc'
        exact (jup_cell M.2 _ _ _ hne).trans (hl c' i' hc')
    case iaload =>
      obtain ⟨h1, a, r, h2, ⟨c, n, rfl, h3, h4, h5⟩ | ⟨n, f, rfl, h3, h4, h5⟩⟩ := h
      · exact ⟨h1, a, r, h2, Or.inl ⟨c, n, rfl, h3, h4, h5 (hn.t2.p trivial) hl⟩⟩
      · exact ⟨h1, a, r, h2, Or.inr ⟨n, f, rfl, h3, h4, h5 (hn.t2.p trivial) hl⟩⟩
    case baload =>
      obtain ⟨h1, a, r, c, n, kd', rfl, h2, h3, h4, h5, h6⟩ := h
      exact ⟨h1, a, r, c, n, kd', rfl, h2, h3, h4, h5, h6 (hn.t2.p trivial) hl⟩
    case laload =>
      obtain ⟨h1, a, r, c, n, rfl, h2, h3, h4, h5⟩ := h
      exact ⟨h1, a, r, c, n, rfl, h2, h3, h4, h5 (hn.t2.p trivial) hl⟩
    case aaload =>
      obtain ⟨h1, a, r, c, k, kd', cs, rfl, h2, h3, h4, h5⟩ := h
      exact ⟨h1, a, r, c, k, kd', cs, rfl, h2, h3, h4, h5 (hn.t2.p (aa_get h2 h4)) hl⟩
    case iastore =>
      obtain ⟨h1, v, a, r, c, n, rfl, h2, h3, h4, h5⟩ := h
      exact ⟨h1, v, a, r, c, n, rfl, h2, h3, h4, h5 hn.t3 hl⟩
    case bastore =>
      obtain ⟨h1, v, a, r, c, n, kd', rfl, h2, h3, h4, h5, h6⟩ := h
      exact ⟨h1, v, a, r, c, n, kd', rfl, h2, h3, h4, h5, h6 hn.t3 hl⟩
    case lastore =>
      obtain ⟨h1, v, a, r, c, n, rfl, h2, h3, h4, h5⟩ := h
      exfalso
      have e2 : kd = 2 := Nat.eq_of_beq_eq_true hk
      have h6 : lgc c = false := (hn e2).2.tl.tl.hd
      rw [lgc_y h2] at h6
      cases h6
    case arraylength =>
      obtain ⟨h1, r, ⟨c, n, kd', rfl, h2, h3, h4⟩ | ⟨n, f, rfl, h2, h3⟩⟩ := h
      · exact ⟨h1, r, Or.inl ⟨c, n, kd', rfl, h2, h3, h4 (hn.t1.p trivial) hl⟩⟩
      · exact ⟨h1, r, Or.inr ⟨n, f, rfl, h2, h3 (hn.t1.p trivial) hl⟩⟩
    case invokestatic i =>
      obtain ⟨h1, ⟨h2, a, b, r, rfl, h3, h4⟩ | ⟨h2, a, b, r, rfl, h3, h4⟩ | ⟨h2, n, c1, c2, n1, n2, kd', r, M', rfl, h3, h4, h5, h6, h7, h8, h9, g1, g2, g3⟩⟩ := h
      · exact ⟨h1, Or.inl ⟨h2, a, b, r, rfl, h3, h4 (hn.t2.p trivial) hl⟩⟩
      · exact ⟨h1, Or.inr (Or.inl ⟨h2, a, b, r, rfl, h3, h4 (hn.t2.p trivial) hl⟩)⟩
      · refine ⟨h1, Or.inr (Or.inr ⟨h2, n, c1, c2, n1, n2, kd', r, M', rfl, h3, h4, h5, h6, h7, h8, h9, g1, g2, g3 (fun e => ⟨(hn e).1, (hn e).2.tl.tl.tl.tl.tl⟩) ?_⟩)⟩
        rcases h4 with e | e
        · rw [g1 e]
          exact hl
        · exfalso
          subst e h2
          have hk := (Bool.and_eq_true _ _ ▸ hk : _ ∧ _).1
          have e2 : kd = 2 := by
            have hk : (!Nat.beq 6 6 || Nat.beq kd 2) = true := hk
            exact Nat.eq_of_beq_eq_true hk
          have h10 : lgc c2 = false := (hn e2).2.tl.tl.hd
          rw [lgc_y h6] at h10
          cases h10
    case invokevirtual i =>
      obtain ⟨h1, ⟨h2, k, t, r, rfl, h3, h4, h5, h6⟩ | ⟨h2, a, k, t, r, rfl, h3, h4, h5, h6, h7, h8⟩⟩ := h
      · exact ⟨h1, Or.inl ⟨h2, k, t, r, rfl, h3, h4, h5, h6 (hn.t1.p trivial) hl⟩⟩
      · exact ⟨h1, Or.inr ⟨h2, a, k, t, r, rfl, h3, h4, h5, h6, h7, h8 (hn.t2.p trivial) hl⟩⟩
theorem NLL.ent : ∀ {As : List JV} {mL : Nat}, NLS As → NLL (jent As mL) := by
  intro As mL h
  have h1 : ∀ (As : List JV), NLS As → ∀ (k : Nat) (a : JV), (jsl As)[k]? = some (some a) → NLv a := by
    intro As
    induction As with
    | nil =>
      intro _ k a hk
      cases hk
    | cons b As ih =>
      intro hS k a hk
      unfold jsl at hk
      cases hb : isl b with
      | true =>
        rw [hb] at hk
        rcases k with _ | _ | k
        · obtain rfl := Option.some.inj (Option.some.inj hk)
          exact hS.hd
        · cases Option.some.inj hk
        · exact ih hS.tl k a hk
      | false =>
        rw [hb] at hk
        rcases k with _ | k
        · obtain rfl := Option.some.inj (Option.some.inj hk)
          exact hS.hd
        · exact ih hS.tl k a hk
  intro k a hk
  unfold jent at hk
  by_cases hl : k < (jsl As).length
  · rw [List.getElem?_append_left hl] at hk
    exact h1 As h k a hk
  · rw [List.getElem?_append_right (by omega), List.getElem?_replicate] at hk
    split at hk
    · cases Option.some.inj hk
    · cases hk
def nlO (r : Option JV) : Prop := ∀ a : JV, r = some a → NLv a
theorem nlO.rt {rt : Option FieldType} {ins : Instr} {S : List JV} {r : Option JV} (h : jrt rt ins S = some r) : nlO r := by
  intro a ha
  subst ha
  unfold jrt at h
  split at h
  · split at h
    · obtain rfl := Option.some.inj (Option.some.inj h)
      trivial
    · split at h
      · obtain rfl := Option.some.inj (Option.some.inj h)
        trivial
      · cases h
    · cases h
  · split at h
    · obtain rfl := Option.some.inj (Option.some.inj h)
      trivial
    · cases h
  · split at h
    · cases Option.some.inj h
    · cases h
  · cases h
def okLM (P : Nat → Option MR) (K : Nat → Nat) : Prop := ∀ (y : Nat) (mr : MR) (pc : Nat) (e : EN), P y = some mr → K y ≠ 0 → pg mr.2.2.2.2.2.2 pc = some (some e) → okLI K (K y) e = true
theorem jok_lk {P : Nat → Option MR} {K : Nat → Nat} (hK : okLM P K) (hK2 : ∀ y, K y ≤ 2) : ∀ (d y : Nat) (As : List JV) (M : JM) (post : JR), K y ≠ 0 → (K y = 2 → NLS As) → JOk shp P d y As M post → JOk shp P d y As M (fun r M' => post r M' ∧ LK M M' ∧ nlO r) := by
  intro d
  induction d with
  | zero =>
    intro y As M post _ _ h
    exact h.elim
  | succ d ih =>
    intro y As M post hy hA h
    obtain ⟨mr, h1, h2⟩ := h
    have hkd : K y = 1 ∨ K y = 2 := by
      have := hK2 y
      omega
    refine ⟨mr, h1, fun F' c1 c2 c3 => ?_⟩
    refine h2 (fun pc L S M1 => NK (K y) L S → LK M M1 → F' pc L S M1) ?_ ?_ ?_ (fun e => ⟨NLL.ent (hA e), NLS.nil⟩) (LK.rf M)
    · intro mr' pc ins len x y' z L S M1 a1 a2 a3 hn hl
      exact c1 mr' pc ins len x y' z L S M1 a1 a2 (jwp_lk hkd (hK y mr' pc _ a1 hy a2) hn hl a3)
    · intro mr' pc ins q L S M1 r a1 a2 a3 a4 hn hl
      exact c2 mr' pc ins q L S M1 r a1 a2 a3 ⟨a4, hl, nlO.rt a3⟩
    · intro mr' pc ins i x y' z L S M1 a1 a2 a3 mr2 As' r post2 b1 b2 b3 b4 b5 b6 b7 hn hl
      have he := hK y mr' pc _ a1 hy a2
      have hc : K y' = 1 ∨ (K y = 2 ∧ K y' = 2) := by
        rcases a3 with ⟨hx, rfl⟩ | ⟨rfl, rfl⟩
        · have he : ((!Nat.beq x 6 || Nat.beq (K y) 2) && (!(Nat.beq x 0 || Nat.beq x 3) || (Nat.beq (K y') 1 || (Nat.beq (K y) 2 && Nat.beq (K y') 2)))) = true := he
          have hx' : (Nat.beq x 0 || Nat.beq x 3) = true := by
            rcases hx with rfl | rfl <;> rfl
          rw [hx'] at he
          simp only [Bool.and_eq_true, Bool.or_eq_true, Bool.not_true, Bool.false_eq_true, false_or] at he
          rcases he.2 with e | ⟨e1, e2⟩
          · exact Or.inl (Nat.eq_of_beq_eq_true e)
          · exact Or.inr ⟨Nat.eq_of_beq_eq_true e1, Nat.eq_of_beq_eq_true e2⟩
        · have he : (!Nat.beq 1 1 || (Nat.beq (K y') 1 || (Nat.beq (K y) 2 && Nat.beq (K y') 2))) = true := he
          rw [Nat.beq_refl] at he
          simp only [Bool.and_eq_true, Bool.or_eq_true, Bool.not_true, Bool.false_eq_true, false_or] at he
          rcases he with e | ⟨e1, e2⟩
          · exact Or.inl (Nat.eq_of_beq_eq_true e)
          · exact Or.inr ⟨Nat.eq_of_beq_eq_true e1, Nat.eq_of_beq_eq_true e2⟩
      obtain ⟨B, q1, q2, q3⟩ := jtk_ok b2
      have hA' : K y' = 2 → NLS As' := by
        intro e
        rcases hc with e1 | ⟨e1, _⟩
        · omega
        · intro a ha
          rw [q3] at ha
          refine (hn e1).2 a ?_
          rw [q1]
          simp only [List.append_nil, List.mem_reverse] at ha
          exact List.mem_append_left _ ha
      refine c3 mr' pc ins i x y' z L S M1 a1 a2 a3 mr2 As' r _ b1 b2 b3 b4 b5 (ih y' As' M1 post2 (by omega) hA' b6) (fun v M2 hp => ?_)
      obtain ⟨p1, p2, p3⟩ := hp
      refine b7 v M2 p1 (fun e => ⟨(hn e).1, fun a ha => ?_⟩) (hl.tr p2)
      rcases List.mem_append.mp ha with hv | hr
      · exact p3 a (by cases v with
          | none => cases hv
          | some b =>
            have : a = b := by simpa using hv
            rw [this])
      · exact (hn e).2 a (by rw [q1]; exact List.mem_append_right _ hr)
def KJt : List (List Nat) := [[1, 1, 1, 1, 1, 1, 1, 1, 1, 1, 1, 1, 1, 1, 1, 1, 1, 1, 1, 1, 1, 1, 1, 1, 1, 2, 1, 2, 1, 2, 1, 1], [2, 2, 0, 1, 1, 1, 1, 1, 1, 2, 1, 1, 0, 1, 2, 1, 1, 1, 1, 1, 1, 2, 1, 1, 1, 1, 1, 2, 0, 2, 1, 1], [2, 1, 1, 2, 1, 1, 1, 1, 1, 1, 2, 2, 2, 2, 1, 1, 1, 1, 1, 1, 1, 1, 1, 1, 1, 1, 1, 1, 1, 1, 1, 1], [1, 1, 1, 0, 1, 1, 1, 1, 1, 1, 1, 1, 1, 1, 1, 1, 1, 1, 0, 1, 1, 1, 1, 1, 1, 1, 1, 1, 1, 1, 1, 1], [1, 1, 1, 1, 1, 1, 1, 1, 1, 1, 1, 1, 1, 1, 1, 1, 1, 1, 1, 1, 1, 1, 1, 1, 1, 1, 1, 1, 1, 1, 1, 0], [0, 0, 0, 1, 1, 0, 1, 1, 1, 1, 1, 1, 1, 1, 1, 0, 1, 1, 1, 1, 1, 1, 1, 1, 1, 1, 1, 1, 1, 1, 1, 1], [1, 1, 1, 1, 1, 1, 1, 1, 1, 1, 1, 1, 1, 1, 1, 1, 1, 1, 1, 1, 0, 1, 1, 1, 1, 1, 1, 1, 1, 1, 0, 0], [0, 0, 0, 1, 1, 1, 1, 0, 1, 1, 1, 1, 1, 1, 1, 2, 2, 1, 1, 1, 1, 1, 1, 1, 1, 2, 1, 1, 1, 1, 1, 1], [1, 1, 1, 1, 2, 1, 1, 1, 2, 1, 1, 1, 1, 1, 1, 1]]
noncomputable def KJ (y : Nat) : Nat := match pg KJt y with
  | some k => k
  | none => 0
noncomputable def chkKe (y : Nat) (o : Option EN) : Bool := match o with
  | some e => okLI KJ (KJ y) e
  | none => true
noncomputable def chkKy (y : Nat) : Bool := Nat.beq (KJ y) 0 || (match PJ y with
  | some mr => mr.2.2.2.2.2.2.all (fun row => row.all (chkKe y))
  | none => true)
theorem chkK : (List.range 288).all chkKy = true := by decide +kernel
theorem KJ_lt {y : Nat} (h : KJ y ≠ 0) : y < 288 := by
  rcases Nat.lt_or_ge y 288 with h1 | h1
  · exact h1
  · exfalso
    apply h
    unfold KJ pg
    have e : lg KJt (y / 32) = none := by
      rw [lg_eq]
      exact List.getElem?_eq_none (by show 9 ≤ y / 32; omega)
    rw [e]
theorem KJ_ok : okLM PJ KJ := by
  intro y mr pc e h1 h2 h3
  have h4 := List.all_eq_true.mp chkK y (List.mem_range.mpr (KJ_lt h2))
  unfold chkKy at h4
  rw [h1] at h4
  have hb : Nat.beq (KJ y) 0 = false := by
    cases hb : Nat.beq (KJ y) 0 with
    | false => rfl
    | true => exact absurd (Nat.eq_of_beq_eq_true hb) h2
  rw [hb] at h4
  have h4 : mr.2.2.2.2.2.2.all (fun row => row.all (chkKe y)) = true := h4
  unfold pg at h3
  rw [lg_eq] at h3
  cases hr : mr.2.2.2.2.2.2[pc / 32]? with
  | none => rw [hr] at h3; cases h3
  | some row =>
    rw [hr] at h3
    have h3 : lg row (pc % 32) = some (some e) := h3
    rw [lg_eq] at h3
    have h5 := List.all_eq_true.mp h4 row (List.mem_of_getElem? hr)
    exact List.all_eq_true.mp h5 _ (List.mem_of_getElem? h3)
theorem KJ_2 (y : Nat) : KJ y ≤ 2 := by
  have hc : KJt.all (fun r => r.all (fun k => Nat.ble k 2)) = true := by decide
  unfold KJ
  split
  · rename_i k hk
    unfold pg at hk
    rw [lg_eq] at hk
    cases hr : KJt[y / 32]? with
    | none => rw [hr] at hk; cases hk
    | some row =>
      rw [hr] at hk
      have hk : lg row (y % 32) = some k := hk
      rw [lg_eq] at hk
      exact Nat.le_of_ble_eq_true (List.all_eq_true.mp (List.all_eq_true.mp hc row (List.mem_of_getElem? hr)) k (List.mem_of_getElem? hk))
  · exact Nat.zero_le _
/-- a contract of a method that stores into no long row, with that said -/
theorem JOk.lk {d y : Nat} {As : List JV} {M : JM} {post : JR} (h : JOk shp PJ d y As M post) (hy : Nat.beq (KJ y) 0 = false) (hA : ∀ c : Nat, (.inr (.inr (.inl c)) : JV) ∈ As → lgc c = false) : JOk shp PJ d y As M (fun r M' => post r M' ∧ LK M M') :=
  (jok_lk KJ_ok KJ_2 d y As M post (fun e => by rw [e] at hy; cases hy) (fun _ a ha => by
    rcases a with a | a | a | a
    · trivial
    · trivial
    · exact hA a ha
    · trivial) h).weaken (fun r M' hp => ⟨hp.1, hp.2.1⟩)
