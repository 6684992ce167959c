/-! Contracts over plain numbers: what it is for a method to end as told (JOk), and that the machine's own call then ends so. -/
def jtk : Nat → List JV → List JV → Option (List JV × List JV)
  | 0, S, acc => some (acc, S)
  | Nat.succ n, a :: S, acc => jtk n S (a :: acc)
  | Nat.succ _, [], _ => none
theorem jtk_ok : ∀ {n : Nat} {S acc As r : List JV}, jtk n S acc = some (As, r) → ∃ B, S = B ++ r ∧ B.length = n ∧ As = B.reverse ++ acc
  | 0, S, acc, As, r, h => by
    obtain ⟨rfl, rfl⟩ := Prod.mk.inj (Option.some.inj h)
    exact ⟨[], rfl, rfl, rfl⟩
  | n + 1, [], acc, As, r, h => by cases h
  | n + 1, a :: S, acc, As, r, h => by
    obtain ⟨B, h1, h2, h3⟩ := jtk_ok (n := n) (S := S) (acc := a :: acc) h
    exact ⟨a :: B, by rw [h1]; rfl, by simp [h2], by simpa using h3⟩
def jsl : List JV → JL
  | [] => []
  | a :: As => bif isl a then some a :: none :: jsl As else some a :: jsl As
def jent (As : List JV) (mL : Nat) : JL := jsl As ++ List.replicate (mL - (jsl As).length) none
theorem jsl_len {bb : Nat → Nat} {ws : va_W} : ∀ {As : List JV} {vs : List Value}, jQ bb ws As vs → (lg_sl vs).length = (jsl As).length
  | [], [], _ => rfl
  | a :: As, v :: vs, h => by
    have ih := jsl_len h.2
    have hc := h.1.cat
    unfold lg_sl at ih ⊢
    unfold jsl
    rw [List.flatMap_cons, List.length_append, ih]
    cases hl : isl a with
    | true =>
      rw [hl] at hc
      rw [if_pos (show v.category = 2 from hc)]
      simp
      omega
    | false =>
      rw [hl] at hc
      rw [if_neg (by rw [hc]; decide)]
      simp
      omega
  | [], _ :: _, h => h.elim
  | _ :: _, [], h => h.elim
theorem jsl_get {bb : Nat → Nat} {ws : va_W} : ∀ {As : List JV} {vs : List Value} {k i : Nat} {a : JV}, jQ bb ws As vs → (jsl As)[i]? = some (some a) → ∃ v, (k + i, v) ∈ lv_args k vs ∧ jV bb ws a v
  | [], [], _, _, _, _, h => by simp [jsl] at h
  | x :: As, v :: vs, k, i, a, h, hi => by
    have hc := h.1.cat
    unfold jsl at hi
    unfold lv_args
    cases hl : isl x with
    | true =>
      rw [hl] at hc hi
      rw [if_pos (show v.category = 2 from hc)]
      rcases i with _ | _ | i
      · simp at hi
        subst hi
        exact ⟨v, List.mem_cons_self, h.1⟩
      · simp at hi
      · have hi : (jsl As)[i]? = some (some a) := by simpa using hi
        obtain ⟨w, h1, h2⟩ := jsl_get (k := k + 2) h.2 hi
        refine ⟨w, List.mem_cons_of_mem _ ?_, h2⟩
        rw [show k + (i + 1 + 1) = k + 2 + i by omega]
        exact h1
    | false =>
      rw [hl] at hc hi
      rw [if_neg (by rw [hc]; decide)]
      rcases i with _ | i
      · simp at hi
        subst hi
        exact ⟨v, List.mem_cons_self, h.1⟩
      · have hi : (jsl As)[i]? = some (some a) := by simpa using hi
        obtain ⟨w, h1, h2⟩ := jsl_get (k := k + 1) h.2 hi
        refine ⟨w, List.mem_cons_of_mem _ ?_, h2⟩
        rw [show k + (i + 1) = k + 1 + i by omega]
        exact h1
  | [], _ :: _, _, _, _, h, _ => h.elim
  | _ :: _, [], _, _, _, h, _ => h.elim
theorem jent_ok {bb : Nat → Nat} {ws : va_W} {As : List JV} {vs : List Value} {mL : Nat} (h : jQ bb ws As vs) (hle : (jsl As).length ≤ mL) : jLc bb ws mL (jent As mL) ((lg_sl vs ++ List.replicate (mL - (lg_sl vs).length) Slot.unset).toArray) := by
  have hlen := jsl_len h
  refine ⟨by unfold jent; simp; omega, _, lv_entry vs (by omega), fun i a hi => ?_⟩
  unfold jent at hi
  have hi : (jsl As)[i]? = some (some a) := by
    by_cases hlt : i < (jsl As).length
    · rw [List.getElem?_append_left hlt] at hi
      exact hi
    · rw [List.getElem?_append_right (Nat.le_of_not_lt hlt), List.getElem?_replicate] at hi
      split at hi
      · cases hi
      · cases hi
  obtain ⟨v, h1, h2⟩ := jsl_get (k := 0) h hi
  rw [Nat.zero_add] at h1
  exact ⟨v, h1, h2⟩
/-! what a predicate of places must keep -/
abbrev JP : Type := Nat → JL → List JV → JM → Prop
abbrev JR : Type := Option JV → JM → Prop
def jstC (sh : List JS) (P : Nat → Option MR) (sc : Option (Nat × (Nat → Int))) (y : Nat) (F : JP) : Prop := ∀ (mr : MR) (pc : Nat) (ins : Instr) (len x y' z : Nat) (L : JL) (S : List JV) (M : JM), P y = some mr → pg mr.2.2.2.2.2.2 pc = some (some (ins, (len, (x, (y', z))))) → jwp sh sc ins len x y' z pc L S M F → F pc L S M
/-- what a return gives -/
def jrt (rt : Option FieldType) (ins : Instr) (S : List JV) : Option (Option JV) := match ins, S with
  | .ireturn, [.inl v] => (match rt with
    | some .int => some (some (.inl v))
    | some .boolean => if 0 ≤ v ∧ v ≤ 1 then some (some (.inl v)) else none
    | _ => none)
  | .lreturn, [.inr (.inl v)] => (match rt with
    | some .long => some (some (.inr (.inl v)))
    | _ => none)
  | .return_, [] => (match rt with
    | none => some none
    | _ => none)
  | _, _ => none
def jreC (P : Nat → Option MR) (y : Nat) (post : JR) (F : JP) : Prop := ∀ (mr : MR) (pc : Nat) (ins : Instr) (q : Nat × (Nat × Nat)) (L : JL) (S : List JV) (M : JM) (r : Option JV), P y = some mr → pg mr.2.2.2.2.2.2 pc = some (some (ins, (1, q))) → jrt mr.2.2.2.1 ins S = some r → post r M → F pc L S M
def jcaC (sh : List JS) (P : Nat → Option MR) (ok : Nat → List JV → JM → JR → Prop) (y : Nat) (F : JP) : Prop := ∀ (mr : MR) (pc : Nat) (ins : Instr) (i x y' z : Nat) (L : JL) (S : List JV) (M : JM), P y = some mr → pg mr.2.2.2.2.2.2 pc = some (some (ins, (3, (x, (y', z))))) → ((x = 0 ∨ x = 3) ∧ ins = .invokestatic i ∨ x = 1 ∧ ins = .invokevirtual i) →
  ∀ (mr2 : MR) (As r : List JV) (post : JR), P y' = some mr2 → jtk mr2.2.2.2.2.1 S [] = some (As, r) → r.length ≤ 4 → (x = 1 → ∃ (c : Nat) (fs : List JF) (As' : List JV), As = .inr (.inr (.inl c)) :: As' ∧ sh[c]? = some (.inl (mr2.2.2.2.2.2.1, fs))) → (jsl As).length ≤ mr2.2.2.1 → ok y' As M post → (∀ v M', post v M' → F (pc + 3) L (v.toList ++ r) M') → F pc L S M
/-- a call of a method, of so many calls' depth, ends as told -/
def JOk (sh : List JS) (P : Nat → Option MR) : Nat → Nat → List JV → JM → JR → Prop
  | 0, _, _, _, _ => False
  | Nat.succ d, y, As, M, post => ∃ mr, P y = some mr ∧ ∀ F : JP, jstC sh P none y F → jreC P y post F → jcaC sh P (JOk sh P d) y F → F 0 (jent As mr.2.2.1) [] M
theorem JOk.up {sh : List JS} {P : Nat → Option MR} : ∀ {d y : Nat} {As : List JV} {M : JM} {post : JR}, JOk sh P d y As M post → JOk sh P (d + 1) y As M post
  | 0, _, _, _, _, h => h.elim
  | d + 1, y, As, M, post, h => by
    obtain ⟨mr, h1, h2⟩ := h
    exact ⟨mr, h1, fun F c1 c2 c3 => h2 F c1 c2 (fun mr pc ins i x y' z L S M a1 a2 a3 mr2 As r post b1 b2 b3 b4 b5 b6 b7 => c3 mr pc ins i x y' z L S M a1 a2 a3 mr2 As r post b1 b2 b3 b4 b5 b6.up b7)⟩
theorem JOk.le {sh : List JS} {P : Nat → Option MR} {d d' y : Nat} {As : List JV} {M : JM} {post : JR} (hd : d ≤ d') (h : JOk sh P d y As M post) : JOk sh P d' y As M post := by
  induction hd with
  | refl => exact h
  | step _ ih => exact ih.up
theorem JOk.weaken {sh : List JS} {P : Nat → Option MR} {d y : Nat} {As : List JV} {M : JM} {post post' : JR} (hp : ∀ r M, post r M → post' r M) (h : JOk sh P d y As M post) : JOk sh P d y As M post' := by
  cases d with
  | zero => exact h.elim
  | succ d =>
    obtain ⟨mr, h1, h2⟩ := h
    exact ⟨mr, h1, fun F c1 c2 c3 => h2 F c1 (fun mr pc ins q L S M r a1 a2 a3 a4 => c2 mr pc ins q L S M r a1 a2 a3 (hp r M a4)) c3⟩
/-! the same over the machine itself -/
def jO (bb : Nat → Nat) (ws : va_W) (r : Option JV) (v : Option Value) : Prop := match r, v with
  | none, none => True
  | some a, some x => jV bb ws a x
  | _, _ => False
def jS1 (i : Nat) (tx : String) (n k : Nat) (a v : Nat) (A : Nat → Prop) (U : State) : Prop := vk_R "MerryDuchy" i tx a U ∧ va_O "java/lang/String" a A U U.heap ∧ va_OF "java/lang/String" "coder" "B" (.int 0) a A U U.heap ∧ va_OF "java/lang/String" "value" "[B" (.ref v) a A U U.heap ∧ va_T .byte v n (fun j => .int (Int32.ofInt ((jtx.getD k []).getD j 0))) A U U.heap
def jEX (bb : Nat → Nat) (A : Nat → Prop) (U : State) : Prop := ∃ v1 v2 v3 : Nat, jS1 297 " would not" 10 1 (bb 1) v1 A U ∧ jS1 303 " would " 7 2 (bb 2) v2 A U ∧ jS1 305 " for " 5 3 (bb 3) v3 A U
theorem jS1.to {i n k a v : Nat} {tx : String} {A B : Nat → Prop} {s U : State} {H : Heap} {locs : List Loc} (h : jS1 i tx n k a v A s) (hW : s.WarmedH U.vm) (hU : U.heap = H) (hS : va_S A s.heap H locs) (hB : ∀ q, B q → A q) : jS1 i tx n k a v B U := by
  obtain ⟨h1, h2, h3, h4, h5⟩ := h
  have hk := hS.2.1
  subst hU
  exact ⟨h1.warm hW, ((va_O.moved hW.alike h2).kept hk).narrow hB, ((va_OF.moved hW.alike h3).kept hk).narrow hB, ((va_OF.moved hW.alike h4).kept hk).narrow hB, ((va_T.moved hW.alike h5).kept hk).narrow hB⟩
theorem jS1.same {i n k a v : Nat} {tx : String} {A : Nat → Prop} {s U : State} (hv : s.vm = U.vm) (hh : s.heap = U.heap) (h : jS1 i tx n k a v A s) : jS1 i tx n k a v A U := by
  have ha : s.vm.Alike U.vm := by rw [← hv]; exact Vm.Alike.refl _
  obtain ⟨h1, h2, h3, h4, h5⟩ := h
  unfold jS1
  rw [← hh]
  exact ⟨h1.same hv.symm, va_O.moved ha h2, va_OF.moved ha h3, va_OF.moved ha h4, va_T.moved ha h5⟩
theorem jEX.to {bb : Nat → Nat} {A B : Nat → Prop} {s U : State} {H : Heap} {locs : List Loc} (h : jEX bb A s) (hW : s.WarmedH U.vm) (hU : U.heap = H) (hS : va_S A s.heap H locs) (hB : ∀ q, B q → A q) : jEX bb B U := by
  obtain ⟨v1, v2, v3, h1, h2, h3⟩ := h
  exact ⟨v1, v2, v3, h1.to hW hU hS hB, h2.to hW hU hS hB, h3.to hW hU hS hB⟩
theorem jEX.same {bb : Nat → Nat} {A : Nat → Prop} {s U : State} (hv : s.vm = U.vm) (hh : s.heap = U.heap) (h : jEX bb A s) : jEX bb A U := by
  obtain ⟨v1, v2, v3, h1, h2, h3⟩ := h
  exact ⟨v1, v2, v3, h1.same hv hh, h2.same hv hh, h3.same hv hh⟩
def Qj (sh : List JS) (G : va_G) (cy : Nat → ClassId) (bb : Nat → Nat) (ws : va_W) (sz : Nat) (post : JR) : Array Value → State → Outcome → State → Prop := fun _ st o t =>
  (∃ (v : Option Value) (ws1 : va_W) (r : Option JV) (M' : JM), o = .returned v ∧ va_P G vwCl ws1 t.heap ∧ va_D (va_A ws sz) ws1 ∧ jH sh cy ws1 M' ∧ sub_ ws ws1 ∧ jO bb ws1 r v ∧ post r M') ∧ va_F (va_A ws sz) st t
def Pj (G : va_G) (cy : Nat → ClassId) (bb : Nat → Nat) (ws : va_W) (sz : Nat) (vs : List Value) : Array Value → State → Prop := va_Pc vs (fun U => U.heap.size = sz ∧ va_P G vwCl ws U.heap ∧ KK G cy U ∧ va_D (fun _ => True) ws ∧ EX (va_A ws sz) U ∧ jEX bb (va_A ws sz) U)
theorem Pj.blind {G : va_G} {cy : Nat → ClassId} {bb : Nat → Nat} {ws : va_W} {sz : Nat} {vs : List Value} : FrameBlind (Pj G cy bb ws sz vs) := fun a U g mk q => ⟨q.1, q.2.1, q.2.2.1, KK.same (s := U) (U := U.calling g mk a) rfl q.2.2.2.1, q.2.2.2.2.1, EX.same (s := U) (U := U.calling g mk a) rfl rfl q.2.2.2.2.2.1, jEX.same (s := U) (U := U.calling g mk a) rfl rfl q.2.2.2.2.2.2⟩
/-- a contract of the machine's own -/
def JMt (l : Launch) (sh : List JS) (G : va_G) (cy : Nat → ClassId) (mr : MR) (d : Nat) (As : List JV) (M : JM) (post : JR) : Prop := ∀ (bb : Nat → Nat) (vs : List Value) (ws : va_W) (sz : Nat), jQ bb ws As vs → jH sh cy ws M →
  Met l mr.1 (Cond.code mr.1 mr.2.1 mr.2.2.1 mr.2.2.2.1 :: gtbl) (rmD d 0 0) (Pj G cy bb ws sz vs) (Qj sh G cy bb ws sz post) 0 0 (va_A ws sz)
section JOKS
variable {p : Program} {l : Launch} {e : Env} {R : Room} {s : State} {m : MethodId} {args : Array Value} {below : List Frame} {meth : Method} {c : Code} {Q : State → Prop}
variable {sh : List JS} {G : va_G} {cy : Nat → ClassId} {bb : Nat → Nat} {ws0 : va_W} {A : Nat → Prop} {own nm : String} {cc : ByteArray} {nL kc ks : Nat}
theorem va_callj {pc sz : Nat} {ls : Array Slot} {rest st0 : List Value} {a : Array Value} {A0 A1 : Nat → Prop} {H0 H : Heap} {locs : List Loc} {cells slots : Nat} {ws : va_W} {post : JR} (hA1 : A1 = va_A ws sz) (hr : va_Run p l e R s m args below meth c H locs cells slots 0 0 (F0 m pc ls st0) rest (Qj sh G cy bb ws sz post a) A1) (hS : va_S A0 H0 H locs) (hA : ∀ q, A1 q → A0 q)
    (kk : ∀ (v : Option Value) (ws1 : va_W) (r : Option JV) (M' : JM) (H1 : Heap) (locs1 : List Loc), va_P G vwCl ws1 H1 → va_D A0 ws1 → jH sh cy ws1 M' → sub_ ws ws1 → jO bb ws1 r v → post r M' → va_S A0 H0 H1 locs1 → W p l e R s m args below meth c H1 locs1 cells slots Q (F0 m (pc + 3) ls (v.toList ++ rest))) : W p l e R s m args below meth c H locs cells slots Q (F0 m pc ls st0) := by
  subst hA1
  intro T hT X
  obtain ⟨v0, st₀, t, T', L, h0, X', hL, e1, e2, ⟨⟨v, ws1, r, M', hv, hP, hD, hG, hsub, hO, hp⟩, hz, hk⟩, st⟩ := hr T hT X
  cases hv
  rw [h0] at hz hk
  obtain ⟨t2, a1, b1⟩ := kk v0 ws1 r M' T'.heap (locs ++ L) (by rw [e1]; exact hP) (hD.weaken (fun _ _ _ h => hA _ h)) hG hsub hO hp
    ⟨Nat.le_trans hS.1 (by rw [e1]; exact hz), fun q h1 h2 => by rw [e1, hk q (Nat.lt_of_lt_of_le h1 hS.1) (fun z => h2 (hA q z))]; exact hS.2.1 q h1 h2, fun q hq => by
      rcases List.mem_append.mp hq with h | h
      · exact hS.2.2 q h
      · exact hA _ (hL q h)⟩ T' rfl X'
  exact ⟨t2, st t2 a1, b1⟩
theorem k_call (C : Cx p c m s args meth G cy A own nm cc nL) (hE : jEX bb A s) {mr : MR} {d pc i x : Nat} {As r S : List JV} {L : JL} {M : JM} {post : JR}
    (hd : (x = 0 ∨ x = 3) ∧ decode cc pc = .ok (.invokestatic i, 3) ∨ x = 1 ∧ decode cc pc = .ok (.invokevirtual i, 3))
    (hl : lnk own i x mr.1 mr.2.2.2.2.1 mr.2.2.2.2.2.1) (hS : jtk mr.2.2.2.2.1 S [] = some (As, r)) (hcode : Cond.code mr.1 mr.2.1 mr.2.2.1 mr.2.2.2.1 ∈ gtbl) (hmL : mr.2.2.1 ≤ 80) (hrec : x = 1 → ∃ (c : Nat) (fs : List JF) (As' : List JV), As = .inr (.inr (.inl c)) :: As' ∧ sh[c]? = some (.inl (mr.2.2.2.2.2.1, fs)))
    (hct : JMt l sh G cy mr d As M post) (hS4 : r.length ≤ 4) (hRf : d + 1 ≤ R.frames) (hRl : 100 * d + 100 ≤ R.locals) (hRc : kc ≤ R.cells ∧ ks ≤ R.slots)
    (k : ∀ v M', post v M' → Jk p l e R s m args below meth c Q sh G cy bb ws0 A nL kc ks (pc + 3) L (v.toList ++ r) M') : Jk p l e R s m args below meth c Q sh G cy bb ws0 A nL kc ks pc L S M := by
  intro ws ls st H locs hs
  obtain ⟨B, rfl, hBl, hAs⟩ := jtk_ok hS
  rw [List.append_nil] at hAs
  obtain ⟨vr, rest, rfl, gr, grest⟩ := hs.2.2.1.app
  have gAs : jQ bb ws As vr.reverse := by rw [hAs]; exact gr.rev
  obtain ⟨vs, rfl⟩ : ∃ vs : List Value, vr = vs.reverse := ⟨vr.reverse, by simp⟩
  rw [List.reverse_reverse] at gAs
  have hM := hct bb vs ws H.size gAs hs.1
  have hsum := grest.sum
  have hsz : ls.size = nL := by
    obtain ⟨_, lv, h1, _⟩ := hs.2.1
    exact h1.1
  have hAA : ∀ q, va_A ws H.size q → A q := by
    intro q hq
    rcases hq with ⟨k', e', hk'⟩ | hq
    · exact hs.2.2.2.2.1.2 k' _ hk'
    · exact C.2.2.2.2.2.2.1 q (Nat.le_trans hs.2.2.2.2.2.1.1 hq)
  have hpre : ∀ U : State, U.heap = H → s.WarmedH U.vm → Pj G cy bb ws H.size vs vs.toArray U := fun U hU hW => ⟨rfl, by rw [hU], by rw [hU]; exact hs.2.2.2.1, C.2.2.2.2.2.1.warm hW, hs.2.2.2.2.1.weaken (fun _ _ _ _ => trivial), C.2.2.2.2.2.2.2.2.to hW hU hs.2.2.2.2.2.1 hAA, hE.to hW hU hs.2.2.2.2.2.1 hAA⟩
  have hcnt : kc + 0 ≤ R.cells ∧ ks + 0 ≤ R.slots := hRc
  have hroom : (rmD d 0 0).frames + 1 ≤ R.frames ∧ 8 + (mr.2.2.1 + 11) + (rmD d 0 0).locals ≤ R.locals := ⟨hRf, by show 8 + (mr.2.2.1 + 11) + 100 * d ≤ R.locals; omega⟩
  have hfix : CallFix p m c cc nL s args gtbl own := ⟨C.1, C.2.1, C.2.2.1, C.2.2.2.1, C.2.2.2.2.1⟩
  have hlr : 2 * (F0 m pc ls (vs.reverse ++ rest)).monitorRoom + (rest.map fun v => v.category).sum ≤ 8 := by
    have : (F0 m pc ls (vs.reverse ++ rest)).monitorRoom = 0 := rfl
    rw [this]; omega
  have after : ∀ (v : Option Value) (ws1 : va_W) (r' : Option JV) (M' : JM) (H1 : Heap) (locs1 : List Loc), va_P G vwCl ws1 H1 → va_D A ws1 → jH sh cy ws1 M' → sub_ ws ws1 → jO bb ws1 r' v → post r' M' → va_S A s.heap H1 locs1 → W p l e R s m args below meth c H1 locs1 kc ks Q (F0 m (pc + 3) ls (v.toList ++ rest)) := by
    intro v ws1 r' M' H1 locs1 hP hD hG hsub hO hp hS
    refine k r' M' hp ws1 ls (v.toList ++ rest) H1 locs1 ⟨hG, hs.2.1.mono hsub, ?_, hP, hD, hS, hs.2.2.2.2.2.2.tr hsub⟩
    cases r' with
    | none =>
      cases v with
      | none => exact grest.mono hsub
      | some v => exact hO.elim
    | some a =>
      cases v with
      | none => exact hO.elim
      | some v => exact ⟨hO, grest.mono hsub⟩
  have hvl : vs.length = mr.2.2.2.2.1 := by rw [← gAs.len, hAs, List.length_reverse]; exact hBl
  obtain ⟨hmh, hci, n, hpar, hk⟩ := hl
  have gi : GoodIn gtbl (Cond.code mr.1 mr.2.1 mr.2.2.1 mr.2.2.2.1 :: gtbl) := gd_tbl hcode
  rcases hk with ⟨rfl, hna, hlk, hst⟩ | ⟨rfl, hna, hlk, hin, hse, T, N, hcl⟩ | ⟨rfl, _⟩ | ⟨rfl, hna, ⟨host, hlk⟩, hst⟩ | ⟨rfl, _⟩
  · have hdd : decode cc pc = .ok (.invokestatic i, 3) := by
      rcases hd with ⟨_, h⟩ | ⟨h, _⟩
      · exact h
      · cases h
    exact va_callj rfl (va_runS (As := vs) (rest := rest) hfix hM (va_cwS n C.2.2.2.2.1 (gd_app (gd_3 hlk hst hci) gi) rfl rfl rfl ⟨hmh.1, hmh.2, hpar⟩ hroom) ⟨Pj.blind, hpre⟩ rfl (by omega) hsz rfl hlr hdd hcnt) hs.2.2.2.2.2.1 hAA after
  · have hdd : decode cc pc = .ok (.invokevirtual i, 3) := by
      rcases hd with ⟨h | h, _⟩ | ⟨_, h⟩
      · cases h
      · cases h
      · exact h
    obtain ⟨ia, fs, As', hAe, hia⟩ := hrec rfl
    rw [hAe] at gAs
    obtain ⟨v0, vs', rfl, gv0, gvs⟩ := gAs.cons
    obtain ⟨q, e0, rfl, he⟩ := gv0.ref
    obtain ⟨vv, rfl, _⟩ := j_at hs.1 he hia
    have hrv := va_recv C.2.2.2.2.2.1.1 hs.2.2.2.1 hcl he
    exact va_callj rfl (va_runV (C := mr.1.cls) (As := vs') (rest := rest) (b := q) hfix hM (cwV n C.2.2.2.2.1 (gd_app (gd_4 hlk hin hse hci) gi) rfl rfl rfl ⟨rfl, hmh.1, hmh.2, hpar⟩ hroom) ⟨Pj.blind, hrv, hpre⟩ rfl (by simp only [List.length_cons] at hvl; omega) hsz (by show _ = _; exact app_rev) hlr hdd hcnt) hs.2.2.2.2.2.1 hAA after
  · omega
  · have hdd : decode cc pc = .ok (.invokestatic i, 3) := by
      rcases hd with ⟨_, h⟩ | ⟨h, _⟩
      · exact h
      · cases h
    exact va_callj rfl (va_runSN (As := vs) (rest := rest) hfix hM ⟨va_cnB n C.2.2.2.2.1 gi rfl rfl rfl (C.2.2.2.2.2.1.2.1 _ hlk) (C.2.2.2.2.1 _ hci) ⟨hmh.1, hmh.2, hpar⟩ hroom, C.2.2.2.2.1 _ hst, trivial⟩ ⟨Pj.blind, hpre⟩ rfl (by omega) hsz rfl hlr hdd hcnt) hs.2.2.2.2.2.1 hAA after
  · omega
end JOKS
