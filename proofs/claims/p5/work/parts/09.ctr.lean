/-! The walk: contracts and calls. -/
def gO (b : Nat) (ws : va_W) (r : Option AV) (v : Option Value) : Prop := match r, v with
  | none, none => True
  | some a, some x => gV b ws a x
  | _, _ => False
def Qg (G : va_G) (cy : Nat → ClassId) (b : Nat) (ws : va_W) (sz : Nat) (r : Option AV) (h' : AH) : Array Value → State → Outcome → State → Prop := fun _ st o t =>
  (∃ (v : Option Value) (ws1 : va_W), o = .returned v ∧ va_P G vwCl ws1 t.heap ∧ va_D (va_A ws sz) ws1 ∧ gH cy b ws1 h' ∧ sub_ ws ws1 ∧ gO b ws1 r v) ∧ va_F (va_A ws sz) st t
def Pg (G : va_G) (cy : Nat → ClassId) (ws : va_W) (sz : Nat) (vs : List Value) : Array Value → State → Prop := va_Pc vs (fun U => U.heap.size = sz ∧ va_P G vwCl ws U.heap ∧ KK G cy U ∧ va_D (fun _ => True) ws ∧ EX (va_A ws sz) U)
theorem Pg.blind {G : va_G} {cy : Nat → ClassId} {ws : va_W} {sz : Nat} {vs : List Value} : FrameBlind (Pg G cy ws sz vs) := fun a U g mk q => ⟨q.1, q.2.1, q.2.2.1, KK.same (s := U) (U := U.calling g mk a) rfl q.2.2.2.1, q.2.2.2.2.1, EX.same (s := U) (U := U.calling g mk a) rfl rfl q.2.2.2.2.2⟩
/-- a method's contract at an abstract start -/
def Ctr (l : Launch) (G : va_G) (cy : Nat → ClassId) (mr : MR) (d : Nat) (As : List AV) (h : AH) (r : Option AV) (h' : AH) : Prop := h.1 ≤ h'.1 ∧ h.2.1 ≤ h'.2.1 ∧ ∀ (b : Nat) (vs : List Value) (ws : va_W) (sz : Nat), gS b ws As vs → gH cy b ws h →
  Met l mr.1 (Cond.code mr.1 mr.2.1 mr.2.2.1 mr.2.2.2.1 :: gtbl) (rmD d (h'.1 - h.1) (h'.2.1 - h.2.1)) (Pg G cy ws sz vs) (Qg G cy b ws sz r h') (h'.1 - h.1) (h'.2.1 - h.2.1) (va_A ws sz)
section CTR
variable {p : Program} {l : Launch} {e : Env} {R : Room} {s : State} {m : MethodId} {args : Array Value} {below : List Frame} {meth : Method} {c : Code} {Q : State → Prop}
variable {G : va_G} {cy : Nat → ClassId} {b : BB} {A : Nat → Prop} {own nm : String} {cc : ByteArray} {nL c0 s0 : Nat}
theorem va_callg {pc mc ms sz : Nat} {ls : Array Slot} {rest st0 : List Value} {a : Array Value} {A0 A1 : Nat → Prop} {H0 H : Heap} {locs : List Loc} {cells slots : Nat} {ws : va_W} {r : Option AV} {h' : AH} (hA1 : A1 = va_A ws sz) (hr : va_Run p l e R s m args below meth c H locs cells slots mc ms (F0 m pc ls st0) rest (Qg G cy b.1 ws sz r h' a) A1) (hS : va_S A0 H0 H locs) (hA : ∀ q, A1 q → A0 q)
    (kk : ∀ (v : Option Value) (ws1 : va_W) (H1 : Heap) (locs1 : List Loc), va_P G vwCl ws1 H1 → va_D A0 ws1 → gH cy b.1 ws1 h' → sub_ ws ws1 → gO b.1 ws1 r v → va_S A0 H0 H1 locs1 → W p l e R s m args below meth c H1 locs1 (cells + mc) (slots + ms) Q (F0 m (pc + 3) ls (v.toList ++ rest))) : W p l e R s m args below meth c H locs cells slots Q (F0 m pc ls st0) := by
  subst hA1
  intro T hT X
  obtain ⟨v0, st₀, t, T', L, h0, X', hL, e1, e2, ⟨⟨v, ws1, hv, hP, hD, hG, hsub, hO⟩, hz, hk⟩, st⟩ := hr T hT X
  cases hv
  rw [h0] at hz hk
  obtain ⟨t2, a1, b1⟩ := kk v0 ws1 T'.heap (locs ++ L) (by rw [e1]; exact hP) (hD.weaken (fun _ _ _ h => hA _ h)) hG hsub hO
    ⟨Nat.le_trans hS.1 (by rw [e1]; exact hz), fun q h1 h2 => by rw [e1, hk q (Nat.lt_of_lt_of_le h1 hS.1) (fun z => h2 (hA q z))]; exact hS.2.1 q h1 h2, fun q hq => by
      rcases List.mem_append.mp hq with h | h
      · exact hS.2.2 q h
      · exact hA _ (hL q h)⟩ T' rfl X'
  exact ⟨t2, st t2 a1, b1⟩
theorem gd_tbl {w : Cond} (h : w ∈ gtbl) : GoodIn gtbl (w :: gtbl) := by
  have hg : ∀ x ∈ gtbl, x ∈ gtbl ∧ ((x.onTables && x.keeps) = true ∨ ∃ ty, x = .arrayClass ty) := fun x hx => ⟨hx, good_of_word (List.mem_filter.mp hx).2⟩
  intro x hx
  rcases List.mem_cons.mp hx with rfl | hx
  · exact hg _ h
  · exact hg _ hx
theorem gd_app {a c : List Cond} {big : List Cond} (ha : GoodIn big a) (hc : GoodIn big c) : GoodIn big (a ++ c) := fun w h => (List.mem_append.mp h).elim (ha w) (hc w)
theorem gd_mem {ws : List Cond} (h : ∀ w ∈ ws, w ∈ gtbl) : GoodIn gtbl ws := fun w hw => ⟨h w hw, good_of_word (List.mem_filter.mp (h w hw)).2⟩
theorem gd_3 {a c d : Cond} (h1 : a ∈ gtbl) (h2 : c ∈ gtbl) (h3 : d ∈ gtbl) : GoodIn gtbl [a, c, d] := gd_mem (List.forall_mem_cons.mpr ⟨h1, List.forall_mem_cons.mpr ⟨h2, List.forall_mem_cons.mpr ⟨h3, fun _ h => absurd h List.not_mem_nil⟩⟩⟩)
theorem gd_4 {a c d f : Cond} (h1 : a ∈ gtbl) (h2 : c ∈ gtbl) (h3 : d ∈ gtbl) (h4 : f ∈ gtbl) : GoodIn gtbl [a, c, d, f] := gd_mem (List.forall_mem_cons.mpr ⟨h1, List.forall_mem_cons.mpr ⟨h2, List.forall_mem_cons.mpr ⟨h3, List.forall_mem_cons.mpr ⟨h4, fun _ h => absurd h List.not_mem_nil⟩⟩⟩⟩)
/-- which call an instruction makes: 0 static, 1 virtual, 2 a constructor; 3, 4: static, constructor of a nest mate -/
def lnk (own : String) (i x : Nat) (y : MethodName) (na ci : Nat) : Prop :=
  (y.cls ≠ "java/lang/invoke/MethodHandle" ∧ y.cls ≠ "java/lang/invoke/VarHandle") ∧ Cond.initialized y.cls ∈ gtbl ∧ ∃ n, (parseMethodDescriptor y.desc).map (fun d => d.parameters.length) = some n ∧
  ((x = 0 ∧ na = n ∧ Cond.methodLink own i y ∈ gtbl ∧ Cond.static y ∈ gtbl) ∨
   (x = 1 ∧ na = n + 1 ∧ Cond.methodLink own i y ∈ gtbl ∧ Cond.instanceMethod y ∈ gtbl ∧ Cond.selects y.cls y y ∈ gtbl ∧ ∃ (T : u_T) (N : Nat), vwCl[ci]? = some (y.cls, T, N)) ∨
   (x = 2 ∧ na = n + 1 ∧ Cond.methodLink own i y ∈ gtbl ∧ Cond.instanceMethod y ∈ gtbl ∧ y.name = "<init>") ∨
   (x = 3 ∧ na = n ∧ (∃ host, (own, i, y, host) ∈ nestT) ∧ Cond.static y ∈ gtbl) ∨
   (x = 4 ∧ na = n + 1 ∧ (∃ host, (own, i, y, host) ∈ nestT) ∧ Cond.instanceMethod y ∈ gtbl ∧ y.name = "<init>"))
theorem app_rev {a : Value} {vs : List Value} {rest : List Value} : (a :: vs).reverse ++ rest = vs.reverse ++ a :: rest := by simp
theorem s_call (C : Cx p c m s args meth G cy A own nm cc nL) {mr : MR} {d pc i x : Nat} {As S : List AV} {L : LO} {h h' : AH} {r : Option AV}
    (hd : (x = 0 ∨ x = 3) ∧ decode cc pc = .ok (.invokestatic i, 3) ∨ x = 1 ∧ decode cc pc = .ok (.invokevirtual i, 3) ∨ (x = 2 ∨ x = 4) ∧ decode cc pc = .ok (.invokespecial i, 3))
    (hl : lnk own i x mr.1 mr.2.2.2.2.1 mr.2.2.2.2.2.1) (hlen : As.length = mr.2.2.2.2.1) (hcode : Cond.code mr.1 mr.2.1 mr.2.2.1 mr.2.2.2.1 ∈ gtbl) (hmL : mr.2.2.1 ≤ 80) (hrec : x = 1 → ∃ a As', As = a :: As' ∧ isO h mr.2.2.2.2.2.1 a = true) (hini : (x = 2 ∨ x = 4) → mr.2.2.2.1 = none ∧ ∃ a As', As = .inr (.inr (.inl a)) :: As')
    (hct : Ctr l G cy mr d As h r h') (hS4 : S.length ≤ 4) (hRf : d + 1 ≤ R.frames) (hRl : 100 * d + 100 ≤ R.locals) (hc0 : c0 ≤ h.1 + 1) (hs0 : s0 ≤ h.2.1) (hRc : h'.1 + 1 - c0 ≤ R.cells ∧ h'.2.1 - s0 ≤ R.slots)
    (k : Wk p l e R s m args below meth c Q G cy b A nL c0 s0 (pc + 3) L (r.toList ++ S) h') : Wk p l e R s m args below meth c Q G cy b A nL c0 s0 pc L (As.reverse ++ S) h := by
  obtain ⟨hm1, hm2, hct⟩ := hct
  intro ws ls st H locs hs
  obtain ⟨vr, rest, rfl, gr, grest⟩ := hs.2.2.1.app
  have gAs : gS b.1 ws As vr.reverse := by simpa using gr.rev
  obtain ⟨vs, rfl⟩ : ∃ vs : List Value, vr = vs.reverse := ⟨vr.reverse, by simp⟩
  rw [List.reverse_reverse] at gAs
  have hM := hct b.1 vs ws H.size gAs hs.1
  have hsum := grest.sum
  have hsz : ls.size = nL := by
    obtain ⟨_, lv, h1, _⟩ := hs.2.1
    exact h1.1
  have hAA : ∀ q, va_A ws H.size q → A q := by
    intro q hq
    rcases hq with ⟨k', e', hk'⟩ | hq
    · exact hs.2.2.2.2.1.2 k' _ hk'
    · exact C.2.2.2.2.2.2.1 q (Nat.le_trans hs.2.2.2.2.2.1 hq)
  have hpre : ∀ U : State, U.heap = H → s.WarmedH U.vm → Pg G cy ws H.size vs vs.toArray U := fun U hU hW => ⟨rfl, by rw [hU], by rw [hU]; exact hs.2.2.2.1, C.2.2.2.2.2.1.warm hW, hs.2.2.2.2.1.weaken (fun _ _ _ _ => trivial), C.2.2.2.2.2.2.2.2.to hW hU hs.2.2.2.2.2 hAA⟩
  have hcnt : h.1 + 1 - c0 + (h'.1 - h.1) ≤ R.cells ∧ h.2.1 - s0 + (h'.2.1 - h.2.1) ≤ R.slots := ⟨by omega, by omega⟩
  have hroom : (rmD d (h'.1 - h.1) (h'.2.1 - h.2.1)).frames + 1 ≤ R.frames ∧ 8 + (mr.2.2.1 + 11) + (rmD d (h'.1 - h.1) (h'.2.1 - h.2.1)).locals ≤ R.locals := ⟨hRf, by show 8 + (mr.2.2.1 + 11) + 100 * d ≤ R.locals; omega⟩
  have hfix : CallFix p m c cc nL s args gtbl own := ⟨C.1, C.2.1, C.2.2.1, C.2.2.2.1, C.2.2.2.2.1⟩
  have hlr : 2 * (F0 m pc ls (vs.reverse ++ rest)).monitorRoom + (rest.map fun v => v.category).sum ≤ 8 := by
    have : (F0 m pc ls (vs.reverse ++ rest)).monitorRoom = 0 := rfl
    rw [this]; omega
  have after : ∀ (v : Option Value) (ws1 : va_W) (H1 : Heap) (locs1 : List Loc), va_P G vwCl ws1 H1 → va_D A ws1 → gH cy b.1 ws1 h' → sub_ ws ws1 → gO b.1 ws1 r v → va_S A s.heap H1 locs1 → W p l e R s m args below meth c H1 locs1 (h.1 + 1 - c0 + (h'.1 - h.1)) (h.2.1 - s0 + (h'.2.1 - h.2.1)) Q (F0 m (pc + 3) ls (v.toList ++ rest)) := by
    intro v ws1 H1 locs1 hP hD hG hsub hO hS
    refine W.widen (k := h'.1 + 1 - c0) (n := h'.2.1 - s0) (by omega) (by omega) ?_
    refine k ws1 ls (v.toList ++ rest) H1 locs1 ⟨hG, hs.2.1.mono hsub, ?_, hP, hD, hS⟩
    cases r with
    | none =>
      cases v with
      | none => exact grest.mono hsub
      | some v => exact hO.elim
    | some a =>
      cases v with
      | none => exact hO.elim
      | some v => exact ⟨hO, grest.mono hsub⟩
  have hvl : vs.length = mr.2.2.2.2.1 := by rw [← gAs.len]; exact hlen
  obtain ⟨hmh, hci, n, hpar, hk⟩ := hl
  have gi : GoodIn gtbl (Cond.code mr.1 mr.2.1 mr.2.2.1 mr.2.2.2.1 :: gtbl) := gd_tbl hcode
  rcases hk with ⟨rfl, hna, hlk, hst⟩ | ⟨rfl, hna, hlk, hin, hse, T, N, hcl⟩ | ⟨rfl, hna, hlk, hin, hnm⟩ | ⟨rfl, hna, ⟨host, hlk⟩, hst⟩ | ⟨rfl, hna, ⟨host, hlk⟩, hin, hnm⟩
  · have hdd : decode cc pc = .ok (.invokestatic i, 3) := by
      rcases hd with ⟨_, h⟩ | ⟨h, _⟩ | ⟨h | h, _⟩
      · exact h
      · cases h
      · cases h
      · cases h
    exact va_callg rfl (va_runS (As := vs) (rest := rest) hfix hM (va_cwS n C.2.2.2.2.1 (gd_app (gd_3 hlk hst hci) gi) rfl rfl rfl ⟨hmh.1, hmh.2, hpar⟩ hroom) ⟨Pg.blind, hpre⟩ rfl (by omega) hsz rfl hlr hdd hcnt) hs.2.2.2.2.2 hAA after
  · have hdd : decode cc pc = .ok (.invokevirtual i, 3) := by
      rcases hd with ⟨h | h, _⟩ | ⟨_, h⟩ | ⟨h | h, _⟩
      · cases h
      · cases h
      · exact h
      · cases h
      · cases h
    obtain ⟨a, As', rfl, ho⟩ := hrec rfl
    obtain ⟨ia, fs, rfl, hia⟩ := isO_ok ho
    obtain ⟨v0, vs', rfl, gv0, gvs⟩ := gAs.cons
    obtain ⟨q, e0, rfl, he⟩ := gv0.ref
    obtain ⟨vv, he', _⟩ := at_obj hs.1 he hia
    have hrv := va_recv C.2.2.2.2.2.1.1 hs.2.2.2.1 hcl he'
    exact va_callg rfl (va_runV (C := mr.1.cls) (As := vs') (rest := rest) (b := q) hfix hM (cwV n C.2.2.2.2.1 (gd_app (gd_4 hlk hin hse hci) gi) rfl rfl rfl ⟨rfl, hmh.1, hmh.2, hpar⟩ hroom) ⟨Pg.blind, hrv, hpre⟩ rfl (by simp only [List.length_cons] at hvl; omega) hsz (by show _ = _; exact app_rev) hlr hdd hcnt) hs.2.2.2.2.2 hAA after
  · have hdd : decode cc pc = .ok (.invokespecial i, 3) := by
      rcases hd with ⟨h | h, _⟩ | ⟨h, _⟩ | ⟨_, h⟩
      · cases h
      · cases h
      · cases h
      · exact h
    obtain ⟨hret, ia, As', rfl⟩ := hini (Or.inl rfl)
    obtain ⟨v0, vs', rfl, gv0, gvs⟩ := gAs.cons
    obtain ⟨q, e0, rfl, he⟩ := gv0.ref
    exact va_callg rfl (va_runI (As := vs') (rest := rest) (b := q) hfix hM (cwI n C.2.2.2.2.1 gi (by rw [hret]) rfl rfl (C.2.2.2.2.1 _ hci) (C.2.2.2.2.1 _ hlk) (C.2.2.2.2.1 _ hin) hnm ⟨hmh.1, hmh.2, hpar⟩ hroom) ⟨Pg.blind, hpre⟩ rfl (by simp only [List.length_cons] at hvl; omega) hsz (by show _ = _; exact app_rev) hlr hdd hcnt) hs.2.2.2.2.2 hAA after
  · have hdd : decode cc pc = .ok (.invokestatic i, 3) := by
      rcases hd with ⟨_, h⟩ | ⟨h, _⟩ | ⟨h | h, _⟩
      · exact h
      · cases h
      · cases h
      · cases h
    exact va_callg rfl (va_runSN (As := vs) (rest := rest) hfix hM ⟨va_cnB n C.2.2.2.2.1 gi rfl rfl rfl (C.2.2.2.2.2.1.2.1 _ hlk) (C.2.2.2.2.1 _ hci) ⟨hmh.1, hmh.2, hpar⟩ hroom, C.2.2.2.2.1 _ hst, trivial⟩ ⟨Pg.blind, hpre⟩ rfl (by omega) hsz rfl hlr hdd hcnt) hs.2.2.2.2.2 hAA after
  · have hdd : decode cc pc = .ok (.invokespecial i, 3) := by
      rcases hd with ⟨h | h, _⟩ | ⟨h, _⟩ | ⟨_, h⟩
      · cases h
      · cases h
      · cases h
      · exact h
    obtain ⟨hret, ia, As', rfl⟩ := hini (Or.inr rfl)
    obtain ⟨v0, vs', rfl, gv0, gvs⟩ := gAs.cons
    obtain ⟨q, e0, rfl, he⟩ := gv0.ref
    exact va_callg rfl (va_runIN (As := vs') (rest := rest) (b := q) hfix hM ⟨va_cnB n C.2.2.2.2.1 gi (by rw [hret]) rfl rfl (C.2.2.2.2.2.1.2.1 _ hlk) (C.2.2.2.2.1 _ hci) ⟨hmh.1, hmh.2, hpar⟩ hroom, hnm, C.2.2.2.2.1 _ hin⟩ ⟨Pg.blind, hpre⟩ rfl (by simp only [List.length_cons] at hvl; omega) hsz (by show _ = _; exact app_rev) hlr hdd hcnt) hs.2.2.2.2.2 hAA after
end CTR
