/-! The JDK's own methods over the one text: length(), charAt(i). -/
def STX (tl a v : Nat) (f : Nat → Int32) (A : Nat → Prop) (U : State) : Prop := va_O "java/lang/String" a A U U.heap ∧ va_OF "java/lang/String" "coder" "B" (.int 0) a A U U.heap ∧ va_OF "java/lang/String" "value" "[B" (.ref v) a A U U.heap ∧ va_T .byte v tl (fun j => .int (f j)) A U U.heap ∧ va_Z "java/lang/String" "COMPACT_STRINGS" "Z" (.int 1) A U U.heap ∧ va_Zq "jdk/internal/util/Preconditions" "SIOOBE_FORMATTER" "Ljava/util/function/BiFunction;" A U U.heap
theorem STX.to {tl a v : Nat} {f : Nat → Int32} {A B : Nat → Prop} {s U : State} {H : Heap} {locs : List Loc} (h : STX tl a v f A s) (hW : s.WarmedH U.vm) (hU : U.heap = H) (hS : va_S A s.heap H locs) (hB : ∀ q, B q → A q) : STX tl a v f B U := by
  obtain ⟨h2, h3, h4, h5, h6, h7⟩ := h
  have hk := hS.2.1
  subst hU
  exact ⟨((va_O.moved hW.alike h2).kept hk).narrow hB, ((va_OF.moved hW.alike h3).kept hk).narrow hB, ((va_OF.moved hW.alike h4).kept hk).narrow hB, ((va_T.moved hW.alike h5).kept hk).narrow hB, ((va_Z.moved hW.alike h6).kept hk).narrow hB, ((va_Zq.moved hW.alike h7).kept hk).narrow hB⟩
theorem STX.same {tl a v : Nat} {f : Nat → Int32} {A : Nat → Prop} {s U : State} (hv : s.vm = U.vm) (hh : s.heap = U.heap) (h : STX tl a v f A s) : STX tl a v f A U := by
  have ha : s.vm.Alike U.vm := by rw [← hv]; exact Vm.Alike.refl _
  obtain ⟨h2, h3, h4, h5, h6, h7⟩ := h
  unfold STX
  rw [← hh]
  exact ⟨va_O.moved ha h2, va_OF.moved ha h3, va_OF.moved ha h4, va_T.moved ha h5, va_Z.moved ha h6, va_Zq.moved ha h7⟩
def PJs (tl a v : Nat) (f : Nat → Int32) (sz : Nat) (vs : List Value) : Array Value → State → Prop := va_Pc vs (fun U => U.heap.size = sz ∧ STX tl a v f (fun q => sz ≤ q) U)
theorem PJs.blind {tl a v : Nat} {f : Nat → Int32} {sz : Nat} {vs : List Value} : FrameBlind (PJs tl a v f sz vs) := fun x U g mk q => ⟨q.1, q.2.1, STX.same (s := U) (U := U.calling g mk x) rfl rfl q.2.2⟩
def QJ (post : Option Value → Prop) (sz : Nat) : Array Value → State → Outcome → State → Prop := fun _ st o t => (∃ v, o = .returned v ∧ post v) ∧ va_F (fun q => sz ≤ q) st t
def CJ (l : Launch) (y : MethodName) (cc : ByteArray) (mL : Nat) (ret : Option FieldType) (d tl a v : Nat) (f : Nat → Int32) (vs : List Value) (post : Option Value → Prop) : Prop := ∀ sz : Nat, Met l y (Cond.code y cc mL ret :: gtbl) (rmD d 0 0) (PJs tl a v f sz vs) (QJ post sz) 0 0 (fun q => sz ≤ q)
section JDK
variable {p : Program} {l : Launch} {e : Env} {R : Room} {s : State} {m : MethodId} {args : Array Value} {below : List Frame} {meth : Method} {c : Code} {Q : State → Prop} {H : Heap} {locs : List Loc} {cells slots : Nat}
/-- what such a body's walk stands on -/
abbrev Jx (p : Program) (c : Code) (m : MethodId) (s : State) (args : Array Value) (meth : Method) (A : Nat → Prop) (own : String) (cc : ByteArray) (nL : Nat) (ret : Option FieldType) (tl a v : Nat) (f : Nat → Int32) : Prop :=
  p.tables.exec = Jvm.exec ∧ c.code = cc ∧ c.maxLocals = nL ∧ s.vm.findClass own = some m.cls ∧ (∀ w ∈ gtbl, w.before args s = true) ∧ STX tl a v f A s ∧ (∀ q : Nat, s.heap.size ≤ q → A q) ∧ meth.sig.returnType = ret ∧ meth.locks = false
theorem jI {y : MethodName} {cc : ByteArray} {mL : Nat} {ret : Option FieldType} {d tl a v : Nat} {f : Nat → Int32} {vs : List Value} {post : Option Value → Prop} (hpl : plainName y.cls = true) (hlen : (lg_sl vs).length ≤ mL)
    (body : ∀ (p : Program) (e : Env) (s : State) (m : MethodId) (below : List Frame) (meth : Method) (c : Code) (ls : Array Slot), Jx p c m s vs.toArray meth (fun q => s.heap.size ≤ q) y.cls cc mL ret tl a v f → lv_has ls mL (lv_args 0 vs) → W p l e (rmD d 0 0) s m vs.toArray below meth c s.heap [] 0 0 (MQ below (QJ post s.heap.size) vs.toArray s 0 0 (fun q => s.heap.size ≤ q)) (F0 m 0 ls [])) : CJ l y cc mL ret d tl a v f vs post := by
  intro sz
  refine Met.ofW (cc := cc) (maxL := mL) (ret := ret) hpl rfl ?_
  intro p e s m args below meth c s₁ B hml hv
  obtain ⟨rfl, hsz, hX⟩ := hv
  have hts := atoms_spec (ws := Cond.code y cc mL ret :: gtbl) B.pre
  subst hsz
  rw [lg_entry_eq]
  exact body p e s m below meth c _ ⟨B.exec, B.bytes, hml, findClass_of_methodNamed B.named, fun w hw => hts w (List.mem_cons_of_mem _ hw), hX, fun q h => h, B.returns, B.notSynchronized⟩ (lv_entry vs hlen)
theorem jret {own : String} {cc : ByteArray} {nL tl a v : Nat} {f : Nat → Int32} {ty : FieldType} {post : Option Value → Prop} {A : Nat → Prop} (hA : A = fun q => s.heap.size ≤ q) (C : Jx p c m s args meth A own cc nL (some ty) tl a v f) (hS : va_S A s.heap H locs) {pc : Nat} {ls : Array Slot} {r : Int32} (hn : narrow ty (.int r) = .int r) (hd : decode cc pc = .ok (.ireturn, 1)) (hp : post (some (.int r))) : W p l e R s m args below meth c H locs cells slots (MQ below (QJ post s.heap.size) args s cells slots (fun q => s.heap.size ≤ q)) (F0 m pc ls [.int r]) := by
  subst hA
  have hlocks := C.2.2.2.2.2.2.2.2
  exact W.zret (ty := ty) C.1 C.2.1 C.2.2.2.2.2.2.2.1 hn (fun t ht hW => ⟨⟨_, rfl, hp⟩, hS.F ht⟩) hS.2.2 hd
theorem jrun {pc : Nat} {ls : Array Slot} {st0 rest : List Value} {sz : Nat} {a : Array Value} {A : Nat → Prop} {post : Option Value → Prop} (hr : va_Run p l e R s m args below meth c H locs cells slots 0 0 (F0 m pc ls st0) rest (QJ post H.size a) (fun q => H.size ≤ q)) (hS : va_S A s.heap H locs) (hA : ∀ q : Nat, s.heap.size ≤ q → A q)
    (kk : ∀ (v : Option Value) (H1 : Heap) (locs1 : List Loc), post v → H.size ≤ H1.size → (∀ q : Nat, q < H.size → H1[q]? = H[q]?) → va_S A s.heap H1 locs1 → W p l e R s m args below meth c H1 locs1 cells slots Q (F0 m (pc + 3) ls (v.toList ++ rest))) : W p l e R s m args below meth c H locs cells slots Q (F0 m pc ls st0) := by
  intro T hT X
  obtain ⟨v0, st₀, t, T', L, h0, X', hL, e1, e2, ⟨⟨v, hv, hp⟩, hz, hk⟩, st⟩ := hr T hT X
  cases hv
  rw [h0] at hz hk
  have hk' : ∀ q : Nat, q < H.size → T'.heap[q]? = H[q]? := fun q hq => by rw [e1]; exact hk q hq (Nat.not_le.mpr hq)
  obtain ⟨t2, a1, b1⟩ := kk v0 T'.heap (locs ++ L) hp (by rw [e1]; exact hz) hk'
    ⟨Nat.le_trans hS.1 (by rw [e1]; exact hz), fun q h1 h2 => by rw [hk' q (Nat.lt_of_lt_of_le h1 hS.1)]; exact hS.2.1 q h1 h2, fun q hq => by
      rcases List.mem_append.mp hq with h | h
      · exact hS.2.2 q h
      · exact hA _ (Nat.le_trans hS.1 (hL q h))⟩ T' rfl X'
  exact ⟨t2, st t2 a1, b1⟩
theorem js {own : String} {cc : ByteArray} {nL tl a v : Nat} {f : Nat → Int32} {A : Nat → Prop} {y : MethodName} {c2 : ByteArray} {mL d n i : Nat} {r2 : Option FieldType} {vs rest : List Value} {post : Option Value → Prop} {pc : Nat} {ls : Array Slot} (hx : p.tables.exec = Jvm.exec) (hb : c.code = cc) (hml : c.maxLocals = nL) (hown : s.vm.findClass own = some m.cls) (ht : ∀ w ∈ gtbl, w.before args s = true) (hX : STX tl a v f A s) (hA : ∀ q : Nat, s.heap.size ≤ q → A q)
    (hM : CJ l y c2 mL r2 d tl a v f vs post) (hl : Cond.methodLink own i y ∈ gtbl) (hst : Cond.static y ∈ gtbl) (hci : Cond.initialized y.cls ∈ gtbl) (hcode : Cond.code y c2 mL r2 ∈ gtbl) (hmh : y.cls ≠ "java/lang/invoke/MethodHandle" ∧ y.cls ≠ "java/lang/invoke/VarHandle" ∧ (parseMethodDescriptor y.desc).map (fun d => d.parameters.length) = some n) (hn : vs.length = n) (hmL : mL ≤ 80) (hls : ls.size = nL) (hrs : (rest.map fun v => v.category).sum ≤ 8) (hRf : d + 1 ≤ R.frames) (hRl : 100 * d + 100 ≤ R.locals) (hRc : cells ≤ R.cells ∧ slots ≤ R.slots) (hS : va_S A s.heap H locs) (hd : decode cc pc = .ok (.invokestatic i, 3))
    (kk : ∀ (v : Option Value) (H1 : Heap) (locs1 : List Loc), post v → H.size ≤ H1.size → (∀ q : Nat, q < H.size → H1[q]? = H[q]?) → va_S A s.heap H1 locs1 → W p l e R s m args below meth c H1 locs1 cells slots Q (F0 m (pc + 3) ls (v.toList ++ rest))) : W p l e R s m args below meth c H locs cells slots Q (F0 m pc ls (vs.reverse ++ rest)) := by
  have hpre : ∀ U : State, U.heap = H → s.WarmedH U.vm → PJs tl a v f H.size vs vs.toArray U := fun U hU hW => ⟨rfl, by rw [hU], hX.to hW hU hS (fun q hq => hA q (Nat.le_trans hS.1 hq))⟩
  refine jrun (sz := H.size) (va_runS (As := vs) (rest := rest) ⟨hx, hb, hml, hown, ht⟩ (hM H.size) (va_cwS n ht (gd_app (gd_3 hl hst hci) (gd_tbl hcode)) rfl rfl rfl hmh ⟨hRf, by show 8 + (mL + 11) + 100 * d ≤ R.locals; omega⟩) ⟨PJs.blind, hpre⟩ rfl hn hls rfl ?_ hd ⟨hRc.1, hRc.2⟩) hS hA kk
  have : (F0 m pc ls (vs.reverse ++ rest)).monitorRoom = 0 := rfl
  rw [this]; omega
theorem jv {own : String} {cc : ByteArray} {nL tl a v : Nat} {f : Nat → Int32} {A : Nat → Prop} {y : MethodName} {c2 : ByteArray} {mL d n i : Nat} {r2 : Option FieldType} {vs rest : List Value} {post : Option Value → Prop} {pc : Nat} {ls : Array Slot} (hx : p.tables.exec = Jvm.exec) (hb : c.code = cc) (hml : c.maxLocals = nL) (hown : s.vm.findClass own = some m.cls) (ht : ∀ w ∈ gtbl, w.before args s = true) (hX : STX tl a v f A s) (hA : ∀ q : Nat, s.heap.size ≤ q → A q)
    (hM : CJ l y c2 mL r2 d tl a v f (.ref a :: vs) post) (hy : y.cls = "java/lang/String") (hl : Cond.methodLink own i y ∈ gtbl) (hin : Cond.instanceMethod y ∈ gtbl) (hse : Cond.selects "java/lang/String" y y ∈ gtbl) (hci : Cond.initialized "java/lang/String" ∈ gtbl) (hcode : Cond.code y c2 mL r2 ∈ gtbl) (hmh : y.cls ≠ "java/lang/invoke/MethodHandle" ∧ y.cls ≠ "java/lang/invoke/VarHandle" ∧ (parseMethodDescriptor y.desc).map (fun d => d.parameters.length) = some n) (hn : vs.length = n) (hmL : mL ≤ 80) (hls : ls.size = nL) (hrs : (rest.map fun v => v.category).sum ≤ 8) (hRf : d + 1 ≤ R.frames) (hRl : 100 * d + 100 ≤ R.locals) (hRc : cells ≤ R.cells ∧ slots ≤ R.slots) (hS : va_S A s.heap H locs) (hd : decode cc pc = .ok (.invokevirtual i, 3))
    (kk : ∀ (v : Option Value) (H1 : Heap) (locs1 : List Loc), post v → H.size ≤ H1.size → (∀ q : Nat, q < H.size → H1[q]? = H[q]?) → va_S A s.heap H1 locs1 → W p l e R s m args below meth c H1 locs1 cells slots Q (F0 m (pc + 3) ls (v.toList ++ rest))) : W p l e R s m args below meth c H locs cells slots Q (F0 m pc ls (vs.reverse ++ .ref a :: rest)) := by
  have hpre : ∀ U : State, U.heap = H → s.WarmedH U.vm → PJs tl a v f H.size (.ref a :: vs) (Value.ref a :: vs).toArray U := fun U hU hW => ⟨rfl, by rw [hU], hX.to hW hU hS (fun q hq => hA q (Nat.le_trans hS.1 hq))⟩
  have hrv : ∃ cell : Cell, H[a]? = some cell ∧ cell.vm.isStatics = false ∧ s.vm.findClass "java/lang/String" = some cell.cls := by
    obtain ⟨cell, h1, h2, h3, -⟩ := hX.1.kept hS.2.1
    exact ⟨cell, h1, h2, h3⟩
  refine jrun (sz := H.size) (va_runV (C := "java/lang/String") (As := vs) (rest := rest) (b := a) ⟨hx, hb, hml, hown, ht⟩ (hM H.size) (cwV n ht (gd_app (gd_4 hl hin hse hci) (gd_tbl hcode)) rfl rfl rfl ⟨hy, hmh⟩ ⟨hRf, by show 8 + (mL + 11) + 100 * d ≤ R.locals; omega⟩) ⟨PJs.blind, hrv, hpre⟩ rfl hn hls rfl ?_ hd ⟨hRc.1, hRc.2⟩) hS hA kk
  have : (F0 m pc ls (vs.reverse ++ .ref a :: rest)).monitorRoom = 0 := rfl
  rw [this]; omega
end JDK
