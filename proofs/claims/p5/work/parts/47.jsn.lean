/-! A contract over plain numbers is a contract of the machine's own. -/
def jMk (P : Nat → Option MR) (mr : MR) : Prop := Cond.code mr.1 mr.2.1 mr.2.2.1 mr.2.2.2.1 ∈ gtbl ∧ mr.2.2.1 ≤ 80 ∧ plainName mr.1.cls = true ∧ jOT P mr.1.cls mr.1.name mr.2.1 mr.2.2.2.2.2.2
def jTX (l : Launch) (G : va_G) (cy : Nat → ClassId) : Prop := ∀ (p : Program) (e : Env) (R : Room) (s : State) (m : MethodId) (args : Array Value) (below : List Frame) (meth : Method) (c : Code) (Q : State → Prop) (sh : List JS) (bb : Nat → Nat) (ws0 : va_W) (A : Nat → Prop) (nL kc ks : Nat) (own nm : String) (cc : ByteArray), Cx p c m s args meth G cy A own nm cc nL → jEX bb A s → 8 ≤ R.frames → 900 ≤ R.locals → kc ≤ R.cells ∧ ks ≤ R.slots → jTx p l e R s m args below meth c Q sh G cy bb ws0 A nL kc ks own cc
theorem jok_sound {l : Launch} {sh : List JS} {G : va_G} {cy : Nat → ClassId} {P : Nat → Option MR} (hw : jMw) (hTX : jTX l G cy) (hP : ∀ y mr, P y = some mr → jMk P mr) : ∀ (d y : Nat) (mr : MR) (As : List JV) (M : JM) (post : JR), P y = some mr → (jsl As).length ≤ mr.2.2.1 → JOk sh P d y As M post → JMt l sh G cy mr (d + 10) As M post
  | 0, _, _, _, _, _, _, _, h => h.elim
  | d + 1, y, mr, As, M, post, hmr, hfit, h => by
    obtain ⟨mr', hmr', hF⟩ := h
    rw [hmr] at hmr'
    obtain rfl := Option.some.inj hmr'
    obtain ⟨hcode, hmL, hpl, hT⟩ := hP y mr hmr
    intro bb vs ws sz hgs hgh
    refine Met.ofW (cc := mr.2.1) (maxL := mr.2.2.1) (ret := mr.2.2.2.1) hpl rfl ?_
    intro p e s m args below meth c s₁ B hml hv
    obtain ⟨rfl, hsz, hPw, hK, hD0, hE, hJ⟩ := hv
    have hts := atoms_spec (ws := Cond.code mr.1 mr.2.1 mr.2.2.1 mr.2.2.2.1 :: gtbl) B.pre
    subst hsz
    have hD := hD0.self (sz := s.heap.size)
    have hlocks := B.notSynchronized
    have C : Cx p c m s vs.toArray meth G cy (va_A ws s.heap.size) mr.1.cls mr.1.name mr.2.1 mr.2.2.1 := ⟨B.exec, B.bytes, hml, findClass_of_methodNamed B.named, fun w hw => hts w (List.mem_cons_of_mem _ hw), hK, fun q hq => Or.inr hq, (name_of_methodNamed B.named B.method).1, hE⟩
    rw [lg_entry_eq]
    have hRl : 100 * (d + 10) + 100 ≤ (rmD (d + 1 + 10) 0 0).locals := by show _ ≤ 100 * (d + 1 + 10); omega
    have hTx := hTX p e (rmD (d + 1 + 10) 0 0) s m vs.toArray below meth c (MQ below (Qj sh G cy bb ws s.heap.size post) vs.toArray s 0 0 (va_A ws s.heap.size)) sh bb ws (va_A ws s.heap.size) mr.2.2.1 0 0 mr.1.cls mr.1.name mr.2.1 C hJ (by show 8 ≤ d + 1 + 10; omega) (by omega) ⟨Nat.zero_le _, Nat.zero_le _⟩
    have hk := hF (Jk p l e (rmD (d + 1 + 10) 0 0) s m vs.toArray below meth c (MQ below (Qj sh G cy bb ws s.heap.size post) vs.toArray s 0 0 (va_A ws s.heap.size)) sh G cy bb ws (va_A ws s.heap.size) mr.2.2.1 0 0) ?_ ?_ ?_
    · exact hk ws _ [] s.heap [] ⟨hgh, jent_ok hgs hfit, trivial, hPw, hD, va_S.rf, sub_.rf ws⟩
    · intro mr2 pc ins len x y' z L S M h1 h2 h3
      rw [hmr] at h1
      obtain rfl := Option.some.inj h1
      obtain ⟨hd, hl⟩ := hT pc ins len x y' z h2
      exact js_sound C hw hTx ⟨by show 1 ≤ d + 1 + 10; omega, by omega, Nat.zero_le _, Nat.zero_le _⟩ (sc := none) (fun n f hf => by cases hf) hd hl h3
    · intro mr2 pc ins q L S M r h1 h2 h3 h4
      rw [hmr] at h1
      obtain rfl := Option.some.inj h1
      obtain ⟨hd, -⟩ := hT pc ins 1 q.1 q.2.1 q.2.2 h2
      intro ws1 ls st H locs hs
      have fin : ∀ (v : Option Value) (t : State), t.heap = H → jO bb ws1 r v → Qj sh G cy bb ws s.heap.size post vs.toArray s (.returned v) t := fun v t hth hO => ⟨⟨v, ws1, r, M, rfl, by rw [hth]; exact hs.2.2.2.1, hs.2.2.2.2.1, hs.1, hs.2.2.2.2.2.2, hO, h4⟩, hs.2.2.2.2.2.1.F hth⟩
      unfold jrt at h3
      split at h3
      · obtain ⟨w, st1, rfl, g1, g2⟩ := hs.2.2.1.cons
        obtain rfl := g2.nil
        obtain ⟨x, rfl, hx⟩ := g1.int
        split at h3
        · rename_i hrt
          obtain rfl := Option.some.inj h3
          exact W.zret (ty := .int) C.1 C.2.1 (by rw [← hrt]; exact B.returns) rfl (fun t hth hW => fin _ t hth hx) hs.2.2.2.2.2.1.2.2 hd
        · rename_i hrt
          split at h3
          · rename_i hb
            obtain rfl := Option.some.inj h3
            refine W.zret (ty := .boolean) C.1 C.2.1 (by rw [← hrt]; exact B.returns) ?_ (fun t hth hW => fin _ t hth hx) hs.2.2.2.2.2.1.2.2 hd
            rcases bool_ok (x := x) (by omega) (by omega) with rfl | rfl <;> rfl
          · cases h3
        · cases h3
      · obtain ⟨w, st1, rfl, g1, g2⟩ := hs.2.2.1.cons
        obtain rfl := g2.nil
        obtain rfl := g1.long
        split at h3
        · rename_i hrt
          obtain rfl := Option.some.inj h3
          exact W.lret C.1 C.2.1 (by rw [← hrt]; exact B.returns) (fun t hth hW => fin _ t hth rfl) hs.2.2.2.2.2.1.2.2 hd
        · cases h3
      · obtain rfl := hs.2.2.1.nil
        split at h3
        · rename_i hrt
          obtain rfl := Option.some.inj h3
          exact W.vret C.1 C.2.1 (by rw [← hrt]; exact B.returns) (fun t hth hW => fin _ t hth trivial) hs.2.2.2.2.2.1.2.2 hd
        · cases h3
      · cases h3
    · intro mr2 pc ins i x y' z L S M h1 h2 h3 mr3 As' r post' b1 b2 b3 b4 b5 b6 b7
      rw [hmr] at h1
      obtain rfl := Option.some.inj h1
      obtain ⟨hd, hl⟩ := hT pc ins 3 x y' z h2
      obtain ⟨hcode3, hmL3, -, -⟩ := hP y' mr3 b1
      have hct := jok_sound hw hTX hP d y' mr3 As' M post' b1 b5 b6
      have hl5 : x < 5 := by rcases h3 with ⟨h | h, _⟩ | ⟨h, _⟩ <;> omega
      have hlk : lnk mr.1.cls i x mr3.1 mr3.2.2.2.2.1 mr3.2.2.2.2.2.1 := by
        rcases h3 with ⟨_, rfl⟩ | ⟨_, rfl⟩
        · obtain ⟨mr4, c1, c2⟩ := hl.2.2.2.2.2 hl5
          rw [b1] at c1
          obtain rfl := Option.some.inj c1
          exact c2
        · obtain ⟨mr4, c1, c2⟩ := hl.2.2.2.2.2 hl5
          rw [b1] at c1
          obtain rfl := Option.some.inj c1
          exact c2
      refine k_call (i := i) (d := d + 10) C hJ ?_ hlk b2 hcode3 hmL3 b4 hct b3 (by show d + 10 + 1 ≤ d + 1 + 10; omega) hRl ⟨Nat.zero_le _, Nat.zero_le _⟩ b7
      rcases h3 with ⟨h, rfl⟩ | ⟨h, rfl⟩
      · exact Or.inl ⟨h, hd⟩
      · exact Or.inr ⟨h, hd⟩
