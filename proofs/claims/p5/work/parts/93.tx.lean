/-! The class's three texts: their rows over plain numbers. -/
theorem stx_of {i tl k a v : Nat} {tx : String} {A : Nat → Prop} {s : State} (h : jS1 i tx tl k a v A s) (hE : EX A s) : STX tl a v (fun j => Int32.ofInt ((jtx.getD k []).getD j 0)) A s := by
  obtain ⟨_, h2, h3, h4, h5⟩ := h
  obtain ⟨_, _, _, _, _, _, _, _, e6, e7, _, _⟩ := hE
  exact ⟨h2, h3, h4, h5, e6, e7⟩
def tvO (t : List Int) : Prop := ∀ j, j < t.length → (Int32.ofInt (t.getD j 0) &&& 255).toInt = t.getD j 0
def tvB (t : List Int) : Bool := (List.range t.length).all (fun j => decide ((Int32.ofInt (t.getD j 0) &&& 255).toInt = t.getD j 0))
theorem tvB_ok {t : List Int} (h : tvB t = true) : tvO t := fun j hj => of_decide_eq_true (List.all_eq_true.mp h j (List.mem_range.mpr hj))
theorem tx_get {bb : Nat → Nat} {A : Nat → Prop} {s : State} (hJ : jEX bb A s) (hE : EX A s) {k : Nat} {t : List Int} (hk : 0 < k) (ht : jtx[k]? = some t) : ∃ v, STX t.length (bb k) v (fun j => Int32.ofInt (t.getD j 0)) A s ∧ t.length < 2147483648 ∧ tvO t := by
  obtain ⟨v1, v2, v3, h1, h2, h3⟩ := hJ
  rcases k with _ | _ | _ | _ | k
  · omega
  · obtain rfl := Option.some.inj ht
    exact ⟨v1, stx_of h1 hE, by decide, tvB_ok (by decide +kernel)⟩
  · obtain rfl := Option.some.inj ht
    exact ⟨v2, stx_of h2 hE, by decide, tvB_ok (by decide +kernel)⟩
  · obtain rfl := Option.some.inj ht
    exact ⟨v3, stx_of h3 hE, by decide, tvB_ok (by decide +kernel)⟩
  · simp [jtx] at ht
theorem tx_ref {bb : Nat → Nat} {A : Nat → Prop} {s : State} (hJ : jEX bb A s) {k i : Nat} (hk : 0 < k) (hi : jtI[k]? = some i) : ∃ tx, vk_R "MerryDuchy" i tx (bb k) s := by
  obtain ⟨v1, v2, v3, h1, h2, h3⟩ := hJ
  rcases k with _ | _ | _ | _ | k
  · omega
  · obtain rfl := Option.some.inj hi
    exact ⟨_, h1.1⟩
  · obtain rfl := Option.some.inj hi
    exact ⟨_, h2.1⟩
  · obtain rfl := Option.some.inj hi
    exact ⟨_, h3.1⟩
  · simp [jtI] at hi
section TXR
variable {p : Program} {l : Launch} {e : Env} {R : Room} {s : State} {m : MethodId} {args : Array Value} {below : List Frame} {meth : Method} {c : Code} {Q : State → Prop} {H : Heap} {locs : List Loc} {cells slots : Nat} {cc : ByteArray} {pc : Nat} {ls : Array Slot} {rest : List Value}
theorem va_ldcWs (hexec : p.tables.exec = Jvm.exec) (hb : c.code = cc) {own tx : String} {index q : Nat} (hown : s.vm.findClass own = some m.cls) (hZ : vk_R own index tx q s) (hdg : decode cc pc = .ok (.ldc_w index, 3))
    (k : W p l e R s m args below meth c H locs cells slots Q (F0 m (pc + 3) ls (.ref q :: rest))) : W p l e R s m args below meth c H locs cells slots Q (F0 m pc ls rest) := by
  intro T hT X
  obtain ⟨t, a1, b1⟩ := k T hT X
  refine ⟨t, ?_, b1⟩
  have hconst : (Cond.stringRef own index tx).before args s = true := hZ.1
  have hev : (Term.string own index).eval args s none [] s = some (.ref q) := hZ.2
  obtain ⟨k0, cf, i, a', hk, hcf, hcp, -, hr, hev'⟩ := Cond.stringRef_spec hown hconst
  cases hev.symm.trans hev'
  obtain ⟨k', hk', he⟩ := X.warmed.alike.2.2 _ _ hk
  have hr' : k'.resolved[index]? = some (some (.string q)) := by
    rcases X.warmed.entry hk hk' index with h | ⟨h, -⟩
    · rw [h]; exact hr
    · rw [hr] at h; cases h
  have hdg' : decode c.code (F0 m pc ls rest).pc = .ok (.ldc_w index, 3) := by rw [hb]; exact hdg
  have hst : ∀ (g : JFrame), g.method = m → decode c.code g.pc = .ok (.ldc_w index, 3) → ∀ target, Steps p.tables e below (T.setTop { g with pc := g.pc + 3, stack := .ref q :: g.stack }) target → Steps p.tables e below (T.setTop g) target := by
    intro g hg hdg target hrest
    subst hg
    jvm_step X.here [hexec, hdg, ldc_w.wp_string (e := e) (s := T) (f := g) X.here.top hk' (by rw [he]; exact hcf) hcp hr']
    exact hrest
  exact hst (F0 m pc ls rest) rfl hdg' t a1
end TXR
theorem jTX_ok {l : Launch} {G : va_G} {cy : Nat → ClassId} : jTX l G cy := by
  intro p e R s m args below meth c Q sh bb ws0 A nL kc ks own nm cc C hJ hRf hRl hRc
  have hE : EX A s := C.2.2.2.2.2.2.2.2
  refine ⟨?_, ?_, ?_⟩
  · intro pc i k t L S M hd hl hS4 hk ht kk ws ls st H locs hs
    obtain ⟨w, st1, rfl, g1, g2⟩ := hs.2.2.1.cons
    obtain rfl := g1.bas
    obtain ⟨v, hX, htl, -⟩ := tx_get hJ hE hk ht
    have hsz : ls.size = nL := by
      obtain ⟨_, lv, h1, _⟩ := hs.2.1
      exact h1.1
    have hsum := g2.sum
    refine jv (n := 0) (vs := []) (rest := st1) C.1 C.2.1 C.2.2.1 C.2.2.2.1 C.2.2.2.2.1 hX C.2.2.2.2.2.2.1 k_jlen rfl hl qv_jlen qe_jlen qn_java_lang_String qk_jlen (by decide +kernel) rfl (by decide) hsz (by omega) (by omega) (by omega) hRc hs.2.2.2.2.2.1 hd (fun r H1 locs1 hr hz hk1 hS1 => ?_)
    subst hr
    have hP := hs.2.2.2.1
    have hP1 : va_P G vwCl ws H1 := hP.kept (fun k x hx => hk1 x.1 ((hP k x hx).lt))
    exact kk ws ls _ H1 locs1 ⟨hs.1, hs.2.1, ⟨Int32.toInt_ofNat_of_lt (by omega), g2⟩, hP1, hs.2.2.2.2.1, hS1, hs.2.2.2.2.2.2⟩
  · intro pc i k t a L S M hd hl hS4 hk ht ha0 hat kk ws ls st H locs hs
    obtain ⟨w0, st0, rfl, g0, g00⟩ := hs.2.2.1.cons
    obtain ⟨x, rfl, hx⟩ := g0.int
    obtain ⟨w, st1, rfl, g1, g2⟩ := g00.cons
    obtain rfl := g1.bas
    obtain ⟨v, hX, htl, hval⟩ := tx_get hJ hE hk ht
    have hsz : ls.size = nL := by
      obtain ⟨_, lv, h1, _⟩ := hs.2.1
      exact h1.1
    have hsum := g2.sum
    obtain ⟨hx0, hxn⟩ := i32_nn hx ha0
    have hxt : x < Int32.ofNat t.length := by
      rw [Int32.lt_iff_toInt_lt, Int32.toInt_ofNat_of_lt (by omega), hx]
      exact hat
    refine jv (n := 1) (vs := [.int x]) (rest := st1) C.1 C.2.1 C.2.2.1 C.2.2.2.1 C.2.2.2.2.1 hX C.2.2.2.2.2.2.1 (k_jcha x htl hx0 hxt) rfl hl qv_jcha qe_jcha qn_java_lang_String qk_jcha (by decide +kernel) rfl (by decide) hsz (by omega) (by omega) (by omega) hRc hs.2.2.2.2.2.1 hd (fun r H1 locs1 hr hz hk1 hS1 => ?_)
    subst hr
    have hP := hs.2.2.2.1
    have hP1 : va_P G vwCl ws H1 := hP.kept (fun k x hx => hk1 x.1 ((hP k x hx).lt))
    refine kk ws ls _ H1 locs1 ⟨hs.1, hs.2.1, ⟨?_, g2⟩, hP1, hs.2.2.2.2.1, hS1, hs.2.2.2.2.2.2⟩
    show (Int32.ofInt (t.getD x.toNatClampNeg 0) &&& 255).toInt = t.getD a.toNat 0
    rw [hxn]
    exact hval a.toNat (by omega)
  · intro pc i k L S M hd ho hk hk4 hi kk ws ls st H locs hs
    subst ho
    obtain ⟨tx, hR⟩ := tx_ref hJ hk hi
    exact va_ldcWs C.1 C.2.1 C.2.2.2.1 hR hd (kk ws ls _ H locs ⟨hs.1, hs.2.1, ⟨rfl, hs.2.2.1⟩, hs.2.2.2⟩)
