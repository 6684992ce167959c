/-! The law's own walk is closed under steps and calls. -/
section FK
variable {p : Program} {l : Launch} {e : Env} {s : State} {m : MethodId} {args : Array Value} {below : List Frame} {meth : Method} {c : Code} {Q : State → Prop} {G : va_G} {cy : Nat → ClassId} {bb : Nat → Nat} {ws0 : va_W} {A : Nat → Prop} {nL kc ks : Nat}
theorem PJ_1000 : PJ 1000 = none := rfl
theorem law_c1 (C : Cx p c m s args meth G cy A yL_law.cls meth.name cL_law nL) (hw : jMw) (hTX : jTX l G cy) (hJ : jEX bb A s) {n : Nat} {f : Nat → Int} (hsc : jSc s bb A (some (n, f))) (hkc : kc ≤ room_1.cells ∧ ks ≤ room_1.slots) : jstC shp PL (some (n, f)) 1000 (Jk p l e room_1 s m args below meth c Q shp G cy bb ws0 A nL kc ks) := by
  intro mr pc ins len x y' z L S M h1 h2 h3
  rw [pl_law] at h1
  obtain rfl := Option.some.inj h1
  obtain ⟨hd, hl⟩ := jt_L_law meth.name pc ins len x y' z h2
  exact js_sound C hw (hTX p e room_1 s m args below meth c Q shp bb ws0 A nL kc ks yL_law.cls meth.name cL_law C hJ (by decide) (by decide) hkc) ⟨by decide, by decide, hkc.1, hkc.2⟩ hsc hd hl h3
theorem law_c3 (C : Cx p c m s args meth G cy A yL_law.cls meth.name cL_law nL) (hw : jMw) (hTX : jTX l G cy) (hJ : jEX bb A s) (hkc : kc ≤ room_1.cells ∧ ks ≤ room_1.slots) : jcaC shp PL (JOk shp PJ 94) 1000 (Jk p l e room_1 s m args below meth c Q shp G cy bb ws0 A nL kc ks) := by
  intro mr pc ins i x y' z L S M h1 h2 h3 mr3 As' r post' b1 b2 b3 b4 b5 b6 b7
  rw [pl_law] at h1
  obtain rfl := Option.some.inj h1
  obtain ⟨hd, hl⟩ := jt_L_law meth.name pc ins 3 x y' z h2
  have hl5 : x < 5 := by rcases h3 with ⟨h | h, _⟩ | ⟨h, _⟩ <;> omega
  have hj : ∃ mr4, PJ y' = some mr4 ∧ lnk yL_law.cls i x mr4.1 mr4.2.2.2.2.1 mr4.2.2.2.2.2.1 := by
    rcases h3 with ⟨_, rfl⟩ | ⟨_, rfl⟩
    · exact hl.2.2.2.2.2 hl5
    · exact hl.2.2.2.2.2 hl5
  obtain ⟨mr4, hp4, hlk⟩ := hj
  have hy : y' ≠ 1000 := fun h => by rw [h, PJ_1000] at hp4; cases hp4
  have b1 : PJ y' = some mr3 := by
    unfold PL at b1
    rw [if_neg hy] at b1
    exact b1
  rw [b1] at hp4
  obtain rfl := Option.some.inj hp4
  obtain ⟨hcode3, hmL3, -, -⟩ := PJ_ok y' mr3 b1
  have hct := jok_sound (l := l) (G := G) (cy := cy) hw hTX PJ_ok 94 y' mr3 As' M post' b1 b5 b6
  refine k_call (i := i) (d := 94 + 10) C hJ ?_ hlk b2 hcode3 hmL3 b4 hct b3 (by decide) (by decide) hkc b7
  rcases h3 with ⟨h, rfl⟩ | ⟨h, rfl⟩
  · exact Or.inl ⟨h, hd⟩
  · exact Or.inr ⟨h, hd⟩
end FK
