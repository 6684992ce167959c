def dfT : List (List AV) := [[.inr (.inr (.inr 0)), .inr (.inr (.inr 0)), .inr (.inr (.inr 0)), .inr (.inr (.inr 0)), .inl (0, 0)], [.inr (.inr (.inr 0)), .inl (0, 0), .inr (.inr (.inr 0)), .inl (0, 0)], [.inr (.inr (.inr 0)), .inr (.inr (.inr 0)), .inr (.inr (.inr 0)), .inr (.inr (.inr 0)), .inr (.inr (.inr 0)), .inr (.inr (.inr 0)), .inl (0, 0), .inl (0, 0), .inr (.inr (.inr 0)), .inr (.inr (.inr 0))], [.inr (.inr (.inr 0)), .inl (0, 0)], [.inr (.inr (.inr 0)), .inl (0, 0), .inl (0, 0)], [.inr (.inr (.inr 0)), .inr (.inr (.inr 0)), .inr (.inr (.inr 0)), .inl (0, 0)], [.inr (.inr (.inr 0)), .inl (0, 0)], [.inr (.inr (.inr 0)), .inr (.inr (.inr 0)), .inl (0, 0), .inl (0, 0)], [.inr (.inr (.inr 0)), .inr (.inr (.inr 0)), .inr (.inr (.inr 0)), .inr (.inr (.inr 0)), .inr (.inr (.inr 0)), .inr (.inr (.inr 0)), .inr (.inr (.inr 0)), .inl (0, 0)], [.inr (.inr (.inr 0)), .inr (.inr (.inr 0)), .inr (.inr (.inr 0)), .inl (0, 0)], [.inr (.inr (.inr 0)), .inr (.inr (.inr 0)), .inl (0, 0), .inl (0, 0), .inl (0, 0), .inl (0, 0), .inl (0, 0), .inl (0, 0), .inr (.inl (some 0)), .inl (0, 0), .inr (.inl (some 0)), .inl (0, 0), .inl (0, 0), .inl (0, 0)], [.inr (.inr (.inr 0)), .inr (.inr (.inr 0)), .inl (0, 0), .inl (0, 0), .inr (.inr (.inr 0)), .inr (.inr (.inr 0)), .inr (.inr (.inr 0)), .inr (.inr (.inr 0)), .inr (.inr (.inr 0)), .inr (.inr (.inr 0)), .inr (.inr (.inr 0)), .inr (.inr (.inr 0)), .inr (.inr (.inr 0)), .inr (.inr (.inr 0)), .inr (.inr (.inr 0)), .inr (.inr (.inr 0)), .inr (.inr (.inr 0)), .inl (0, 0)], [.inl (0, 0), .inr (.inr (.inr 0)), .inl (0, 0), .inl (0, 0), .inl (0, 0), .inl (0, 0), .inl (0, 0), .inl (0, 0), .inl (0, 0), .inl (0, 0), .inl (0, 0), .inl (0, 0), .inr (.inl (some 0)), .inl (0, 0), .inr (.inr (.inr 0)), .inr (.inr (.inr 0)), .inr (.inr (.inr 0)), .inr (.inr (.inr 0)), .inr (.inr (.inr 0)), .inr (.inr (.inr 0)), .inr (.inr (.inr 0)), .inr (.inr (.inr 0)), .inr (.inr (.inr 0)), .inl (0, 0), .inl (0, 0), .inl (0, 0), .inr (.inr (.inr 0)), .inr (.inr (.inr 0)), .inl (0, 0), .inr (.inr (.inr 0)), .inr (.inr (.inr 0)), .inl (0, 0), .inl (0, 0), .inr (.inr (.inr 0)), .inr (.inr (.inr 0)), .inl (0, 0), .inr (.inr (.inr 0)), .inr (.inr (.inr 0)), .inr (.inr (.inr 0)), .inr (.inr (.inr 0)), .inl (0, 0), .inr (.inr (.inr 0)), .inl (0, 0), .inl (0, 0), .inr (.inr (.inr 0)), .inr (.inr (.inr 0)), .inl (0, 0), .inl (0, 0), .inr (.inr (.inr 0)), .inl (0, 0), .inl (0, 0), .inl (0, 0), .inl (0, 0)]]
noncomputable def DF : Nat → Option (List AV) := fun ci => lg dfT ci
def absV (v : Value) : AV := match v with
  | .int x => .inl (x.toInt, x.toInt)
  | .long x => .inr (.inl (some x))
  | _ => .inr (.inr (.inr 0))
def plainV (v : Value) : Bool := match v with
  | .int _ => true
  | .long _ => true
  | .null => true
  | _ => false
theorem gV_abs {v : Value} (h : plainV v = true) (b : Nat) (ws : va_W) : gV b ws (absV v) v := by
  cases v <;> simp only [plainV, reduceCtorEq] at h
  · exact ⟨Int.le_refl _, Int.le_refl _⟩
  · exact fun k hk => Option.some.inj hk
  · exact rfl
theorem df_of {T : u_T} {N : Nat} {fs : List AV} (ty0 : Nat → FieldType) (h1 : ∀ k, k < N → parseFieldDescriptor (T k).2.2.1 = some (ty0 k)) (h2 : fs = ((List.range N).map (fun j => defaultValue (ty0 j))).map absV) (h3 : ((List.range N).map (fun j => defaultValue (ty0 j))).all plainV = true) : fs.length = N ∧ ∃ (ty0 : Nat → FieldType) (vs : List Value), (∀ k, k < N → parseFieldDescriptor (T k).2.2.1 = some (ty0 k)) ∧ (∀ j, j < N → defaultValue (ty0 j) = vp_V vs j) ∧ vs.length = N ∧ ∀ (b : Nat) (ws : va_W) (k : Nat) (a : AV), fs[k]? = some a → ∃ v, vs[k]? = some v ∧ gV b ws a v := by
  subst h2
  refine ⟨by simp, ty0, (List.range N).map (fun j => defaultValue (ty0 j)), h1, ?_, by simp, fun b ws k a ha => ?_⟩
  · intro j hj
    simp [vp_V, List.getD, hj]
  · rw [List.getElem?_map] at ha
    cases hv : ((List.range N).map (fun j => defaultValue (ty0 j)))[k]? with
    | none => rw [hv] at ha; cases ha
    | some v =>
      rw [hv] at ha
      obtain rfl := Option.some.inj ha
      exact ⟨v, rfl, gV_abs (List.all_eq_true.mp h3 v (List.mem_of_getElem? hv)) b ws⟩
theorem DF_ok : okDf DF := by
  intro ci fs hfs C T N hcl
  rcases ci with _ | _ | _ | _ | _ | _ | _ | _ | _ | _ | _ | _ | _ | ci
  · cases hcl; cases hfs; exact df_of tyX0 tyX0_ok (by decide +kernel) (by decide +kernel)
  · cases hcl; cases hfs; exact df_of tyX1 tyX1_ok (by decide +kernel) (by decide +kernel)
  · cases hcl; cases hfs; exact df_of tyX2 tyX2_ok (by decide +kernel) (by decide +kernel)
  · cases hcl; cases hfs; exact df_of tyX3 tyX3_ok (by decide +kernel) (by decide +kernel)
  · cases hcl; cases hfs; exact df_of tyX4 tyX4_ok (by decide +kernel) (by decide +kernel)
  · cases hcl; cases hfs; exact df_of tyX5 tyX5_ok (by decide +kernel) (by decide +kernel)
  · cases hcl; cases hfs; exact df_of tyX6 tyX6_ok (by decide +kernel) (by decide +kernel)
  · cases hcl; cases hfs; exact df_of tyX7 tyX7_ok (by decide +kernel) (by decide +kernel)
  · cases hcl; cases hfs; exact df_of tyX8 tyX8_ok (by decide +kernel) (by decide +kernel)
  · cases hcl; cases hfs; exact df_of tyX9 tyX9_ok (by decide +kernel) (by decide +kernel)
  · cases hcl; cases hfs; exact df_of tyX10 tyX10_ok (by decide +kernel) (by decide +kernel)
  · cases hcl; cases hfs; exact df_of tyX11 tyX11_ok (by decide +kernel) (by decide +kernel)
  · cases hcl; cases hfs; exact df_of tyX12 tyX12_ok (by decide +kernel) (by decide +kernel)
  · simp [vwCl] at hcl
