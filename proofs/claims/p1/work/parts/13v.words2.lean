theorem q_m_MerryDuchyModel_254 : Cond.methodLink "MerryDuchyModel" 254 yX12_refuse ∈ gtbl := gt7 68 (by decide +kernel) (by decide +kernel)
theorem q_v_X12_refuse : Cond.instanceMethod yX12_refuse ∈ gtbl := gt7 70 (by decide +kernel) (by decide +kernel)
theorem q_e_X12_refuse : Cond.selects "MerryDuchyModel" yX12_refuse yX12_refuse ∈ gtbl := gm 78 (by decide +kernel) (by decide +kernel)
theorem q_m_MerryDuchyLaw_43 : Cond.methodLink "MerryDuchyLaw" 43 yX12_man ∈ gtbl := gt7 60 (by decide +kernel) (by decide +kernel)
theorem q_v_X12_man : Cond.instanceMethod yX12_man ∈ gtbl := gt7 61 (by decide +kernel) (by decide +kernel)
theorem q_e_X12_man : Cond.selects "MerryDuchyModel" yX12_man yX12_man ∈ gtbl := gt7 62 (by decide +kernel) (by decide +kernel)
theorem q_m_MerryDuchyLaw_44 : Cond.methodLink "MerryDuchyLaw" 44 yX12_thrown ∈ gtbl := gt6 6 (by decide +kernel) (by decide +kernel)
theorem q_v_X12_thrown : Cond.instanceMethod yX12_thrown ∈ gtbl := gt6 7 (by decide +kernel) (by decide +kernel)
theorem q_e_X12_thrown : Cond.selects "MerryDuchyModel" yX12_thrown yX12_thrown ∈ gtbl := gt6 8 (by decide +kernel) (by decide +kernel)
theorem q_k_X11_man : Cond.code yX11_man cX11_man 4 (some .int) ∈ gtbl := gt5 179 (by decide +kernel) (by decide +kernel)
theorem q_k_X12_man : Cond.code yX12_man cX12_man 3 (some .int) ∈ gtbl := gt7 63 (by decide +kernel) (by decide +kernel)
theorem q_k_X12_refuse : Cond.code yX12_refuse cX12_refuse 1 (some .int) ∈ gtbl := gt7 71 (by decide +kernel) (by decide +kernel)
theorem q_k_X12_thrown : Cond.code yX12_thrown cX12_thrown 1 (some .int) ∈ gtbl := gt6 9 (by decide +kernel) (by decide +kernel)
theorem nb_X11_man : (yX11_man.cls ≠ "java/lang/invoke/MethodHandle" ∧ yX11_man.cls ≠ "java/lang/invoke/VarHandle") ∧ Cond.initialized yX11_man.cls ∈ gtbl ∧ (parseMethodDescriptor yX11_man.desc).map (fun d => d.parameters.length) = some 2 := ⟨⟨by decide +kernel, by decide +kernel⟩, q_n_MerryDuchy, by decide +kernel⟩
theorem nb_X12_man : (yX12_man.cls ≠ "java/lang/invoke/MethodHandle" ∧ yX12_man.cls ≠ "java/lang/invoke/VarHandle") ∧ Cond.initialized yX12_man.cls ∈ gtbl ∧ (parseMethodDescriptor yX12_man.desc).map (fun d => d.parameters.length) = some 2 := ⟨⟨by decide +kernel, by decide +kernel⟩, q_n_MerryDuchyModel, by decide +kernel⟩
theorem nb_X12_refuse : (yX12_refuse.cls ≠ "java/lang/invoke/MethodHandle" ∧ yX12_refuse.cls ≠ "java/lang/invoke/VarHandle") ∧ Cond.initialized yX12_refuse.cls ∈ gtbl ∧ (parseMethodDescriptor yX12_refuse.desc).map (fun d => d.parameters.length) = some 0 := ⟨⟨by decide +kernel, by decide +kernel⟩, q_n_MerryDuchyModel, by decide +kernel⟩
theorem nb_X12_thrown : (yX12_thrown.cls ≠ "java/lang/invoke/MethodHandle" ∧ yX12_thrown.cls ≠ "java/lang/invoke/VarHandle") ∧ Cond.initialized yX12_thrown.cls ∈ gtbl ∧ (parseMethodDescriptor yX12_thrown.desc).map (fun d => d.parameters.length) = some 0 := ⟨⟨by decide +kernel, by decide +kernel⟩, q_n_MerryDuchyModel, by decide +kernel⟩
