section TEXT
variable {l : Launch} {tl a v : Nat} {f : Nat → Int32}
/-- Preconditions.checkIndex -/
theorem k_jpre (i n : Int32) (w : Value) (hw : w = .null ∨ ∃ q, w = .ref q) (h1 : ¬ i < 0) (h2 : i < n) : CJ l y_jpre c_jpre 3 (some .int) 0 tl a v f [.int i, .int n, w] (fun r => ∃ x, r = some (.int x)) := by
  refine jI (by decide +kernel) (by rcases hw with rfl | ⟨q, rfl⟩ <;> exact Nat.le_of_ble_eq_true rfl) (fun p e s m below meth c ls C hl => ?_)
  have hl : lv_has ls 3 [(0, .int i), (1, .int n), (2, w)] := by rcases hw with rfl | ⟨q, rfl⟩ <;> exact hl
  refine lv_iload_n C.1 C.2.1 dj_jpre_0 rfl (lv_at hl 0 rfl) ?_
  refine lv_if_lt (tgt := 9) C.1 C.2.1 dj_jpre_1 (by decide) (fun h => absurd h h1) (fun _ => ?_)
  refine lv_iload_n C.1 C.2.1 dj_jpre_4 rfl (lv_at hl 0 rfl) ?_
  refine lv_iload_n C.1 C.2.1 dj_jpre_5 rfl (lv_at hl 1 rfl) ?_
  refine lv_icmp_lt (tgt := 16) C.1 C.2.1 dj_jpre_6 (by decide) (fun _ => ?_) (fun h => absurd h2 h)
  refine lv_iload_n C.1 C.2.1 dj_jpre_16 rfl (lv_at hl 0 rfl) ?_
  exact jret rfl C va_S.rf rfl dj_jpre_17 ⟨i, rfl⟩
/-- String.checkIndex -/
theorem k_jchk (i n : Int32) (h1 : ¬ i < 0) (h2 : i < n) : CJ l y_jchk c_jchk 2 none 1 tl a v f [.int i, .int n] (fun r => r = none) := by
  refine jI (by decide +kernel) (Nat.le_of_ble_eq_true rfl) (fun p e s m below meth c ls C hl => ?_)
  have hl : lv_has ls 2 [(0, .int i), (1, .int n)] := hl
  refine lv_iload_n C.1 C.2.1 dj_jchk_0 rfl (lv_at hl 0 rfl) ?_
  refine lv_iload_n C.1 C.2.1 dj_jchk_1 rfl (lv_at hl 1 rfl) ?_
  have go : ∀ w : Value, (w = .null ∨ ∃ q, w = .ref q) → W p l e (rmD 1 0 0) s m ([.int i, .int n] : List Value).toArray below meth c s.heap [] 0 0 (MQ below (QJ (fun r => r = none) s.heap.size) ([.int i, .int n] : List Value).toArray s 0 0 (fun q => s.heap.size ≤ q)) (F0 m 5 ls [w, .int n, .int i]) := by
    intro w hw
    refine js (n := 3) (vs := [.int i, .int n, w]) (rest := []) C.1 C.2.1 C.2.2.1 C.2.2.2.1 C.2.2.2.2.1 C.2.2.2.2.2.1 C.2.2.2.2.2.2.1 (k_jpre i n w hw h1 h2) qm_jchk_1059 qs_jpre qn_jdk_internal_util_Preconditions qk_jpre (by decide +kernel) rfl (by decide) hl.1 (by decide) (by decide) (by decide) ⟨by decide, by decide⟩ va_S.rf dj_jchk_5 (fun r H1 locs1 hr hz hk hS => ?_)
    obtain ⟨x, rfl⟩ := hr
    refine lv_pop C.1 C.2.1 dj_jchk_8 rfl ?_
    have hlocks := C.2.2.2.2.2.2.2.2
    exact W.vret C.1 C.2.1 C.2.2.2.2.2.2.2.1 (fun t ht hW => ⟨⟨_, rfl, rfl⟩, hS.F ht⟩) hS.2.2 dj_jchk_9
  rcases C.2.2.2.2.2.1.2.2.2.2.2 with hz | ⟨q, hz⟩
  · exact va_gets C.1 C.2.1 hz va_S.rf C.2.2.2.1 (C.2.2.2.2.1 _ qf_jchk_1053) (fun _ h => h) dj_jchk_2 (go _ (Or.inl rfl))
  · exact va_gets C.1 C.2.1 hz va_S.rf C.2.2.2.1 (C.2.2.2.2.1 _ qf_jchk_1053) (fun _ h => h) dj_jchk_2 (go _ (Or.inr ⟨q, rfl⟩))
theorem sh0 {x : Int32} : x >>> ((0 : Int32) &&& 31) = x := by simp
theorem chr_ok (x : Int32) : narrow .char (.int ((x &&& 255).toUInt32 % 65536).toInt32) = .int ((x &&& 255).toUInt32 % 65536).toInt32 := by
  rw [sc_c2]
  exact sc_nar _
/-- StringLatin1.charAt -/
theorem k_jlch (i : Int32) (htl : tl < 2147483648) (h1 : ¬ i < 0) (h2 : i < Int32.ofNat tl) : CJ l y_jlch c_jlch 2 (some .char) 2 tl a v f [.ref v, .int i] (fun r => r = some (.int (f i.toNatClampNeg &&& 255))) := by
  refine jI (by decide +kernel) (Nat.le_of_ble_eq_true rfl) (fun p e s m below meth c ls C hl => ?_)
  have hl : lv_has ls 2 [(0, .ref v), (1, .int i)] := hl
  have hin : vp_in i tl := by
    rw [vp_in_iff]
    rw [Int32.lt_iff_toInt_lt] at h1 h2
    rw [Int32.toInt_ofNat_of_lt (by omega)] at h2
    simp at h1
    omega
  refine lv_iload_n C.1 C.2.1 dj_jlch_0 rfl (lv_at hl 1 rfl) ?_
  refine lv_aload_n C.1 C.2.1 dj_jlch_1 rfl (lv_at hl 0 rfl) ?_
  refine va_tlen C.1 C.2.1 C.2.2.2.2.2.1.2.2.2.1 va_S.rf (v := Int32.ofNat tl) rfl dj_jlch_2 ?_
  refine js (n := 2) (vs := [.int i, .int (Int32.ofNat tl)]) (rest := []) C.1 C.2.1 C.2.2.1 C.2.2.2.1 C.2.2.2.2.1 C.2.2.2.2.2.1 C.2.2.2.2.2.2.1 (k_jchk i (Int32.ofNat tl) h1 h2) qm_jlch_9 qs_jchk qn_java_lang_String qk_jchk (by decide +kernel) rfl (by decide) hl.1 (by decide) (by decide) (by decide) ⟨by decide, by decide⟩ va_S.rf dj_jlch_3 (fun r H1 locs1 hr hz hk hS => ?_)
  subst hr
  refine lv_aload_n C.1 C.2.1 dj_jlch_6 rfl (lv_at hl 0 rfl) ?_
  refine lv_iload_n C.1 C.2.1 dj_jlch_7 rfl (lv_at hl 1 rfl) ?_
  refine va_tb C.1 C.2.1 C.2.2.2.2.2.1.2.2.2.1 hS hin rfl dj_jlch_8 ?_
  refine lv_sipush (v := 255) C.1 C.2.1 dj_jlch_9 (by decide) ?_
  refine lv_iand C.1 C.2.1 dj_jlch_12 ?_
  refine lv_i2c C.1 C.2.1 dj_jlch_13 rfl ?_
  exact jret rfl C hS (chr_ok _) dj_jlch_14 (by rw [sc_c2])
/-- isLatin1 -/
theorem k_jlat : CJ l y_jlat c_jlat 1 (some .boolean) 0 tl a v f [.ref a] (fun r => r = some (.int 1)) := by
  refine jI (by decide +kernel) (Nat.le_of_ble_eq_true rfl) (fun p e s m below meth c ls C hl => ?_)
  have hl : lv_has ls 1 [(0, .ref a)] := hl
  refine va_gets C.1 C.2.1 C.2.2.2.2.2.1.2.2.2.2.1 va_S.rf C.2.2.2.1 (C.2.2.2.2.1 _ qf_jlat_38) (fun _ h => h) dj_jlat_0 ?_
  refine lv_if_eq (tgt := 17) C.1 C.2.1 dj_jlat_3 (by decide) (fun h => absurd h (by decide)) (fun _ => ?_)
  refine lv_aload_n C.1 C.2.1 dj_jlat_6 rfl (lv_at hl 0 rfl) ?_
  refine vk_getf C.1 C.2.1 C.2.2.2.2.2.1.2.1 va_S.rf C.2.2.2.1 (C.2.2.2.2.1 _ qf_jlat_15) (fun _ h => h) dj_jlat_7 ?_
  refine lv_if_ne (tgt := 17) C.1 C.2.1 dj_jlat_10 (by decide) (fun h => absurd rfl h) (fun _ => ?_)
  refine lv_iconst (v := 1) C.1 C.2.1 dj_jlat_13 (by decide) ?_
  refine lv_goto (tgt := 18) C.1 C.2.1 dj_jlat_14 (by decide) ?_
  exact jret rfl C va_S.rf rfl dj_jlat_18 rfl
/-- coder -/
theorem k_jcod : CJ l y_jcod c_jcod 1 (some .byte) 0 tl a v f [.ref a] (fun r => r = some (.int 0)) := by
  refine jI (by decide +kernel) (Nat.le_of_ble_eq_true rfl) (fun p e s m below meth c ls C hl => ?_)
  have hl : lv_has ls 1 [(0, .ref a)] := hl
  refine va_gets C.1 C.2.1 C.2.2.2.2.2.1.2.2.2.2.1 va_S.rf C.2.2.2.1 (C.2.2.2.2.1 _ qf_jcod_38) (fun _ h => h) dj_jcod_0 ?_
  refine lv_if_eq (tgt := 13) C.1 C.2.1 dj_jcod_3 (by decide) (fun h => absurd h (by decide)) (fun _ => ?_)
  refine lv_aload_n C.1 C.2.1 dj_jcod_6 rfl (lv_at hl 0 rfl) ?_
  refine vk_getf C.1 C.2.1 C.2.2.2.2.2.1.2.1 va_S.rf C.2.2.2.1 (C.2.2.2.2.1 _ qf_jcod_15) (fun _ h => h) dj_jcod_7 ?_
  refine lv_goto (tgt := 14) C.1 C.2.1 dj_jcod_10 (by decide) ?_
  exact jret rfl C va_S.rf rfl dj_jcod_14 rfl
/-- charAt -/
theorem k_jcha (i : Int32) (htl : tl < 2147483648) (h1 : ¬ i < 0) (h2 : i < Int32.ofNat tl) : CJ l y_jcha c_jcha 2 (some .char) 3 tl a v f [.ref a, .int i] (fun r => r = some (.int (f i.toNatClampNeg &&& 255))) := by
  refine jI (by decide +kernel) (Nat.le_of_ble_eq_true rfl) (fun p e s m below meth c ls C hl => ?_)
  have hl : lv_has ls 2 [(0, .ref a), (1, .int i)] := hl
  refine lv_aload_n C.1 C.2.1 dj_jcha_0 rfl (lv_at hl 0 rfl) ?_
  refine jv (n := 0) (vs := []) (rest := []) C.1 C.2.1 C.2.2.1 C.2.2.2.1 C.2.2.2.2.1 C.2.2.2.2.2.1 C.2.2.2.2.2.2.1 k_jlat rfl qm_jcha_492 qv_jlat qe_jlat qn_java_lang_String qk_jlat (by decide +kernel) rfl (by decide) hl.1 (by decide) (by decide) (by decide) ⟨by decide, by decide⟩ va_S.rf dj_jcha_1 (fun r H1 locs1 hr hz hk hS => ?_)
  subst hr
  refine lv_if_eq (tgt := 16) C.1 C.2.1 dj_jcha_4 (by decide) (fun h => absurd h (by decide)) (fun _ => ?_)
  refine lv_aload_n C.1 C.2.1 dj_jcha_7 rfl (lv_at hl 0 rfl) ?_
  refine vk_getf C.1 C.2.1 C.2.2.2.2.2.1.2.2.1 hS C.2.2.2.1 (C.2.2.2.2.1 _ qf_jcha_9) (fun _ h => h) dj_jcha_8 ?_
  refine lv_iload_n C.1 C.2.1 dj_jcha_11 rfl (lv_at hl 1 rfl) ?_
  refine js (n := 2) (vs := [.ref v, .int i]) (rest := []) C.1 C.2.1 C.2.2.1 C.2.2.2.1 C.2.2.2.2.1 C.2.2.2.2.2.1 C.2.2.2.2.2.2.1 (k_jlch i htl h1 h2) qm_jcha_495 qs_jlch qn_java_lang_StringLatin1 qk_jlch (by decide +kernel) rfl (by decide) hl.1 (by decide) (by decide) (by decide) ⟨by decide, by decide⟩ hS dj_jcha_12 (fun r H2 locs2 hr hz2 hk2 hS2 => ?_)
  subst hr
  exact jret rfl C hS2 (sc_nar _) dj_jcha_15 rfl
/-- length -/
theorem k_jlen : CJ l y_jlen c_jlen 1 (some .int) 1 tl a v f [.ref a] (fun r => r = some (.int (Int32.ofNat tl))) := by
  refine jI (by decide +kernel) (Nat.le_of_ble_eq_true rfl) (fun p e s m below meth c ls C hl => ?_)
  have hl : lv_has ls 1 [(0, .ref a)] := hl
  refine lv_aload_n C.1 C.2.1 dj_jlen_0 rfl (lv_at hl 0 rfl) ?_
  refine vk_getf C.1 C.2.1 C.2.2.2.2.2.1.2.2.1 va_S.rf C.2.2.2.1 (C.2.2.2.2.1 _ qf_jlen_9) (fun _ h => h) dj_jlen_1 ?_
  refine va_tlen C.1 C.2.1 C.2.2.2.2.2.1.2.2.2.1 va_S.rf (v := Int32.ofNat tl) rfl dj_jlen_4 ?_
  refine lv_aload_n C.1 C.2.1 dj_jlen_5 rfl (lv_at hl 0 rfl) ?_
  refine jv (n := 0) (vs := []) (rest := [.int (Int32.ofNat tl)]) C.1 C.2.1 C.2.2.1 C.2.2.2.1 C.2.2.2.2.1 C.2.2.2.2.2.1 C.2.2.2.2.2.2.1 k_jcod rfl qm_jlen_335 qv_jcod qe_jcod qn_java_lang_String qk_jcod (by decide +kernel) rfl (by decide) hl.1 (Nat.le_of_ble_eq_true rfl) (by decide) (by decide) ⟨by decide, by decide⟩ va_S.rf dj_jlen_6 (fun r H1 locs1 hr hz hk hS => ?_)
  subst hr
  refine lv_ishr C.1 C.2.1 dj_jlen_9 ?_
  refine W.eq (g2 := F0 m 10 ls [.int (Int32.ofNat tl)]) (by rw [sh0]) ?_
  exact jret rfl C hS rfl dj_jlen_10 rfl
end TEXT
