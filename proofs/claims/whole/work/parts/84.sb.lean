theorem eg_ifnn {k : eg_K} {g : eg_G} {d bc bs n : Nat} {M : eg_M} {ls st : List Value} {pc : Nat} {Q : eg_Q} {x : Nat} {off : Int} (tgt : Nat) (hd : decode g.2.1 pc = .ok (.ifnonnull off, 3)) (ht : (pc : Int) + off = (tgt : Int)) (h : eg_E k g d bc bs n M ls st tgt Q) : eg_E k g d bc bs n M ls (.ref x :: st) pc Q := by
  intro p e R s m args below meth c H locs cells slots sl Z C hW hz hl hL hc hs hR
  exact lv_ifnonnull C.1 C.2.1 hd ht (h p e R s m args below meth c H locs cells slots sl Z C hW hz hl hL hc hs hR)
/-- a literal's bytes are copied -/
theorem eg_acS {k : eg_K} {g : eg_G} {d bc bs n : Nat} {M : eg_M} {ls st : List Value} {pc : Nat} {Q : eg_Q} {idx i i1 n1 DP : Nat} {f1 : Nat → Int} {sp dp nn : Int} (hi : i < 35) (hlk : Cond.methodLink g.1.cls idx arraycopyName ∈ eg_T) (hw : Cond.native arraycopyName ∈ eg_T ∧ Cond.static arraycopyName ∈ eg_T ∧ Cond.initialized "java/lang/System" ∈ eg_T) (hd : decode g.2.1 pc = .ok (.invokestatic idx, 3)) (h1 : M i1 = some (aB k n1 f1)) (hsp : sp = ((0 : Nat) : Int)) (hdp : dp = (DP : Int)) (hnn : nn = ((eg_tx i).length : Int)) (h5 : DP + (eg_tx i).length ≤ n1) (hb1 : n1 ≤ 65536) (hst : (st.map fun v => v.category).sum ≤ 8) (hdd : 1 ≤ d) (h : eg_E k g d bc bs n (va_up M i1 (some (aB k n1 (va_cpy (fun j => (eg_tx i).getD j 0) f1 0 DP (eg_tx i).length)))) ls (st) (pc + 3) Q) : eg_E k g d bc bs n (M) ls (vI nn :: vI dp :: vR k i1 :: vI sp :: vV k i :: st) (pc) Q := by
  intro p e R s m args below meth c H locs cells slots sl Z C hW hz hl hL hc hs hR
  subst hsp; subst hdp; subst hnn
  have hts := C.2.2.2.2.2.1
  have hK := C.2.2.2.2.2.2.1.1
  have g1 := C.2.2.2.2.2.2.2.2.1
  have g2 := C.2.2.2.2.2.2.2.2.2
  have t8 := (tx_b i hi).1
  obtain ⟨scr, s1, s2, s3, s4, s5, s6, s7⟩ := (C.2.2.2.2.2.2.1.2.2.1 i hi).2.2.2.1
  have ns : (Int32.ofInt ((0 : Nat) : Int)).toInt = ((0 : Nat) : Int) := i_to ⟨by omega, by omega⟩
  have nd : (Int32.ofInt (DP : Int)).toInt = (DP : Int) := i_to ⟨by omega, by omega⟩
  have nN : (Int32.ofInt ((eg_tx i).length : Int)).toInt = ((eg_tx i).length : Int) := i_to ⟨by omega, by omega⟩
  have cs : (Int32.ofInt ((0 : Nat) : Int)).toNatClampNeg = 0 := by show (Int32.ofInt ((0 : Nat) : Int)).toInt.toNat = 0; rw [ns]; omega
  have cd : (Int32.ofInt (DP : Int)).toNatClampNeg = DP := by show (Int32.ofInt (DP : Int)).toInt.toNat = DP; rw [nd]; omega
  have cn : (Int32.ofInt ((eg_tx i).length : Int)).toNatClampNeg = (eg_tx i).length := by show (Int32.ofInt ((eg_tx i).length : Int)).toInt.toNat = _; rw [nN]; omega
  have pos : ∀ z : Nat, z ≤ 65536 → ¬ Int32.ofInt (z : Int) < 0 := fun z hz q => by
    rw [show (0 : Int32) = Int32.ofInt 0 from rfl, i_lt ⟨by omega, by omega⟩ iR0] at q
    omega
  have hc0 : H[eg_sV k i]? = some scr := eg_ro hW s1 s7
  have hc1 : H[eg_B k + i1]? = some (arrV (eg_A k 2) n1 (fun j => .int (Int32.ofInt (f1 j)))) := at_aB.mp (hW.2.2 i1 _ h1)
  obtain ⟨s8, k9, hk9, cm9, hkk9⟩ := s2
  obtain ⟨-, k0, hk0, cm0, hkk0⟩ := (hK.2 2 _ rfl).1 n1 (fun j => .int (Int32.ofInt (f1 j)))
  have hroom : 2 * 0 + (st.map fun v => v.category).sum + (nativeFrameWords "java/lang/System" "arraycopy" 5 + 11) ≤ R.locals := by
    have e4 : nativeFrameWords "java/lang/System" "arraycopy" 5 + 11 ≤ 60 := by decide +kernel
    omega
  intro T hT X
  obtain ⟨vm', X', step⟩ := X.arraycopy C.1 C.2.2.2.2.1 (hts _ hlk) (hts _ hw.1) (hts _ hw.2.1) (hts _ hw.2.2) (src := eg_sV k i) (dst := eg_B k + i1) (cs := scr) (cd := arrV (eg_A k 2) n1 (fun j => .int (Int32.ofInt (f1 j)))) (srcPos := Int32.ofInt ((0 : Nat) : Int)) (destPos := Int32.ofInt (DP : Int)) (n := Int32.ofInt ((eg_tx i).length : Int)) (by rw [hT]; exact hc0) (by rw [hT]; exact hc1)
    s8 (fun _ h => by cases h) s3 (fun h => by cases h) hk9 hk0 hkk9 hkk0 (by simp [refKind]) (pos 0 (by omega)) (pos DP (by omega)) (pos (eg_tx i).length (by omega))
    (by rw [ns, nN]; omega)
    (by rw [nd, nN, arrV_size]; omega)
    (fun vm₁ _ j hj => by
      rw [cn] at hj
      have e : scr.slots.getD ((Int32.ofInt ((0 : Nat) : Int)).toNatClampNeg + j) .null = vI ((eg_tx i).getD j 0) := by
        rw [cs, Nat.zero_add, Array.getD_eq_getD_getElem?, s6 j hj]
        rfl
      refine ⟨?_, ?_⟩
      · rw [e]
        exact by_fit (tx_c hi)
      · rw [e]
        exact trivial)
    (g := F0 m pc sl (.int (Int32.ofInt ((eg_tx i).length : Int)) :: .int (Int32.ofInt (DP : Int)) :: .ref (eg_B k + i1) :: .int (Int32.ofInt ((0 : Nat) : Int)) :: .ref (eg_sV k i) :: st)) rfl (by rw [hL.2.1]; exact C.2.2.1.symm) (rest := st) rfl (by rw [C.2.1]; exact hd) (by omega) hroom
  have e1 : copied scr (arrV (eg_A k 2) n1 (fun j => .int (Int32.ofInt (f1 j)))) (Int32.ofInt ((0 : Nat) : Int)) (Int32.ofInt (DP : Int)) (Int32.ofInt ((eg_tx i).length : Int)) = arrV (eg_A k 2) n1 (fun j => .int (Int32.ofInt (va_cpy (fun j => (eg_tx i).getD j 0) f1 0 DP (eg_tx i).length j))) := by
    have e2 := va_copiedX (fun z => .int z) scr (eg_A k 2) (n0 := (eg_tx i).length) (n1 := n1) (sp := 0) (dp := DP) (n := (eg_tx i).length) (fun j => Int32.ofInt ((eg_tx i).getD j 0)) (fun j => Int32.ofInt (f1 j)) (fun j hj => s6 j hj) (by omega)
    have e3 : ∀ j, va_cpy (fun j => Int32.ofInt ((eg_tx i).getD j 0)) (fun j => Int32.ofInt (f1 j)) 0 DP (eg_tx i).length j = Int32.ofInt (va_cpy (fun j => (eg_tx i).getD j 0) f1 0 DP (eg_tx i).length j) := fun j => by unfold va_cpy; split <;> rfl
    simp only [e3] at e2
    unfold copied
    rw [cs, cd, cn]
    exact e2
  rw [e1] at X' step
  generalize hcell : arrV (eg_A k 2) n1 (fun j => .int (Int32.ofInt (va_cpy (fun j => (eg_tx i).getD j 0) f1 0 DP (eg_tx i).length j))) = cell at X' step
  have hlt : eg_B k + i1 < H.size := (Array.getElem?_eq_some_iff.mp hc1).1
  have hheap : ((T.setVm vm').setCell (eg_B k + i1) cell).heap = H.setIfInBounds (eg_B k + i1) cell := by rw [← hT]; rfl
  obtain ⟨t, a1, b1⟩ := h p e R s m args below meth c (H.setIfInBounds (eg_B k + i1) cell) _ cells slots sl Z C (hW.set (by simp) (fun q hq => by simp [Array.getElem?_setIfInBounds, Ne.symm hq]) (at_aB.mpr (by rw [hcell]; simp [Array.getElem?_setIfInBounds, hlt]))) (by simpa using hz) (fun q hq => by
      rcases List.mem_append.mp hq with h9 | h9
      · exact hl q h9
      · obtain ⟨z, -, hz9⟩ := List.mem_map.mp h9
        rw [← hz9]
        exact Nat.le_add_right _ _) hL hc hs hR _ hheap X'
  exact ⟨t, step t a1, b1⟩
theorem c_getBytes {k : eg_K} {M : eg_M} {n i a n1 DP : Nat} {f : Nat → Int} (hi : i < 35) (hA : M a = some (aB k n1 f)) (hcp : DP + (eg_tx i).length ≤ n1) (hb1 : n1 ≤ 65536) : eg_P k gJ0_getBytes_840e7 1 0 0 [vS k i, vR k a, vI (DP : Int), vI 0] n (M) (eg_f none n (va_up M a (some (aB k n1 (va_cpy (fun j => (eg_tx i).getD j 0) f 0 DP (eg_tx i).length))))) := by
  refine eg_P.of (by decide) (Nat.le_of_ble_eq_true rfl) ?_
  show eg_E k gJ0_getBytes_840e7 1 0 0 n (M) [vS k i, vR k a, vI (DP : Int), vI 0] [] 0 _
  refine eg_al_n dJ0_getBytes_840e7_0 rfl rfl ?_
  refine eg_VSf0 hi cs_J0_335 rfl dJ0_getBytes_840e7_1 (c_coder hi) (Nat.le_of_ble_eq_true rfl) (by decide) ?_
  refine eg_iload_n dJ0_getBytes_840e7_4 rfl ?_
  refine eg_icmp_ne 28 dJ0_getBytes_840e7_5 ⟨by omega, by omega⟩ ⟨by omega, by omega⟩ rfl (fun h5 => absurd h5 (by omega)) (fun h5 => ?_)
  refine eg_al_n dJ0_getBytes_840e7_8 rfl rfl ?_
  refine eg_sgv hi fw_J0_9 dJ0_getBytes_840e7_9 ?_
  refine eg_iconst dJ0_getBytes_840e7_12 ?_
  refine eg_al_n dJ0_getBytes_840e7_13 rfl rfl ?_
  refine eg_iload_n dJ0_getBytes_840e7_14 rfl ?_
  refine eg_iload_n dJ0_getBytes_840e7_15 rfl ?_
  refine eg_ishl (j := 0) dJ0_getBytes_840e7_16 (by decide) ?_
  refine eg_eqI (y := (DP : Int)) (by rw [Int.pow_zero]; omega) ?_
  refine eg_al_n dJ0_getBytes_840e7_17 rfl rfl ?_
  refine eg_sgv hi fw_J0_9 dJ0_getBytes_840e7_18 ?_
  refine eg_slen hi dJ0_getBytes_840e7_21 ?_
  refine eg_acS hi ac_J0_212 ac_nat dJ0_getBytes_840e7_22 hA rfl rfl rfl hcp hb1 (Nat.le_of_ble_eq_true rfl) (by decide) ?_
  refine eg_goto 43 dJ0_getBytes_840e7_25 rfl ?_
  refine eg_return dJ0_getBytes_840e7_43 rfl ?_
  exact ⟨rfl, rfl, rfl⟩
theorem c_inflateIf {k : eg_K} {z : eg_Z} {X : eg_M} {n : Nat} {i : Nat} (hi : i < 35) : eg_P k gJ5_inflateIfNeededFor_a7421 1 0 0 [vR k 197, vS k i] n (enc k z X) (eg_f none n (enc k z X)) := by
  refine eg_P.of (by decide) (Nat.le_of_ble_eq_true rfl) ?_
  show eg_E k gJ5_inflateIfNeededFor_a7421 1 0 0 n (enc k z X) [vR k 197, vS k i] [] 0 _
  refine eg_gcs fw_J5_18 dJ5_inflateIfNeededFor_a7421_0 ?_
  refine eg_if_eq 21 dJ5_inflateIfNeededFor_a7421_3 ⟨by omega, by omega⟩ rfl (fun h3 => absurd h3 (by omega)) (fun h3 => ?_)
  refine eg_al_n dJ5_inflateIfNeededFor_a7421_6 rfl rfl ?_
  refine eg_get fl_J5_22 dJ5_inflateIfNeededFor_a7421_7 (by exact er197) rfl ?_
  refine eg_al_n dJ5_inflateIfNeededFor_a7421_10 rfl rfl ?_
  refine eg_VSf0 hi cs_J5_40 rfl dJ5_inflateIfNeededFor_a7421_11 (c_coder hi) (Nat.le_of_ble_eq_true rfl) (by decide) ?_
  refine eg_icmp_eq 21 dJ5_inflateIfNeededFor_a7421_14 ⟨by omega, by omega⟩ ⟨by omega, by omega⟩ rfl (fun h14 => ?_) (fun h14 => absurd h14 (by omega))
  refine eg_return dJ5_inflateIfNeededFor_a7421_21 rfl ?_
  exact ⟨rfl, rfl, rfl⟩
theorem c_putStr {k : eg_K} {z : eg_Z} {X : eg_M} {n : Nat} {i cap DP : Nat} {f : Nat → Int} (hi : i < 35) (hva : (z 197 0).toNat = 198 ∨ 216 ≤ (z 197 0).toNat) (hA : enc k z X (z 197 0).toNat = some (aB k cap f)) (h5 : DP + (eg_tx i).length ≤ cap) (hb1 : cap ≤ 65536) : eg_P k gJ5_putStringAt_47b60 2 0 0 [vR k 197, vI (DP : Int), vS k i] n (enc k z X) (eg_f none n (enc k z (va_up X (z 197 0).toNat (some (aB k cap (va_cpy (fun j => (eg_tx i).getD j 0) f 0 DP (eg_tx i).length)))))) := by
  refine eg_P.of (by decide) (Nat.le_of_ble_eq_true rfl) ?_
  show eg_E k gJ5_putStringAt_47b60 2 0 0 n (enc k z X) [vR k 197, vI (DP : Int), vS k i] [] 0 _
  refine eg_al_n dJ5_putStringAt_47b60_0 rfl rfl ?_
  refine eg_al_n dJ5_putStringAt_47b60_1 rfl rfl ?_
  refine eg_Ug1 cs_J5_397 dJ5_putStringAt_47b60_2 (c_inflateIf hi) er197 (Nat.le_of_ble_eq_true rfl) (by decide) ?_
  refine eg_al_n dJ5_putStringAt_47b60_5 rfl rfl ?_
  refine eg_al_n dJ5_putStringAt_47b60_6 rfl rfl ?_
  refine eg_get fl_J5_15 dJ5_putStringAt_47b60_7 (by first | exact er197 | exact hA) rfl ?_
  refine eg_iload_n dJ5_putStringAt_47b60_10 rfl ?_
  refine eg_al_n dJ5_putStringAt_47b60_11 rfl rfl ?_
  refine eg_get fl_J5_22 dJ5_putStringAt_47b60_12 (by first | exact er197 | exact hA) rfl ?_
  refine eg_cVS (As := [vR k (z 197 0).toNat, vI (DP : Int), vI 0]) hi cs_J5_399 rfl dJ5_putStringAt_47b60_15 (c_getBytes hi hA h5 hb1) rfl (Nat.le_of_ble_eq_true rfl) (by decide) (Nat.zero_add _).symm (Nat.zero_add _).symm ?_
  rintro _ _ _ ⟨rfl, rfl, rfl⟩
  rw [enc_xs hva]
  refine eg_return dJ5_putStringAt_47b60_18 rfl ?_
  exact ⟨rfl, rfl, rfl⟩
theorem gI_le {g N : Nat} (h : N ≤ 2 * cpG g + 2) : N ≤ cpG (gI g N) := by
  unfold gI
  split
  · assumption
  · exact h
theorem c_apS5 {k : eg_K} {z : eg_Z} {X : eg_M} {n : Nat} {T : List Int} {g i : Nat} (hS : SB k z X n T g) (hi : i < 35) (h2 : gI g (T.length + (eg_tx i).length) ≤ 6) : eg_P k gJ5_append_cf1ce 4 (gI g (T.length + (eg_tx i).length) - g) (slG (gI g (T.length + (eg_tx i).length)) - slG g) [vR k 197, vS k i] n (enc k z X) (eg_b k (some (vR k 197)) (fun n' z' X' => (∀ c, c ≠ 197 → z' c = z c) ∧ SB k z' X' n' (T ++ eg_tx i) (gI g (T.length + (eg_tx i).length)))) := by
  refine eg_P.of (by decide) (Nat.le_of_ble_eq_true rfl) ?_
  show eg_E k gJ5_append_cf1ce 4 (gI g (T.length + (eg_tx i).length) - g) (slG (gI g (T.length + (eg_tx i).length)) - slG g) n (enc k z X) [vR k 197, vS k i, vU] [] 0 _
  have hct := hS.2.2.2.2.2.1
  have hl0 := hS.2.2.2.2.1
  have t8 := (tx_b i hi).1
  have cb0 := cpG_b hS.2.2.2.1
  refine eg_al_n dJ5_append_cf1ce_0 rfl rfl ?_
  refine eg_ifnn 9 dJ5_append_cf1ce_1 rfl ?_
  refine eg_al_n dJ5_append_cf1ce_9 rfl rfl ?_
  refine eg_VSf0 hi cs_J5_32 rfl dJ5_append_cf1ce_10 (c_length hi) (Nat.le_of_ble_eq_true rfl) (by decide) ?_
  refine eg_istore_n dJ5_append_cf1ce_13 rfl rfl rfl ?_
  refine eg_al_n dJ5_append_cf1ce_14 rfl rfl ?_
  refine eg_al_n dJ5_append_cf1ce_15 rfl rfl ?_
  refine eg_get fl_J5_79 dJ5_append_cf1ce_16 (by first | exact er197) rfl ?_
  refine eg_iload_n dJ5_append_cf1ce_19 rfl ?_
  refine eg_iadd dJ5_append_cf1ce_20 ?_
  refine eg_eqI (y := ((T.length + (eg_tx i).length) : Nat)) (by rw [hct]; omega) ?_
  refine eg_Ub1 (bc' := 0) (bs' := 0) cs_J5_100 dJ5_append_cf1ce_21 (c_ensure (N := (T.length + (eg_tx i).length)) hS (by omega) h2) er197 (Nat.le_of_ble_eq_true rfl) (by decide) rfl rfl ?_
  rintro n1 z1 X1 ⟨fr1, hS1⟩
  obtain ⟨hva, hvn, hn, hg, hl, hct1, f, hX, hf, hfT⟩ := id hS1
  have hA : enc k z1 X1 (z1 197 0).toNat = some (aB k (cpG (gI g (T.length + (eg_tx i).length))) f) := (enc_x hva).trans hX
  have cb := cpG_b hg
  have h5 : T.length + (eg_tx i).length ≤ cpG (gI g (T.length + (eg_tx i).length)) := gI_le (by omega)
  refine eg_al_n dJ5_append_cf1ce_24 rfl rfl ?_
  refine eg_al_n dJ5_append_cf1ce_25 rfl rfl ?_
  refine eg_get fl_J5_79 dJ5_append_cf1ce_26 (by first | exact er197) rfl ?_
  refine eg_eqI hct1 ?_
  refine eg_al_n dJ5_append_cf1ce_29 rfl rfl ?_
  refine eg_Ug2 cs_J5_208 dJ5_append_cf1ce_30 (c_putStr hi hva hA h5 (by omega)) er197 (Nat.le_of_ble_eq_true rfl) (by decide) ?_
  refine eg_al_n dJ5_append_cf1ce_33 rfl rfl ?_
  refine eg_dup dJ5_append_cf1ce_34 rfl ?_
  refine eg_get fl_J5_79 dJ5_append_cf1ce_35 (by first | exact er197) rfl ?_
  refine eg_iload_n dJ5_append_cf1ce_38 rfl ?_
  refine eg_iadd dJ5_append_cf1ce_39 ?_
  refine eg_put fl_J5_79 dJ5_append_cf1ce_40 (by first | exact er197) rfl rfl rfl rfl ?_
  refine eg_eqM es197_3 ?_
  refine eg_al_n dJ5_append_cf1ce_43 rfl rfl ?_
  refine eg_aret dJ5_append_cf1ce_44 rfl rfl (Or.inl ⟨_, rfl⟩) ?_
  refine ⟨rfl, _, _, rfl, fun c hc => by rw [va_up_n _ _ hc]; exact fr1 c hc, ?_⟩
  have e0 : va_up z1 197 (va_up (z1 197) 3 (z1 197 3 + ((eg_tx i).length : Int))) 197 0 = z1 197 0 := by rw [va_up_s, va_up_n _ _ (by decide)]
  unfold SB
  rw [e0]
  refine ⟨hva, hvn, hn, hg, by rw [List.length_append]; exact h5, by rw [va_up_s, va_up_s, List.length_append, hct1]; omega, _, va_up_s _ _ _, fun j hj => ?_, fun j hj => ?_⟩
  · unfold va_cpy; split
    · exact tx_c hi
    · exact hf j hj
  · rw [List.length_append] at hj
    unfold va_cpy
    by_cases c9 : j < T.length
    · rw [if_neg (by omega), gD_l c9]; exact hfT j c9
    · rw [if_pos (by omega), Nat.zero_add]
      show (eg_tx i).getD (j - T.length) 0 = _
      rw [List.getD_eq_getElem?_getD, List.getD_eq_getElem?_getD, List.getElem?_append_right (by omega)]
theorem c_apS {k : eg_K} {z : eg_Z} {X : eg_M} {n : Nat} {T : List Int} {g i : Nat} (hS : SB k z X n T g) (hi : i < 35) (h2 : gI g (T.length + (eg_tx i).length) ≤ 6) : eg_P k gJ4_append_15ec4 5 (gI g (T.length + (eg_tx i).length) - g) (slG (gI g (T.length + (eg_tx i).length)) - slG g) [vR k 197, vS k i] n (enc k z X) (eg_b k (some (vR k 197)) (fun n' z' X' => (∀ c, c ≠ 197 → z' c = z c) ∧ SB k z' X' n' (T ++ eg_tx i) (gI g (T.length + (eg_tx i).length)))) := by
  refine eg_P.of (by decide) (Nat.le_of_ble_eq_true rfl) ?_
  show eg_E k gJ4_append_15ec4 5 (gI g (T.length + (eg_tx i).length) - g) (slG (gI g (T.length + (eg_tx i).length)) - slG g) n (enc k z X) [vR k 197, vS k i] [] 0 _
  refine eg_al_n dJ4_append_15ec4_0 rfl rfl ?_
  refine eg_al_n dJ4_append_15ec4_1 rfl rfl ?_
  refine eg_Pb1 (bc' := 0) (bs' := 0) cs_J4_29 dJ4_append_15ec4_2 (c_apS5 hS hi h2) er197 (Nat.le_of_ble_eq_true rfl) (by decide) rfl rfl ?_
  rintro n1 z1 X1 hP
  refine eg_pop dJ4_append_15ec4_5 rfl ?_
  refine eg_al_n dJ4_append_15ec4_6 rfl rfl ?_
  refine eg_aret dJ4_append_15ec4_7 rfl rfl (Or.inl ⟨_, rfl⟩) ?_
  exact ⟨rfl, z1, X1, rfl, hP⟩
