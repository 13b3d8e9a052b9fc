theorem c_rS {k : eg_K} {z : eg_Z} {X : eg_M} {n : Nat} {U : List Int} {g : Nat} (hS : SB k z X n U (gF g U.length)) {i : Nat} (hi : i < 35) (h9 : (U ++ eg_tx i).length ≤ 1150) : eg_P k gJ4_append_15ec4 5 (gF g (U ++ eg_tx i).length - gF g U.length) (slG (gF g (U ++ eg_tx i).length) - slG (gF g U.length)) [vR k 197, vS k i] n (enc k z X) (eg_b k (some (vR k 197)) (fun n' z' X' => (∀ c, c ≠ 197 → z' c = z c) ∧ SB k z' X' n' (U ++ eg_tx i) (gF g (U ++ eg_tx i).length))) := by
  have s := c_tS (k := k) (N := (U ++ eg_tx i).length) hS hi List.length_append h9
  rw [gF_c (show U.length ≤ (U ++ eg_tx i).length by rw [List.length_append]; omega)] at s
  exact s
theorem c_write {k : eg_K} {z : eg_Z} {X : eg_M} {n : Nat} {v : eg_v} {B : Int} (hp : hP z 1 v) (hv : VV B v) {T : List Int} {g F : Nat} (hS : SB k z X n T g) (hFe : F = (lT v).length) : eg_P k gX7_write 8 (gF g F - g) (slG (gF g F) - slG g) [vR k 196, vR k 1] n (enc k z X) (eg_b k none (fun n' z' X' => (∀ c, c ≠ 197 → z' c = z c) ∧ SB k z' X' n' (lT v) (gF g (lT v).length))) := by
  refine eg_P.of (by decide) (Nat.le_of_ble_eq_true rfl) ?_
  show eg_E k gX7_write 8 (gF g F - g) (slG (gF g F) - slG g) n (enc k z X) [vR k 196, vR k 1] [] 0 _
  have hb : isB 1 = true := by decide
  have q := hv.r.2
  have g0 : gF g ([] : List Int).length = g := gF_0 hS.2.2.2.1 (Nat.zero_le _)
  refine eg_al_n dX7_write_0 rfl rfl ?_
  refine eg_get fl_X7_12 dX7_write_1 (by first | exact er196 | exact ep0 hb) rfl ?_
  refine eg_iconst dX7_write_4 ?_
  refine eg_Vb1 (mc := 0) (ms := 0) (bc' := gF g F - gF g ([] : List Int).length) (bs' := slG (gF g F) - slG (gF g ([] : List Int).length)) cs_X7_18 dX7_write_5 (c_setLen hS) er197 rfl (Nat.le_of_ble_eq_true rfl) (by decide) (by rw [g0, Nat.zero_add]) (by rw [g0, Nat.zero_add]) ?_
  rintro n0 z0 X0 ⟨fr0, hS0⟩
  rw [← g0] at hS0
  have hp0 : hP z0 1 v := hP_k (fun j hj => fr0 _ (by omega)) hp
  refine eg_al_n dX7_write_8 rfl rfl ?_
  refine eg_Vf0 cs_X7_22 dX7_write_9 (c_X2_isThere hb hp0 hv) (by first | exact er196 | exact ep0 hb) rfl (Nat.le_of_ble_eq_true rfl) (by decide) ?_
  refine eg_bi_ne 16 dX7_write_12 rfl (fun h12 => ?_) (fun h12 => ?_)
  · have eT : lT v = TXT v := if_pos h12
    have es : segs v = v 0 - 1 := by have := hv.sgs; omega
    have v08 : v 0 ≤ 8 := by have := hv.1; omega
    have b0 : wHub.length = 4 := rfl
    have c0 : (LT0 v).length = wHub.length + (nmT (v 0)).length := List.length_append
    have c1 : (LT1 v).length = (LT0 v).length + (rpT (sgT v) (v 0 - 1).toNat).length := List.length_append
    have c2 : (LT2 v).length = (LT1 v).length + (rpT (ptT v) (v 1).toNat).length := List.length_append
    have c3 : (LT3 v).length = (LT2 v).length + (rpT (shT v) (v 2).toNat).length := List.length_append
    have c4 : (LT4 v).length = (LT3 v).length + (rpT (noT v) (v 3).toNat).length := List.length_append
    have c5 : (LT4 v ++ 59 :: wPrc).length = (LT4 v).length + 6 := List.length_append
    have c6 : (LT4 v ++ 59 :: wPrc ++ nmT (v 5)).length = (LT4 v ++ 59 :: wPrc).length + (nmT (v 5)).length := List.length_append
    have c7 : (TXT v).length = (LT4 v ++ 59 :: wPrc ++ nmT (v 5)).length + (nmT (v 6)).length := List.length_append
    have t5 := T5_len hv
    rw [eT] at hFe
    have z0l : ([] : List Int).length = 0 := rfl
    refine eg_al_n dX7_write_16 rfl rfl ?_
    refine eg_get fl_X7_12 dX7_write_17 (by first | exact er196 | exact ep0 hb) rfl ?_
    refine eg_ldcS (i := 9) rfl dX7_write_20 ?_
    refine eg_Vb1 (bc' := gF g F - gF g (wHub).length) (bs' := slG (gF g F) - slG (gF g (wHub).length)) cs_X7_30 dX7_write_22 (c_rS (i := 9) hS0 (by decide) (by decide)) er197 rfl (Nat.le_of_ble_eq_true rfl) (by decide) (bc_a (b := (wHub).length) (by omega) (by omega)) (bs_a (b := (wHub).length) (by omega) (by omega)) ?_
    rintro n1 z1 X1 ⟨gr1, hS1⟩
    have hS1 : SB k z1 X1 n1 (wHub) (gF g (wHub).length) := hS1
    have fr1 : ∀ c, c ≠ 197 → z1 c = z c := fun c hc => (gr1 c hc).trans (fr0 c hc)
    have hp1 : hP z1 1 v := hP_k (fun j hj => fr1 _ (by omega)) hp
    refine eg_pop dX7_write_25 rfl ?_
    refine eg_al_n dX7_write_26 rfl rfl ?_
    refine eg_al_n dX7_write_27 rfl rfl ?_
    refine eg_get fl_X7_34 dX7_write_28 (by first | exact er196 | exact ep0 hb) rfl ?_
    refine eg_eqI hp1.1.1 ?_
    refine eg_Vb1 (bc' := gF g F - gF g (LT0 v).length) (bs' := slG (gF g F) - slG (gF g (LT0 v).length)) cs_X7_37 dX7_write_31 (c_pN hS1 (x := v 0) ⟨by omega, by omega⟩ (show (LT0 v).length ≤ 1150 by omega)) er196 rfl (Nat.le_of_ble_eq_true rfl) (by decide) (bc_a (b := (LT0 v).length) (by omega) (by omega)) (bs_a (b := (LT0 v).length) (by omega) (by omega)) ?_
    rintro n2 z2 X2 ⟨gr2, hS2⟩
    have hS2 : SB k z2 X2 n2 (LT0 v) (gF g (LT0 v).length) := hS2
    have fr2 : ∀ c, c ≠ 197 → z2 c = z c := fun c hc => (gr2 c hc).trans (fr1 c hc)
    have hp2 : hP z2 1 v := hP_k (fun j hj => fr2 _ (by omega)) hp
    refine eg_al_n dX7_write_34 rfl rfl ?_
    refine eg_al_n dX7_write_35 rfl rfl ?_
    have cSg := c_putSegments (k := k) hp2 hv hS2 rfl (show (LT0 v ++ rpT (sgT v) (segs v).toNat).length ≤ 1150 by rw [es]; show (LT1 v).length ≤ 1150; omega)
    rw [es] at cSg
    refine eg_Vb1 (bc' := gF g F - gF g (LT1 v).length) (bs' := slG (gF g F) - slG (gF g (LT1 v).length)) cs_X7_40 dX7_write_36 (cSg) er196 rfl (Nat.le_of_ble_eq_true rfl) (by decide) (bc_a (b := (LT1 v).length) (by omega) (by omega)) (bs_a (b := (LT1 v).length) (by omega) (by omega)) ?_
    rintro n3 z3 X3 ⟨gr3, hS3⟩
    have hS3 : SB k z3 X3 n3 (LT1 v) (gF g (LT1 v).length) := hS3
    have fr3 : ∀ c, c ≠ 197 → z3 c = z c := fun c hc => (gr3 c hc).trans (fr2 c hc)
    have hp3 : hP z3 1 v := hP_k (fun j hj => fr3 _ (by omega)) hp
    refine eg_al_n dX7_write_39 rfl rfl ?_
    refine eg_al_n dX7_write_40 rfl rfl ?_
    refine eg_Vb1 (bc' := gF g F - gF g (LT2 v).length) (bs' := slG (gF g F) - slG (gF g (LT2 v).length)) cs_X7_44 dX7_write_41 (c_putPoints hp3 hv hS3 rfl (show (LT2 v).length ≤ 1150 by omega)) er196 rfl (Nat.le_of_ble_eq_true rfl) (by decide) (bc_a (b := (LT2 v).length) (by omega) (by omega)) (bs_a (b := (LT2 v).length) (by omega) (by omega)) ?_
    rintro n4 z4 X4 ⟨gr4, hS4⟩
    have hS4 : SB k z4 X4 n4 (LT2 v) (gF g (LT2 v).length) := hS4
    have fr4 : ∀ c, c ≠ 197 → z4 c = z c := fun c hc => (gr4 c hc).trans (fr3 c hc)
    have hp4 : hP z4 1 v := hP_k (fun j hj => fr4 _ (by omega)) hp
    refine eg_al_n dX7_write_44 rfl rfl ?_
    refine eg_al_n dX7_write_45 rfl rfl ?_
    refine eg_Vb1 (bc' := gF g F - gF g (LT3 v).length) (bs' := slG (gF g F) - slG (gF g (LT3 v).length)) cs_X7_47 dX7_write_46 (c_putShippers hp4 hv hS4 rfl (show (LT3 v).length ≤ 1150 by omega)) er196 rfl (Nat.le_of_ble_eq_true rfl) (by decide) (bc_a (b := (LT3 v).length) (by omega) (by omega)) (bs_a (b := (LT3 v).length) (by omega) (by omega)) ?_
    rintro n5 z5 X5 ⟨gr5, hS5⟩
    have hS5 : SB k z5 X5 n5 (LT3 v) (gF g (LT3 v).length) := hS5
    have fr5 : ∀ c, c ≠ 197 → z5 c = z c := fun c hc => (gr5 c hc).trans (fr4 c hc)
    have hp5 : hP z5 1 v := hP_k (fun j hj => fr5 _ (by omega)) hp
    refine eg_al_n dX7_write_49 rfl rfl ?_
    refine eg_al_n dX7_write_50 rfl rfl ?_
    refine eg_Vb1 (bc' := gF g F - gF g (LT4 v).length) (bs' := slG (gF g F) - slG (gF g (LT4 v).length)) cs_X7_50 dX7_write_51 (c_putNominations hp5 hv hS5 rfl (show (LT4 v).length ≤ 1150 by omega)) er196 rfl (Nat.le_of_ble_eq_true rfl) (by decide) (bc_a (b := (LT4 v).length) (by omega) (by omega)) (bs_a (b := (LT4 v).length) (by omega) (by omega)) ?_
    rintro n6 z6 X6 ⟨gr6, hS6⟩
    have hS6 : SB k z6 X6 n6 (LT4 v) (gF g (LT4 v).length) := hS6
    have fr6 : ∀ c, c ≠ 197 → z6 c = z c := fun c hc => (gr6 c hc).trans (fr5 c hc)
    have hp6 : hP z6 1 v := hP_k (fun j hj => fr6 _ (by omega)) hp
    refine eg_al_n dX7_write_54 rfl rfl ?_
    refine eg_ldcS (i := 10) rfl dX7_write_55 ?_
    refine eg_Vb1 (bc' := gF g F - gF g (LT4 v ++ 59 :: wPrc).length) (bs' := slG (gF g F) - slG (gF g (LT4 v ++ 59 :: wPrc).length)) cs_X7_55 dX7_write_57 (c_pW (i := 10) hS6 (by decide) (show (LT4 v ++ 59 :: wPrc).length ≤ 1150 by omega)) er196 rfl (Nat.le_of_ble_eq_true rfl) (by decide) (bc_a (b := (LT4 v ++ 59 :: wPrc).length) (by omega) (by omega)) (bs_a (b := (LT4 v ++ 59 :: wPrc).length) (by omega) (by omega)) ?_
    rintro n7 z7 X7 ⟨gr7, hS7⟩
    have hS7 : SB k z7 X7 n7 (LT4 v ++ 59 :: wPrc) (gF g (LT4 v ++ 59 :: wPrc).length) := hS7
    have fr7 : ∀ c, c ≠ 197 → z7 c = z c := fun c hc => (gr7 c hc).trans (fr6 c hc)
    have hp7 : hP z7 1 v := hP_k (fun j hj => fr7 _ (by omega)) hp
    refine eg_al_n dX7_write_60 rfl rfl ?_
    refine eg_al_n dX7_write_61 rfl rfl ?_
    refine eg_get fl_X7_59 dX7_write_62 (by first | exact er196 | exact ep0 hb) rfl ?_
    refine eg_eqI hp7.1.2.1 ?_
    refine eg_Vb1 (bc' := gF g F - gF g (LT4 v ++ 59 :: wPrc ++ nmT (v 5)).length) (bs' := slG (gF g F) - slG (gF g (LT4 v ++ 59 :: wPrc ++ nmT (v 5)).length)) cs_X7_37 dX7_write_65 (c_pN hS7 (x := v 5) ⟨by omega, by omega⟩ (by omega)) er196 rfl (Nat.le_of_ble_eq_true rfl) (by decide) (bc_a (b := (LT4 v ++ 59 :: wPrc ++ nmT (v 5)).length) (by omega) (by omega)) (bs_a (b := (LT4 v ++ 59 :: wPrc ++ nmT (v 5)).length) (by omega) (by omega)) ?_
    rintro n8 z8 X8 ⟨gr8, hS8⟩
    have hS8 : SB k z8 X8 n8 (LT4 v ++ 59 :: wPrc ++ nmT (v 5)) (gF g (LT4 v ++ 59 :: wPrc ++ nmT (v 5)).length) := hS8
    have fr8 : ∀ c, c ≠ 197 → z8 c = z c := fun c hc => (gr8 c hc).trans (fr7 c hc)
    have hp8 : hP z8 1 v := hP_k (fun j hj => fr8 _ (by omega)) hp
    refine eg_al_n dX7_write_68 rfl rfl ?_
    refine eg_al_n dX7_write_69 rfl rfl ?_
    refine eg_get fl_X7_61 dX7_write_70 (by first | exact er196 | exact ep0 hb) rfl ?_
    refine eg_eqI hp8.1.2.2.1 ?_
    refine eg_Vb1 (bc' := gF g F - gF g (TXT v).length) (bs' := slG (gF g F) - slG (gF g (TXT v).length)) cs_X7_37 dX7_write_73 (c_pN hS8 (x := v 6) ⟨by omega, by omega⟩ (show (TXT v).length ≤ 1150 by omega)) er196 rfl (Nat.le_of_ble_eq_true rfl) (by decide) (bc_a (b := (TXT v).length) (by omega) (by omega)) (bs_a (b := (TXT v).length) (by omega) (by omega)) ?_
    rintro n9 z9 X9 ⟨gr9, hS9⟩
    have hS9 : SB k z9 X9 n9 (TXT v) (gF g (TXT v).length) := hS9
    have fr9 : ∀ c, c ≠ 197 → z9 c = z c := fun c hc => (gr9 c hc).trans (fr8 c hc)
    have hp9 : hP z9 1 v := hP_k (fun j hj => fr9 _ (by omega)) hp
    refine eg_return dX7_write_76 rfl ?_
    rw [eT]
    exact ⟨rfl, z9, X9, rfl, fr9, hS9⟩
  · refine eg_return dX7_write_15 rfl ?_
    have eT : lT v = [] := if_neg h12
    rw [eT]
    exact ⟨rfl, z0, X0, rfl, fr0, hS0⟩
theorem p_letL {k : eg_K} {z : eg_Z} {X : eg_M} {n : Nat} {a : Int} (r_a : iR a) (ha : a < -1) : eg_P k gX8_letter 9 0 0 [vR k 0, vI a] n (enc k z X) (eg_f (some (vI (-1))) n (enc k z X)) := by
  refine eg_P.of (by decide) (Nat.le_of_ble_eq_true rfl) ?_
  show eg_E k gX8_letter 9 0 0 n (enc k z X) [vR k 0, vI a] [] 0 _
  have r1 := r_a.1; have r2 := r_a.2
  refine eg_iload_n dX8_letter_0 rfl ?_
  refine eg_iconst dX8_letter_1 ?_
  refine eg_icmp_ge 7 dX8_letter_2 ⟨by omega, by omega⟩ ⟨by omega, by omega⟩ rfl (fun h2 => absurd h2 (by omega)) (fun h2 => ?_)
  refine eg_iconst dX8_letter_5 ?_
  refine eg_ireturn dX8_letter_6 rfl rfl ?_
  exact ⟨rfl, rfl, rfl⟩
theorem p_letter {k : eg_K} {z : eg_Z} {X : eg_M} {n : Nat} {s : eg_S} (hI : IC z s) {T : List Int} {g : Nat} (hS : SB k z X n T g) {a : Int} (r_a : iR a) (ha : -1 ≤ a) : eg_P k gX8_letter 9 (gF g (lT s.1).length - g) (slG (gF g (lT s.1).length) - slG g) [vR k 0, vI a] n (enc k z X) (eg_b k (some (vI (A_letter s a))) (fun n' z' X' => (∀ c, c ≠ 197 → z' c = z c) ∧ SB k z' X' n' (lT s.1) (gF g (lT s.1).length))) := by
  refine eg_P.of (by decide) (Nat.le_of_ble_eq_true rfl) ?_
  show eg_E k gX8_letter 9 (gF g (lT s.1).length - g) (slG (gF g (lT s.1).length) - slG g) n (enc k z X) [vR k 0, vI a] [] 0 _
  have r1 := r_a.1; have r2 := r_a.2
  have ll : (lT s.1).length ≤ 894 := by unfold lT; split; exact T5_len hI.1.2.2.1; exact Nat.zero_le _
  refine eg_iload_n dX8_letter_0 rfl ?_
  refine eg_iconst dX8_letter_1 ?_
  refine eg_icmp_ge 7 dX8_letter_2 ⟨by omega, by omega⟩ ⟨by omega, by omega⟩ rfl (fun h2 => ?_) (fun h2 => absurd h2 (by omega))
  refine eg_al_n dX8_letter_7 rfl rfl ?_
  refine eg_get fl_X8_51 dX8_letter_8 (by first | exact er0 | exact er196 | exact er197) rfl ?_
  refine eg_al_n dX8_letter_11 rfl rfl ?_
  refine eg_get fl_X8_12 dX8_letter_12 (by first | exact er0 | exact er196 | exact er197) rfl ?_
  refine eg_Vb1 (bc' := 0) (bs' := 0) cs_X8_307 dX8_letter_15 (c_write hI.1.1 hI.1.2.2.1 hS rfl) er196 rfl (Nat.le_of_ble_eq_true rfl) (by decide) rfl rfl ?_
  rintro n1 z1 X1 hP1
  have hS1 := hP1.2
  refine eg_iload_n dX8_letter_18 rfl ?_
  refine eg_iconst dX8_letter_19 ?_
  refine eg_icmp_ne 34 dX8_letter_20 ⟨by omega, by omega⟩ ⟨by omega, by omega⟩ rfl (fun h20 => ?_) (fun h20 => ?_)
  · refine eg_iload_n dX8_letter_34 rfl ?_
    refine eg_al_n dX8_letter_35 rfl rfl ?_
    refine eg_get fl_X8_51 dX8_letter_36 (by first | exact er0 | exact er196 | exact er197) rfl ?_
    refine eg_get fl_X8_310 dX8_letter_39 (by first | exact er0 | exact er196 | exact er197) rfl ?_
    refine eg_Vf0 cs_X8_314 dX8_letter_42 (c_sbLen hS1) (by first | exact er0 | exact er196 | exact er197) rfl (Nat.le_of_ble_eq_true rfl) (by decide) ?_
    refine eg_icmp_ge 62 dX8_letter_45 ⟨by omega, by omega⟩ ⟨by omega, by omega⟩ rfl (fun h45 => ?_) (fun h45 => ?_)
    · refine eg_bipush dX8_letter_62 (by decide) ?_
      refine eg_ireturn dX8_letter_64 rfl rfl ?_
      refine ⟨congrArg (fun q => some (vI q)) ?_, z1, X1, rfl, hP1⟩
      unfold A_letter
      rw [if_neg (by omega), if_neg (by omega), if_neg (by omega)]
    · refine eg_al_n dX8_letter_48 rfl rfl ?_
      refine eg_get fl_X8_51 dX8_letter_49 (by first | exact er0 | exact er196 | exact er197) rfl ?_
      refine eg_get fl_X8_310 dX8_letter_52 (by first | exact er0 | exact er196 | exact er197) rfl ?_
      refine eg_iload_n dX8_letter_55 rfl ?_
      refine eg_Vf1 cs_X8_318 dX8_letter_56 (c_sbAt hS1 (by omega) (by omega)) (by first | exact er0 | exact er196 | exact er197) rfl (Nat.le_of_ble_eq_true rfl) (by decide) ?_
      refine eg_goto 64 dX8_letter_59 rfl ?_
      refine eg_ireturn dX8_letter_64 rfl rfl ?_
      refine ⟨congrArg (fun q => some (vI q)) ?_, z1, X1, rfl, hP1⟩
      unfold A_letter
      rw [if_neg (by omega), if_neg (by omega), if_pos (by omega)]
  · refine eg_al_n dX8_letter_23 rfl rfl ?_
    refine eg_get fl_X8_51 dX8_letter_24 (by first | exact er0 | exact er196 | exact er197) rfl ?_
    refine eg_get fl_X8_310 dX8_letter_27 (by first | exact er0 | exact er196 | exact er197) rfl ?_
    refine eg_Vf0 cs_X8_314 dX8_letter_30 (c_sbLen hS1) (by first | exact er0 | exact er196 | exact er197) rfl (Nat.le_of_ble_eq_true rfl) (by decide) ?_
    refine eg_ireturn dX8_letter_33 rfl rfl ?_
    refine ⟨congrArg (fun q => some (vI q)) ?_, z1, X1, rfl, hP1⟩
    unfold A_letter
    rw [if_neg (by omega), if_pos (by omega)]
