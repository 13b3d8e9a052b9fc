theorem c_readShipper {k : eg_K} {z : eg_Z} {X : eg_M} {n : Nat} {L : Nat} {t : Nat → Int} (hT : TP z L t) {v : eg_v} {i : Nat} {F : Int} (hp : hP z 184 v) (ht : tv v) (hi9 : i ≤ L) (hat : z 181 2 = (i : Int)) (hF : z 181 5 = F) (rF : 0 ≤ F ∧ F ≤ 4000) {wa : Nat} (hw : z 181 3 = (wa : Int)) (hwa : wa ≤ 400) (how : ∀ q, q < 6 → z 193 q = 0) : eg_P k gX3_readShipper 3 0 0 [vR k 181] n (enc k z X) (eg_p k none n X (fun z' => (∃ j : Nat, j ≤ L ∧ z' 181 2 = (j : Int)) ∧ z' 181 5 = fnx F (ftR (fuX (decide (6 ≤ v 2)) wa (shR_ L t i v))) ∧ (∀ c, c ≠ 181 → (c < 184 ∨ 196 ≤ c) → z' c = z c) ∧ (z' 181 5 ≠ 0 → ∀ c, c ≠ 181 → z' c = z c) ∧ z' 193 = z 193 ∧ ∀ a, F = 0 → (fuX (decide (6 ≤ v 2)) wa (shR_ L t i v)) = .inr a → z' 181 2 = (a.1 : Int) ∧ hP z' 184 a.2)) := by
  refine eg_P.of (by decide) (Nat.le_of_ble_eq_true rfl) ?_
  show eg_E k gX3_readShipper 3 0 0 n (enc k z X) [vR k 181, vU, vU, vU, vU, vU] [] 0 _
  have hb := isB_184
  have hv := ht.1
  have q := hv.r.2
  have v02 := ht.2.1
  have cnt9 := hp.2.1.2.2.1
  refine eg_al_n dX3_readShipper_0 rfl rfl ?_
  refine eg_al_n dX3_readShipper_1 rfl rfl ?_
  refine eg_get fl_X3_21 dX3_readShipper_2 (by first | exact er181 | exact er182 | exact er183 | exact ep0 hb | exact ep1 hb | exact ep3 hb | exact ep5 hb | exact ep7 hb) rfl ?_
  refine eg_get fl_X3_161 dX3_readShipper_5 (by first | exact er181 | exact er182 | exact er183 | exact ep0 hb | exact ep1 hb | exact ep3 hb | exact ep5 hb | exact ep7 hb) rfl ?_
  refine eg_Vpv1 cs_X3_157 dX3_readShipper_8 (c_failIfFull (full := decide (6 ≤ v 2)) (ep5 hb) (by have s9 := c_X5_isFull (k := k) (M := enc k z X) (n := n) (most := 6) (cnt := v 2) (by rw [ep5 hb, cnt9]) ⟨by decide, by decide⟩ ⟨by omega, by omega⟩; rw [bi_d]; exact s9) hF rF hw) (by first | exact er181 | exact er182 | exact er183 | exact ep0 hb | exact ep1 hb | exact ep3 hb | exact ep5 hb | exact ep7 hb) rfl (Nat.le_of_ble_eq_true rfl) (by decide) ?_
  rintro y0 ⟨f0, g0, e0⟩
  have hT0 : TP y0 L t := hT.c (f0 182 (by decide)) (f0 183 (by decide))
  have p0 : y0 181 2 = (i : Int) := by rw [g0 2 (by decide)]; exact hat
  have rF0 : 0 ≤ (if decide (6 ≤ v 2) = true then fnx F (8 * (wa : Int) + 3) else F) ∧ (if decide (6 ≤ v 2) = true then fnx F (8 * (wa : Int) + 3) else F) ≤ 4000 := by split; exact fnx_b rF (by omega); exact rF
  refine eg_al_n dX3_readShipper_11 rfl rfl ?_
  refine eg_iconst dX3_readShipper_12 ?_
  refine eg_sipush dX3_readShipper_13 (by decide) ?_
  refine eg_Vr2 cs_X3_100 dX3_readShipper_16 (c_rn (lo := 0) (hi := 9999) hT0 hi9 p0 e0 rF0 ⟨by decide, by decide⟩ ⟨by omega, by omega⟩) (by first | exact er181 | exact er182 | exact er183 | exact ep0 hb | exact ep1 hb | exact ep3 hb | exact ep5 hb | exact ep7 hb) rfl (Nat.le_of_ble_eq_true rfl) (by decide) ?_
  rintro r1 y1 ⟨q1, f1, w1, ⟨j1, l1, p1⟩, e1, s1⟩
  have hT1 : TP y1 L t := hT0.c (f1 182 (by decide)) (f1 183 (by decide))
  have rF1 := fnx_b rF0 (ft_b (t := t) (lo := 0) (hi := 9999) hT.1 hi9)
  refine eg_istore_n dX3_readShipper_19 rfl rfl rfl ?_
  refine eg_al_n dX3_readShipper_20 rfl rfl ?_
  refine eg_iconst dX3_readShipper_21 ?_
  refine eg_bipush dX3_readShipper_22 (by decide) ?_
  refine eg_Vr2 cs_X3_100 dX3_readShipper_24 (c_rn (lo := 1) (hi := 9) hT1 l1 p1 e1 rF1 ⟨by decide, by decide⟩ ⟨by omega, by omega⟩) (by first | exact er181 | exact er182 | exact er183 | exact ep0 hb | exact ep1 hb | exact ep3 hb | exact ep5 hb | exact ep7 hb) rfl (Nat.le_of_ble_eq_true rfl) (by decide) ?_
  rintro r2 y2 ⟨q2, f2, w2, ⟨j2, l2, p2⟩, e2, s2⟩
  have hT2 : TP y2 L t := hT1.c (f2 182 (by decide)) (f2 183 (by decide))
  have rF2 := fnx_b rF1 (ft_b (t := t) (lo := 1) (hi := 9) hT.1 l1)
  refine eg_istore_n dX3_readShipper_27 rfl rfl rfl ?_
  refine eg_al_n dX3_readShipper_28 rfl rfl ?_
  refine eg_iconst dX3_readShipper_29 ?_
  refine eg_sipush dX3_readShipper_30 (by decide) ?_
  refine eg_Vr2 cs_X3_100 dX3_readShipper_33 (c_rn (lo := 0) (hi := 9999) hT2 l2 p2 e2 rF2 ⟨by decide, by decide⟩ ⟨by omega, by omega⟩) (by first | exact er181 | exact er182 | exact er183 | exact ep0 hb | exact ep1 hb | exact ep3 hb | exact ep5 hb | exact ep7 hb) rfl (Nat.le_of_ble_eq_true rfl) (by decide) ?_
  rintro r3 y3 ⟨q3, f3, w3, ⟨j3, l3, p3⟩, e3, s3⟩
  have hT3 : TP y3 L t := hT2.c (f3 182 (by decide)) (f3 183 (by decide))
  have rF3 := fnx_b rF2 (ft_b (t := t) (lo := 0) (hi := 9999) hT.1 l2)
  refine eg_istore_n dX3_readShipper_36 rfl rfl rfl ?_
  refine eg_al_n dX3_readShipper_37 rfl rfl ?_
  refine eg_iconst dX3_readShipper_38 ?_
  refine eg_sipush dX3_readShipper_39 (by decide) ?_
  refine eg_Vr2 cs_X3_100 dX3_readShipper_42 (c_rn (lo := 0) (hi := 9999) hT3 l3 p3 e3 rF3 ⟨by decide, by decide⟩ ⟨by omega, by omega⟩) (by first | exact er181 | exact er182 | exact er183 | exact ep0 hb | exact ep1 hb | exact ep3 hb | exact ep5 hb | exact ep7 hb) rfl (Nat.le_of_ble_eq_true rfl) (by decide) ?_
  rintro r4 y4 ⟨q4, f4, w4, ⟨j4, l4, p4⟩, e4, s4⟩
  have hT4 : TP y4 L t := hT3.c (f4 182 (by decide)) (f4 183 (by decide))
  have rF4 := fnx_b rF3 (ft_b (t := t) (lo := 0) (hi := 9999) hT.1 l3)
  refine eg_istore dX3_readShipper_45 rfl rfl rfl ?_
  refine eg_al_n dX3_readShipper_47 rfl rfl ?_
  refine eg_get fl_X3_35 dX3_readShipper_48 (by first | exact er181 | exact er182 | exact er183 | exact ep0 hb | exact ep1 hb | exact ep3 hb | exact ep5 hb | exact ep7 hb) rfl ?_
  refine eg_eqI e4 ?_
  refine eg_if_ne 123 dX3_readShipper_51 ⟨by omega, by omega⟩ rfl (fun h51 => ?_) (fun h51 => ?_)
  · have hbad := h51
    refine eg_return dX3_readShipper_123 rfl ?_
    have eS : fnx (if decide (6 ≤ v 2) = true then fnx F (8 * (wa : Int) + 3) else F) (ftR (shR_ L t i v)) = fnx (fnx (fnx (fnx ((if decide (6 ≤ v 2) = true then fnx F (8 * (wa : Int) + 3) else F)) (ftR (nmR L t i 0 9999))) (ftR (nmR L t j1 1 9))) (ftR (nmR L t j2 0 9999))) (ftR (nmR L t j3 0 9999)) := by
      unfold shR_
      cases hx1 : nmR L t i 0 9999 with
      | inl e =>
        have ne := nm_ne e hx1
        rw [bd_l, ft_l, ft_l, fnx_k ne, fnx_k ne, fnx_k ne]
      | inr a1 =>
        have k1 : j1 = a1.1 := by have := (s1 a1 hx1).2.1; omega
        subst k1
        rw [bd_r, ft_r, fnx_z]
        cases hx2 : nmR L t a1.1 1 9 with
        | inl e =>
          have ne := nm_ne e hx2
          rw [bd_l, ft_l, ft_l, fnx_k ne, fnx_k ne]
        | inr a2 =>
          have k2 : j2 = a2.1 := by have := (s2 a2 hx2).2.1; omega
          subst k2
          rw [bd_r, ft_r, fnx_z]
          cases hx3 : nmR L t a2.1 0 9999 with
          | inl e =>
            have ne := nm_ne e hx3
            rw [bd_l, ft_l, ft_l, fnx_k ne]
          | inr a3 =>
            have k3 : j3 = a3.1 := by have := (s3 a3 hx3).2.1; omega
            subst k3
            rw [bd_r, ft_r, fnx_z]
            cases hx4 : nmR L t a3.1 0 9999 with
            | inl e =>
              have ne := nm_ne e hx4
              rw [bd_l, ft_l, ft_l]
            | inr a4 =>
              have k4 : j4 = a4.1 := by have := (s4 a4 hx4).2.1; omega
              subst k4
              rw [bd_r, ft_r, ft_r]
    have eS2 : fnx F (ftR (fuX (decide (6 ≤ v 2)) wa (shR_ L t i v))) = fnx (if decide (6 ≤ v 2) = true then fnx F (8 * (wa : Int) + 3) else F) (ftR (shR_ L t i v)) := by
      by_cases hf9 : decide (6 ≤ v 2) = true
      · unfold fuX; rw [if_pos hf9, if_pos hf9, ft_l, fnx_k (by omega)]
      · unfold fuX; rw [if_neg hf9, if_neg hf9]
    refine ⟨rfl, rfl, y4, rfl, ⟨j4, l4, p4⟩, by rw [eS2, eS]; exact e4, fun c9 h9 _ => (fun c9 h9 => (((((f4 c9 h9).trans (f3 c9 h9)).trans (f2 c9 h9)).trans (f1 c9 h9))).trans (f0 c9 h9)) c9 h9, fun _ => fun c9 h9 => (((((f4 c9 h9).trans (f3 c9 h9)).trans (f2 c9 h9)).trans (f1 c9 h9))).trans (f0 c9 h9), (fun c9 h9 => (((((f4 c9 h9).trans (f3 c9 h9)).trans (f2 c9 h9)).trans (f1 c9 h9))).trans (f0 c9 h9)) 193 (by decide), fun a9 hF0 h8 => ?_⟩
    have e9 : fnx F (ftR (fuX (decide (6 ≤ v 2)) wa (shR_ L t i v))) = 0 := by rw [h8, hF0]; rfl
    exact absurd ((eS2.trans eS).symm.trans e9) hbad
  · obtain ⟨F30, A4, h4⟩ := fx_0 nm_ne h51
    obtain ⟨F20, A3, h3⟩ := fx_0 nm_ne F30
    obtain ⟨F10, A2, h2⟩ := fx_0 nm_ne F20
    obtain ⟨F00, A1, h1⟩ := fx_0 nm_ne F10
    obtain ⟨v1, u1, -⟩ := s1 A1 h1
    obtain ⟨v2, u2, -⟩ := s2 A2 h2
    obtain ⟨v3, u3, -⟩ := s3 A3 h3
    obtain ⟨v4, u4, -⟩ := s4 A4 h4
    have b1 := nmR_r hi9 h1
    have b2 := nmR_r l1 h2
    have b3 := nmR_r l2 h3
    have b4 := nmR_r l3 h4
    have fr4 : ∀ c, c ≠ 181 → y4 c = z c := fun c9 h9 => (((((f4 c9 h9).trans (f3 c9 h9)).trans (f2 c9 h9)).trans (f1 c9 h9))).trans (f0 c9 h9)
    have hp4 : hP y4 184 v := hP_k (fun j hj => fr4 _ (by omega)) hp
    have nf : ¬ decide (6 ≤ v 2) = true := fun hh => by rw [if_pos hh] at F00; have := (fx_0 (x := (.inl (8 * (wa : Int) + 3) : Int ⊕ Nat)) (fun e he => by injection he with he; omega) F00).2; obtain ⟨a9, ha9⟩ := this; cases ha9
    rw [if_neg nf] at F00
    have full9 : v 2 < 6 := by
      by_cases x9 : 6 ≤ v 2
      · exact absurd (decide_eq_true x9) nf
      · omega
    refine eg_al_n dX3_readShipper_54 rfl rfl ?_
    refine eg_get fl_X3_21 dX3_readShipper_55 (by first | exact er181 | exact er182 | exact er183 | exact ep0 hb | exact ep1 hb | exact ep3 hb | exact ep5 hb | exact ep7 hb) rfl ?_
    refine eg_get fl_X3_161 dX3_readShipper_58 (by first | exact er181 | exact er182 | exact er183 | exact ep0 hb | exact ep1 hb | exact ep3 hb | exact ep5 hb | exact ep7 hb) rfl ?_
    refine eg_Vpf0 cs_X3_109 dX3_readShipper_61 (add_5 hb (cnt := v 2) hp4.2.1.2.2.1 (by omega) (by omega)) (by first | exact er181 | exact er182 | exact er183 | exact ep0 hb | exact ep1 hb | exact ep3 hb | exact ep5 hb | exact ep7 hb) rfl (Nat.le_of_ble_eq_true rfl) (by decide) ?_
    rintro y5 ⟨m5, n5, kr5, zr5⟩
    refine eg_istore dX3_readShipper_64 rfl rfl rfl ?_
    refine eg_al_n dX3_readShipper_66 rfl rfl ?_
    refine eg_get fl_X3_21 dX3_readShipper_67 (by first | exact er181 | exact er182 | exact er183 | exact ep0 hb | exact ep1 hb | exact ep3 hb | exact ep5 hb | exact ep7 hb) rfl ?_
    refine eg_get fl_X3_161 dX3_readShipper_70 (by first | exact er181 | exact er182 | exact er183 | exact ep0 hb | exact ep1 hb | exact ep3 hb | exact ep5 hb | exact ep7 hb) rfl ?_
    refine eg_iload dX3_readShipper_73 rfl ?_
    refine eg_iconst dX3_readShipper_75 ?_
    refine eg_iload_n dX3_readShipper_76 rfl ?_
    refine eg_Vv3 cs_X3_114 dX3_readShipper_77 (sh_raw hb (cnt := v 2 + 1) n5 (by omega) (by omega) (by omega) (by omega) (by omega)) (by first | exact er181 | exact er182 | exact er183 | exact ep0 hb | exact ep1 hb | exact ep3 hb | exact ep5 hb | exact ep7 hb) rfl (Nat.le_of_ble_eq_true rfl) (by decide) ?_
    have hy6 : va_up y5 (184 + 6) (va_up (y5 (184 + 6)) (v 2 * 6 + 0).toNat r1) (184 + 6) = va_up (y5 (184 + 6)) (v 2 * 6 + 0).toNat r1 := va_up_s _ _ _
    have gy6 : ∀ c, c ≠ 184 + 6 → va_up y5 (184 + 6) (va_up (y5 (184 + 6)) (v 2 * 6 + 0).toNat r1) c = y5 c := fun c hc => va_up_n _ _ hc
    generalize va_up y5 (184 + 6) (va_up (y5 (184 + 6)) (v 2 * 6 + 0).toNat r1) = y6 at hy6 gy6 ⊢
    refine eg_al_n dX3_readShipper_80 rfl rfl ?_
    refine eg_get fl_X3_21 dX3_readShipper_81 (by first | exact er181 | exact er182 | exact er183 | exact ep0 hb | exact ep1 hb | exact ep3 hb | exact ep5 hb | exact ep7 hb) rfl ?_
    refine eg_get fl_X3_161 dX3_readShipper_84 (by first | exact er181 | exact er182 | exact er183 | exact ep0 hb | exact ep1 hb | exact ep3 hb | exact ep5 hb | exact ep7 hb) rfl ?_
    refine eg_iload dX3_readShipper_87 rfl ?_
    refine eg_iconst dX3_readShipper_89 ?_
    refine eg_iload_n dX3_readShipper_90 rfl ?_
    refine eg_Vv3 cs_X3_114 dX3_readShipper_91 (sh_raw hb (cnt := v 2 + 1) (by rw [gy6 _ (by decide)]; exact n5) (by omega) (by omega) (by omega) (by omega) (by omega)) (by first | exact er181 | exact er182 | exact er183 | exact ep0 hb | exact ep1 hb | exact ep3 hb | exact ep5 hb | exact ep7 hb) rfl (Nat.le_of_ble_eq_true rfl) (by decide) ?_
    have hy7 : va_up y6 (184 + 6) (va_up (y6 (184 + 6)) (v 2 * 6 + 1).toNat r2) (184 + 6) = va_up (y6 (184 + 6)) (v 2 * 6 + 1).toNat r2 := va_up_s _ _ _
    have gy7 : ∀ c, c ≠ 184 + 6 → va_up y6 (184 + 6) (va_up (y6 (184 + 6)) (v 2 * 6 + 1).toNat r2) c = y6 c := fun c hc => va_up_n _ _ hc
    generalize va_up y6 (184 + 6) (va_up (y6 (184 + 6)) (v 2 * 6 + 1).toNat r2) = y7 at hy7 gy7 ⊢
    refine eg_al_n dX3_readShipper_94 rfl rfl ?_
    refine eg_get fl_X3_21 dX3_readShipper_95 (by first | exact er181 | exact er182 | exact er183 | exact ep0 hb | exact ep1 hb | exact ep3 hb | exact ep5 hb | exact ep7 hb) rfl ?_
    refine eg_get fl_X3_161 dX3_readShipper_98 (by first | exact er181 | exact er182 | exact er183 | exact ep0 hb | exact ep1 hb | exact ep3 hb | exact ep5 hb | exact ep7 hb) rfl ?_
    refine eg_iload dX3_readShipper_101 rfl ?_
    refine eg_iconst dX3_readShipper_103 ?_
    refine eg_iload_n dX3_readShipper_104 rfl ?_
    refine eg_Vv3 cs_X3_114 dX3_readShipper_105 (sh_raw hb (cnt := v 2 + 1) (by rw [gy7 _ (by decide), gy6 _ (by decide)]; exact n5) (by omega) (by omega) (by omega) (by omega) (by omega)) (by first | exact er181 | exact er182 | exact er183 | exact ep0 hb | exact ep1 hb | exact ep3 hb | exact ep5 hb | exact ep7 hb) rfl (Nat.le_of_ble_eq_true rfl) (by decide) ?_
    have hy8 : va_up y7 (184 + 6) (va_up (y7 (184 + 6)) (v 2 * 6 + 2).toNat r3) (184 + 6) = va_up (y7 (184 + 6)) (v 2 * 6 + 2).toNat r3 := va_up_s _ _ _
    have gy8 : ∀ c, c ≠ 184 + 6 → va_up y7 (184 + 6) (va_up (y7 (184 + 6)) (v 2 * 6 + 2).toNat r3) c = y7 c := fun c hc => va_up_n _ _ hc
    generalize va_up y7 (184 + 6) (va_up (y7 (184 + 6)) (v 2 * 6 + 2).toNat r3) = y8 at hy8 gy8 ⊢
    refine eg_al_n dX3_readShipper_108 rfl rfl ?_
    refine eg_get fl_X3_21 dX3_readShipper_109 (by first | exact er181 | exact er182 | exact er183 | exact ep0 hb | exact ep1 hb | exact ep3 hb | exact ep5 hb | exact ep7 hb) rfl ?_
    refine eg_get fl_X3_161 dX3_readShipper_112 (by first | exact er181 | exact er182 | exact er183 | exact ep0 hb | exact ep1 hb | exact ep3 hb | exact ep5 hb | exact ep7 hb) rfl ?_
    refine eg_iload dX3_readShipper_115 rfl ?_
    refine eg_iconst dX3_readShipper_117 ?_
    refine eg_iload dX3_readShipper_118 rfl ?_
    refine eg_Vv3 cs_X3_114 dX3_readShipper_120 (sh_raw hb (cnt := v 2 + 1) (by rw [gy8 _ (by decide), gy7 _ (by decide), gy6 _ (by decide)]; exact n5) (by omega) (by omega) (by omega) (by omega) (by omega)) (by first | exact er181 | exact er182 | exact er183 | exact ep0 hb | exact ep1 hb | exact ep3 hb | exact ep5 hb | exact ep7 hb) rfl (Nat.le_of_ble_eq_true rfl) (by decide) ?_
    have hy9 : va_up y8 (184 + 6) (va_up (y8 (184 + 6)) (v 2 * 6 + 3).toNat r4) (184 + 6) = va_up (y8 (184 + 6)) (v 2 * 6 + 3).toNat r4 := va_up_s _ _ _
    have gy9 : ∀ c, c ≠ 184 + 6 → va_up y8 (184 + 6) (va_up (y8 (184 + 6)) (v 2 * 6 + 3).toNat r4) c = y8 c := fun c hc => va_up_n _ _ hc
    generalize va_up y8 (184 + 6) (va_up (y8 (184 + 6)) (v 2 * 6 + 3).toNat r4) = y9 at hy9 gy9 ⊢
    refine eg_return dX3_readShipper_123 rfl ?_
    have k1 : j1 = A1.1 := by omega
    have k2 : j2 = A2.1 := by omega
    have k3 : j3 = A3.1 := by omega
    subst k1; subst k2; subst k3
    have fr9 : ∀ c, c ≠ 181 → c ≠ 189 → c ≠ 190 → y9 c = z c := fun c h181 h187 h188 => (gy9 c h188).trans ((gy8 c h188).trans ((gy7 c h188).trans ((gy6 c h188).trans ((m5 c h187 h188).trans (fr4 c h181)))))
    have e181 : y9 181 = y4 181 := (gy9 181 (by decide)).trans ((gy8 181 (by decide)).trans ((gy7 181 (by decide)).trans ((gy6 181 (by decide)).trans (m5 181 (by decide) (by decide)))))
    have hp9 : hP y9 184 (shV v r1 r2 r3 r4) := by
      obtain ⟨t0, t1, t2, t3⟩ := shV_g (v := v) (f := r1) (r := r2) (o := r3) (l := r4) ⟨by omega, by omega⟩
      refine hP_H hv hp (fun i9 a9 b9 => shV_o ⟨by omega, by omega⟩ a9 (by omega)) (by rw [shV_2]; omega) (fun j hj h3 h4 => fr9 _ (by omega) (by omega) (by omega)) (by rw [gy9 _ (by decide), gy8 _ (by decide), gy7 _ (by decide), gy6 _ (by decide), n5, shV_2]) (fun q9 c9 g0 g1 g2 g3 => ?_) (fun q9 g0 g1 => ?_)
      · rw [shV_2] at g1
        rw [hy9, hy8, hy7, hy6]
        by_cases eq9 : q9 = v 2
        · subst eq9
          rcases (show c9 = 0 ∨ c9 = 1 ∨ c9 = 2 ∨ c9 = 3 ∨ c9 = 4 ∨ c9 = 5 by omega) with rfl | rfl | rfl | rfl | rfl | rfl
          · rw [va_up_n _ _ (by omega), va_up_n _ _ (by omega), va_up_n _ _ (by omega), va_up_s, t0]
          · rw [va_up_n _ _ (by omega), va_up_n _ _ (by omega), va_up_s, t1]
          · rw [va_up_n _ _ (by omega), va_up_s, t2]
          · rw [va_up_s, t3]
          · rw [va_up_n _ _ (by omega), va_up_n _ _ (by omega), va_up_n _ _ (by omega), va_up_n _ _ (by omega), zr5 _ (by omega) (by omega), show gH (shV v r1 r2 r3 r4) (v 2) 4 = gH v (v 2) 4 from shV_o ⟨by omega, by omega⟩ (by omega) (by omega)]; exact (ht.2.2.2.2.2.2 _ (by omega) (by omega)).symm
          · rw [va_up_n _ _ (by omega), va_up_n _ _ (by omega), va_up_n _ _ (by omega), va_up_n _ _ (by omega), zr5 _ (by omega) (by omega), show gH (shV v r1 r2 r3 r4) (v 2) 5 = gH v (v 2) 5 from shV_o ⟨by omega, by omega⟩ (by omega) (by omega)]; exact (ht.2.2.2.2.2.2 _ (by omega) (by omega)).symm
        · rw [va_up_n _ _ (by omega), va_up_n _ _ (by omega), va_up_n _ _ (by omega), va_up_n _ _ (by omega), kr5 _ (by omega), show gH (shV v r1 r2 r3 r4) q9 c9 = gH v q9 c9 from shV_o ⟨by omega, by omega⟩ (by omega) (by omega)]
          exact hp4.2.2.2.2.1 q9 c9 g0 (by omega) g2 g3
      · rw [shV_2] at g1
        rw [show gH (shV v r1 r2 r3 r4) q9 6 = gH v q9 6 from shV_o ⟨by omega, by omega⟩ (by omega) (by omega)]
        by_cases eq9 : q9 = v 2
        · subst eq9; rw [how _ (by omega)]; exact (ht.2.2.2.2.2.2 _ (by omega) (by omega)).symm
        · exact hp.2.2.2.2.2.1 q9 g0 (by omega)
    have eR : (fuX (decide (6 ≤ v 2)) wa (shR_ L t i v)) = .inr (A4.1, shV v r1 r2 r3 r4) := by unfold fuX; rw [if_neg nf]; unfold shR_; rw [h1, bd_r, h2, bd_r, h3, bd_r, h4, bd_r, ← v1, ← v2, ← v3, ← v4]
    refine ⟨rfl, rfl, y9, rfl, ⟨A4.1, b4.1, by rw [e181]; exact u4⟩, by rw [e181, e4, h51, eR, F00]; rfl, fun c9 h9 h8 => fr9 c9 h9 (by omega) (by omega), fun hh => absurd (by rw [e181, e4]; exact h51) hh, fr9 193 (by decide) (by decide) (by decide), fun a9 _ h8 => ?_⟩
    rw [eR] at h8; injection h8 with h8; subst h8; exact ⟨by rw [e181]; exact u4, hp9⟩
theorem c_addNom {k : eg_K} {z : eg_Z} {X : eg_M} {n b : Nat} {v : eg_v} {B : Int} (hb : isB b = true) (hp : hP z b v) (hv : VV B v) {s f t x : Int} (h3 : v 3 < 16) : eg_P k gX2_addNomination 2 0 0 [vR k b, vI s, vI f, vI t, vI x] n (enc k z X) (eg_p k (some (vI (v 3))) n X (fun z' => (∀ c, c ≠ b + 7 → c ≠ b + 8 → z' c = z c) ∧ z' (b + 11) = z (b + 11) ∧ hP z' b (addV v s f t x))) := by
  refine eg_P.of (by decide) (Nat.le_of_ble_eq_true rfl) ?_
  show eg_E k gX2_addNomination 2 0 0 n (enc k z X) [vR k b, vI s, vI f, vI t, vI x, vU] [] 0 _
  have q := hv.r
  obtain ⟨⟨z0, z1, z2, z3⟩, ⟨c1, c3, c5, c7⟩, -⟩ := id hp
  refine eg_al_n dX2_addNomination_0 rfl rfl ?_
  refine eg_get fl_X2_39 dX2_addNomination_1 (by first | exact ep0 hb | exact ep1 hb | exact ep3 hb | exact ep5 hb | exact ep7 hb | exact ep9 hb | exact ep10 hb | exact ep11 hb | exact ep2 hb | exact ep4 hb | exact ep6 hb | exact ep8 hb) rfl ?_
  refine eg_Vqf0 cs_X2_97 dX2_addNomination_4 (add_7 hb c7 q.2.2.2.1.1 h3) (by first | exact ep0 hb | exact ep1 hb | exact ep3 hb | exact ep5 hb | exact ep7 hb | exact ep9 hb | exact ep10 hb | exact ep11 hb | exact ep2 hb | exact ep4 hb | exact ep6 hb | exact ep8 hb) rfl (Nat.le_of_ble_eq_true rfl) (by decide) ?_
  rintro _ _ _ ⟨rfl, rfl, y0, rfl, f0, g0, u0, -⟩
  refine eg_istore dX2_addNomination_7 rfl rfl rfl ?_
  refine eg_al_n dX2_addNomination_9 rfl rfl ?_
  refine eg_get fl_X2_39 dX2_addNomination_10 (by first | exact ep0 hb | exact ep1 hb | exact ep3 hb | exact ep5 hb | exact ep7 hb | exact ep9 hb | exact ep10 hb | exact ep11 hb | exact ep2 hb | exact ep4 hb | exact ep6 hb | exact ep8 hb) rfl ?_
  refine eg_iload dX2_addNomination_13 rfl ?_
  refine eg_iconst dX2_addNomination_15 ?_
  refine eg_iload_n dX2_addNomination_16 rfl ?_
  refine eg_Vv3 cs_X2_83 dX2_addNomination_17 (c_X5_put (ep7 hb) (ep8 hb) ⟨by omega, by omega⟩ ⟨by omega, by omega⟩ ⟨by omega, by omega⟩ ⟨by omega, by omega⟩ (by decide)) (by first | exact ep0 hb | exact ep1 hb | exact ep3 hb | exact ep5 hb | exact ep7 hb | exact ep9 hb | exact ep10 hb | exact ep11 hb | exact ep2 hb | exact ep4 hb | exact ep6 hb | exact ep8 hb) rfl (Nat.le_of_ble_eq_true rfl) (by decide) ?_
  refine eg_eqM (es8 hb) ?_
  generalize w1 : va_up y0 (b + 8) _ = y1
  have f1 : (∀ c, c ≠ b + 8 → y1 c = y0 c) ∧ y1 (b + 8) = va_up (y0 (b + 8)) (v 3 * 4 + 0).toNat s := ⟨fun c hc9 => by rw [← w1, va_up_n _ _ hc9], by rw [← w1, va_up_s]⟩
  clear w1
  have g1 : y1 (b + 7) 3 = v 3 + 1 := by rw [f1.1 _ (by omega)]; exact g0
  refine eg_al_n dX2_addNomination_20 rfl rfl ?_
  refine eg_get fl_X2_39 dX2_addNomination_21 (by first | exact ep0 hb | exact ep1 hb | exact ep3 hb | exact ep5 hb | exact ep7 hb | exact ep9 hb | exact ep10 hb | exact ep11 hb | exact ep2 hb | exact ep4 hb | exact ep6 hb | exact ep8 hb) rfl ?_
  refine eg_iload dX2_addNomination_24 rfl ?_
  refine eg_iconst dX2_addNomination_26 ?_
  refine eg_iload_n dX2_addNomination_27 rfl ?_
  refine eg_Vv3 cs_X2_83 dX2_addNomination_28 (c_X5_put (ep7 hb) (ep8 hb) ⟨by omega, by omega⟩ ⟨by omega, by omega⟩ ⟨by omega, by omega⟩ ⟨by omega, by omega⟩ (by decide)) (by first | exact ep0 hb | exact ep1 hb | exact ep3 hb | exact ep5 hb | exact ep7 hb | exact ep9 hb | exact ep10 hb | exact ep11 hb | exact ep2 hb | exact ep4 hb | exact ep6 hb | exact ep8 hb) rfl (Nat.le_of_ble_eq_true rfl) (by decide) ?_
  refine eg_eqM (es8 hb) ?_
  generalize w2 : va_up y1 (b + 8) _ = y2
  have f2 : (∀ c, c ≠ b + 8 → y2 c = y1 c) ∧ y2 (b + 8) = va_up (y1 (b + 8)) (v 3 * 4 + 1).toNat f := ⟨fun c hc9 => by rw [← w2, va_up_n _ _ hc9], by rw [← w2, va_up_s]⟩
  clear w2
  have g2 : y2 (b + 7) 3 = v 3 + 1 := by rw [f2.1 _ (by omega)]; exact g1
  refine eg_al_n dX2_addNomination_31 rfl rfl ?_
  refine eg_get fl_X2_39 dX2_addNomination_32 (by first | exact ep0 hb | exact ep1 hb | exact ep3 hb | exact ep5 hb | exact ep7 hb | exact ep9 hb | exact ep10 hb | exact ep11 hb | exact ep2 hb | exact ep4 hb | exact ep6 hb | exact ep8 hb) rfl ?_
  refine eg_iload dX2_addNomination_35 rfl ?_
  refine eg_iconst dX2_addNomination_37 ?_
  refine eg_iload_n dX2_addNomination_38 rfl ?_
  refine eg_Vv3 cs_X2_83 dX2_addNomination_39 (c_X5_put (ep7 hb) (ep8 hb) ⟨by omega, by omega⟩ ⟨by omega, by omega⟩ ⟨by omega, by omega⟩ ⟨by omega, by omega⟩ (by decide)) (by first | exact ep0 hb | exact ep1 hb | exact ep3 hb | exact ep5 hb | exact ep7 hb | exact ep9 hb | exact ep10 hb | exact ep11 hb | exact ep2 hb | exact ep4 hb | exact ep6 hb | exact ep8 hb) rfl (Nat.le_of_ble_eq_true rfl) (by decide) ?_
  refine eg_eqM (es8 hb) ?_
  generalize w3 : va_up y2 (b + 8) _ = y3
  have f3 : (∀ c, c ≠ b + 8 → y3 c = y2 c) ∧ y3 (b + 8) = va_up (y2 (b + 8)) (v 3 * 4 + 2).toNat t := ⟨fun c hc9 => by rw [← w3, va_up_n _ _ hc9], by rw [← w3, va_up_s]⟩
  clear w3
  have g3 : y3 (b + 7) 3 = v 3 + 1 := by rw [f3.1 _ (by omega)]; exact g2
  refine eg_al_n dX2_addNomination_42 rfl rfl ?_
  refine eg_get fl_X2_39 dX2_addNomination_43 (by first | exact ep0 hb | exact ep1 hb | exact ep3 hb | exact ep5 hb | exact ep7 hb | exact ep9 hb | exact ep10 hb | exact ep11 hb | exact ep2 hb | exact ep4 hb | exact ep6 hb | exact ep8 hb) rfl ?_
  refine eg_iload dX2_addNomination_46 rfl ?_
  refine eg_iconst dX2_addNomination_48 ?_
  refine eg_iload dX2_addNomination_49 rfl ?_
  refine eg_Vv3 cs_X2_83 dX2_addNomination_51 (c_X5_put (ep7 hb) (ep8 hb) ⟨by omega, by omega⟩ ⟨by omega, by omega⟩ ⟨by omega, by omega⟩ ⟨by omega, by omega⟩ (by decide)) (by first | exact ep0 hb | exact ep1 hb | exact ep3 hb | exact ep5 hb | exact ep7 hb | exact ep9 hb | exact ep10 hb | exact ep11 hb | exact ep2 hb | exact ep4 hb | exact ep6 hb | exact ep8 hb) rfl (Nat.le_of_ble_eq_true rfl) (by decide) ?_
  refine eg_eqM (es8 hb) ?_
  generalize w4 : va_up y3 (b + 8) _ = y4
  have f4 : (∀ c, c ≠ b + 8 → y4 c = y3 c) ∧ y4 (b + 8) = va_up (y3 (b + 8)) (v 3 * 4 + 3).toNat x := ⟨fun c hc9 => by rw [← w4, va_up_n _ _ hc9], by rw [← w4, va_up_s]⟩
  clear w4
  have g4 : y4 (b + 7) 3 = v 3 + 1 := by rw [f4.1 _ (by omega)]; exact g3
  refine eg_iload dX2_addNomination_54 rfl ?_
  refine eg_ireturn dX2_addNomination_56 rfl rfl ?_
  refine ⟨rfl, rfl, y4, rfl, ?_, ?_, ?_⟩
  · intro c hc hc2
    rw [f4.1 c (by omega), f3.1 c (by omega), f2.1 c (by omega), f1.1 c (by omega), f0 c (by omega) (by omega)]
  · rw [f4.1 _ (by omega), f3.1 _ (by omega), f2.1 _ (by omega), f1.1 _ (by omega), f0 _ (by omega) (by omega)]
  · refine hP_N hv hp (fun i h9 h8 => addV_o ⟨by omega, h3⟩ h9 h8) (fun j _ h7 h8 => ?_) ?_ ?_
    · rw [f4.1 _ (by omega), f3.1 _ (by omega), f2.1 _ (by omega), f1.1 _ (by omega), f0 _ (by omega) (by omega)]
    · rw [addV_3]; exact g4
    · intro q9 c9 h0 h1 h2 h4
      rw [addV_3] at h1
      rw [addV_N ⟨by omega, h3⟩ h0 (by omega) h2 h4, f4.2, f3.2, f2.2, f1.2]
      simp only [va_up]
      by_cases hq : q9 = v 3
      · rw [if_pos hq]
        subst hq
        by_cases e0 : c9 = 0
        · rw [if_neg (by omega), if_neg (by omega), if_neg (by omega), if_pos (by omega), if_pos e0]
        · by_cases e1 : c9 = 1
          · rw [if_neg (by omega), if_neg (by omega), if_pos (by omega), if_neg e0, if_pos e1]
          · by_cases e2 : c9 = 2
            · rw [if_neg (by omega), if_pos (by omega), if_neg e0, if_neg e1, if_pos e2]
            · rw [if_pos (by omega), if_neg e0, if_neg e1, if_neg e2]
      · rw [if_neg hq, if_neg (by omega), if_neg (by omega), if_neg (by omega), if_neg (by omega), u0 _ (by omega)]
        exact hp.2.2.2.2.2.2.1 q9 c9 h0 (by omega) h2 h4
theorem po_ne {L : Nat} {t : Nat → Int} {i : Nat} {v : eg_v} {w : Int} : ∀ e, poR L t i v w = .inl e → e ≠ 0 := fun e h => by
  unfold poR at h
  cases hx : nmR L t i 0 (v 1 - 1) with
  | inl e' => rw [hx, bd_l] at h; injection h with h; subst h; exact nm_ne _ hx
  | inr a =>
    rw [hx, bd_r] at h
    by_cases g : gP v a.2 1 = w
    · rw [if_pos g] at h; cases h
    · rw [if_neg g] at h; injection h with h; omega
theorem po_r {L : Nat} {t : Nat → Int} {i : Nat} {v : eg_v} {w : Int} {a : Nat × Int} (hi : i ≤ L) (h : poR L t i v w = .inr a) : nmR L t i 0 (v 1 - 1) = .inr a ∧ a.1 ≤ L ∧ i ≤ a.1 ∧ 0 ≤ a.2 ∧ a.2 < v 1 ∧ gP v a.2 1 = w := by
  unfold poR at h
  cases hx : nmR L t i 0 (v 1 - 1) with
  | inl e' => rw [hx, bd_l] at h; cases h
  | inr b =>
    rw [hx, bd_r] at h
    have r := nmR_r hi hx
    by_cases g : gP v b.2 1 = w
    · rw [if_pos g] at h; injection h with h; subst h; exact ⟨rfl, r.1, r.2.1, r.2.2.1, by omega, g⟩
    · rw [if_neg g] at h; cases h
theorem po_e {L : Nat} {t : Nat → Int} {i : Nat} {v : eg_v} {w F r na : Int} (hi : i ≤ L) (hr : ∀ a, nmR L t i 0 (v 1 - 1) = .inr a → r = a.2 ∧ na = (sk L t i : Int)) : (if bi (0 ≤ r ∧ r < v 1 ∧ gP v r 1 = w) = 0 then fnx (fnx F (ftR (nmR L t i 0 (v 1 - 1)))) (8 * na + 2) else fnx F (ftR (nmR L t i 0 (v 1 - 1)))) = fnx F (ftR (poR L t i v w)) := by
  unfold poR
  cases hx : nmR L t i 0 (v 1 - 1) with
  | inl e =>
    have ne := nm_ne e hx
    rw [bd_l, ft_l, fnx_k ne]
    split <;> rfl
  | inr a =>
    obtain ⟨h1, h2⟩ := hr a hx
    have b := nmR_r hi hx
    subst h1
    rw [bd_r, ft_r, fnx_z]
    by_cases g : gP v a.2 1 = w
    · rw [if_neg (fun hh => by rw [bi_0] at hh; exact hh ⟨b.2.2.1, by omega, g⟩), if_pos g, ft_r, fnx_z]
    · rw [if_pos (by rw [bi_0]; exact fun hh => g hh.2.2), if_neg g, ft_l, h2]
theorem po_b {L : Nat} {t : Nat → Int} {i : Nat} {v : eg_v} {w : Int} (hL : L ≤ 400) (h : i ≤ L) : 0 ≤ ftR (poR L t i v w) ∧ ftR (poR L t i v w) ≤ 4000 := by
  have a := ft_b (t := t) (lo := 0) (hi := v 1 - 1) hL h
  have s2 : sk L t i ≤ L := (rn_b (P := bB) (t := t) h).2
  unfold poR
  cases hx : nmR L t i 0 (v 1 - 1) with
  | inl e => rw [hx, ft_l] at a; rw [bd_l, ft_l]; exact a
  | inr b =>
    rw [bd_r]
    split
    · show (0 : Int) ≤ 0 ∧ (0 : Int) ≤ 4000; omega
    · rw [ft_l]; omega
theorem c_readNomA {k : eg_K} {z : eg_Z} {X : eg_M} {n : Nat} {L : Nat} {t : Nat → Int} (hT : TP z L t) {v : eg_v} {i : Nat} {F : Int} (hp : hP z 184 v) (ht : tv v) (hi9 : i ≤ L) (hat : z 181 2 = (i : Int)) (hF : z 181 5 = F) (rF : 0 ≤ F ∧ F ≤ 4000) {wa : Nat} (hw : z 181 3 = (wa : Int)) (hwa : wa ≤ 400) : eg_P k gX3_readNomination 3 0 0 [vR k 181, vI 1, vI 1] n (enc k z X) (eg_p k none n X (fun z' => (∃ j : Nat, j ≤ L ∧ z' 181 2 = (j : Int)) ∧ z' 181 5 = fnx F (ftR (fuX (decide (16 ≤ v 3)) wa (noR L t i v true true))) ∧ (∀ c, c ≠ 181 → (c < 184 ∨ 196 ≤ c) → z' c = z c) ∧ (z' 181 5 ≠ 0 → ∀ c, c ≠ 181 → z' c = z c) ∧ z' 193 = z 193 ∧ ∀ a, F = 0 → (fuX (decide (16 ≤ v 3)) wa (noR L t i v true true)) = .inr a → z' 181 2 = (a.1 : Int) ∧ hP z' 184 a.2)) := by
  refine eg_P.of (by decide) (Nat.le_of_ble_eq_true rfl) ?_
  show eg_E k gX3_readNomination 3 0 0 n (enc k z X) [vR k 181, vI 1, vI 1, vU, vU, vU, vU] [] 0 _
  have hb := isB_184
  have hv := ht.1
  have q := hv.r.2
  have v02 := ht.2.1
  have cnt9 := hp.2.1.2.2.2
  refine eg_al_n dX3_readNomination_0 rfl rfl ?_
  refine eg_al_n dX3_readNomination_1 rfl rfl ?_
  refine eg_get fl_X3_21 dX3_readNomination_2 (by first | exact er181 | exact er182 | exact er183 | exact ep0 hb | exact ep1 hb | exact ep3 hb | exact ep5 hb | exact ep7 hb) rfl ?_
  refine eg_get fl_X3_164 dX3_readNomination_5 (by first | exact er181 | exact er182 | exact er183 | exact ep0 hb | exact ep1 hb | exact ep3 hb | exact ep5 hb | exact ep7 hb) rfl ?_
  refine eg_Vpv1 cs_X3_157 dX3_readNomination_8 (c_failIfFull (full := decide (16 ≤ v 3)) (ep7 hb) (by have s9 := c_isFull (k := k) (X := X) (n := n) hb hp hv; rw [bi_d]; exact s9) hF rF hw) (by first | exact er181 | exact er182 | exact er183 | exact ep0 hb | exact ep1 hb | exact ep3 hb | exact ep5 hb | exact ep7 hb) rfl (Nat.le_of_ble_eq_true rfl) (by decide) ?_
  rintro y0 ⟨f0, g0, e0⟩
  have hT0 : TP y0 L t := hT.c (f0 182 (by decide)) (f0 183 (by decide))
  have p0 : y0 181 2 = (i : Int) := by rw [g0 2 (by decide)]; exact hat
  have rF0 : 0 ≤ (if decide (16 ≤ v 3) = true then fnx F (8 * (wa : Int) + 3) else F) ∧ (if decide (16 ≤ v 3) = true then fnx F (8 * (wa : Int) + 3) else F) ≤ 4000 := by split; exact fnx_b rF (by omega); exact rF
  refine eg_al_n dX3_readNomination_11 rfl rfl ?_
  refine eg_iconst dX3_readNomination_12 ?_
  refine eg_al_n dX3_readNomination_13 rfl rfl ?_
  refine eg_get fl_X3_21 dX3_readNomination_14 (by first | exact er181 | exact er182 | exact er183 | exact ep0 hb | exact ep1 hb | exact ep3 hb | exact ep5 hb | exact ep7 hb) rfl ?_
  refine eg_get fl_X3_161 dX3_readNomination_17 (by first | exact er181 | exact er182 | exact er183 | exact ep0 hb | exact ep1 hb | exact ep3 hb | exact ep5 hb | exact ep7 hb) rfl ?_
  refine eg_get fl_X3_151 dX3_readNomination_20 (by first | exact er181 | exact er182 | exact er183 | exact ep0 hb | exact ep1 hb | exact ep3 hb | exact ep5 hb | exact ep7 hb) rfl ?_
  refine eg_eqI (y := v 2) (by rw [f0 (184 + 5) (by decide)]; exact hp.2.1.2.2.1) ?_
  refine eg_iconst dX3_readNomination_23 ?_
  refine eg_isub dX3_readNomination_24 ?_
  refine eg_Vr2 cs_X3_100 dX3_readNomination_25 (c_rn (lo := 0) (hi := (v 2 - 1)) hT0 hi9 p0 e0 rF0 ⟨by decide, by decide⟩ ⟨by omega, by omega⟩) (by first | exact er181 | exact er182 | exact er183 | exact ep0 hb | exact ep1 hb | exact ep3 hb | exact ep5 hb | exact ep7 hb) rfl (Nat.le_of_ble_eq_true rfl) (by decide) ?_
  rintro r1 y1 ⟨q1, f1, w1, ⟨j1, l1, p1⟩, e1, s1⟩
  have hT1 : TP y1 L t := hT0.c (f1 182 (by decide)) (f1 183 (by decide))
  have rF1 := fnx_b rF0 (ft_b (t := t) (lo := 0) (hi := (v 2 - 1)) hT.1 hi9)
  refine eg_istore_n dX3_readNomination_28 rfl rfl rfl ?_
  refine eg_iconst dX3_readNomination_29 ?_
  refine eg_istore dX3_readNomination_30 rfl rfl rfl ?_
  refine eg_iconst dX3_readNomination_32 ?_
  refine eg_istore dX3_readNomination_33 rfl rfl rfl ?_
  refine eg_iload_n dX3_readNomination_35 rfl ?_
  refine eg_if_eq 71 dX3_readNomination_36 ⟨by omega, by omega⟩ rfl (fun h36 => absurd h36 (by omega)) (fun h36 => ?_)
  refine eg_al_n dX3_readNomination_39 rfl rfl ?_
  refine eg_iconst dX3_readNomination_40 ?_
  refine eg_al_n dX3_readNomination_41 rfl rfl ?_
  refine eg_get fl_X3_21 dX3_readNomination_42 (by first | exact er181 | exact er182 | exact er183 | exact ep0 hb | exact ep1 hb | exact ep3 hb | exact ep5 hb | exact ep7 hb) rfl ?_
  refine eg_get fl_X3_154 dX3_readNomination_45 (by first | exact er181 | exact er182 | exact er183 | exact ep0 hb | exact ep1 hb | exact ep3 hb | exact ep5 hb | exact ep7 hb) rfl ?_
  refine eg_get fl_X3_151 dX3_readNomination_48 (by first | exact er181 | exact er182 | exact er183 | exact ep0 hb | exact ep1 hb | exact ep3 hb | exact ep5 hb | exact ep7 hb) rfl ?_
  refine eg_eqI (y := v 1) (by rw [(fun c9 h9 => ((f1 c9 h9)).trans (f0 c9 h9)) (184 + 3) (by decide)]; exact hp.2.1.2.1) ?_
  refine eg_iconst dX3_readNomination_51 ?_
  refine eg_isub dX3_readNomination_52 ?_
  refine eg_Vr2 cs_X3_100 dX3_readNomination_53 (c_rn (lo := 0) (hi := (v 1 - 1)) hT1 l1 p1 e1 rF1 ⟨by decide, by decide⟩ ⟨by omega, by omega⟩) (by first | exact er181 | exact er182 | exact er183 | exact ep0 hb | exact ep1 hb | exact ep3 hb | exact ep5 hb | exact ep7 hb) rfl (Nat.le_of_ble_eq_true rfl) (by decide) ?_
  rintro r2 yy2 ⟨q2, ff2, ww2, ⟨j2, l2, pp2⟩, ee2, ss2⟩
  have hTT2 : TP yy2 L t := hT1.c (ff2 182 (by decide)) (ff2 183 (by decide))
  have rr2 := fnx_b rF1 (ft_b (t := t) (lo := 0) (hi := v 1 - 1) hT.1 l1)
  have hpp2 : hP yy2 184 v := hP_k (fun j hj => ((ff2 _ (by omega)).trans ((fun c9 h9 => ((f1 c9 h9)).trans (f0 c9 h9)) _ (by omega)))) hp
  refine eg_istore dX3_readNomination_56 rfl rfl rfl ?_
  refine eg_al_n dX3_readNomination_58 rfl rfl ?_
  refine eg_al_n dX3_readNomination_59 rfl rfl ?_
  refine eg_get fl_X3_21 dX3_readNomination_60 (by first | exact er181 | exact er182 | exact er183 | exact ep0 hb | exact ep1 hb | exact ep3 hb | exact ep5 hb | exact ep7 hb) rfl ?_
  refine eg_iload dX3_readNomination_63 rfl ?_
  refine eg_Vf1 cs_X3_167 dX3_readNomination_65 (c_X2_isIn hb hpp2 hv q2) (by first | exact er181 | exact er182 | exact er183 | exact ep0 hb | exact ep1 hb | exact ep3 hb | exact ep5 hb | exact ep7 hb) rfl (Nat.le_of_ble_eq_true rfl) (by decide) ?_
  refine eg_Vpv1 cs_X3_87 dX3_readNomination_68 (c_mustBe (p := yy2 181 4) ee2 ⟨by omega, by omega⟩ rfl bi_z) (by first | exact er181 | exact er182 | exact er183 | exact ep0 hb | exact ep1 hb | exact ep3 hb | exact ep5 hb | exact ep7 hb) rfl (Nat.le_of_ble_eq_true rfl) (by decide) ?_
  rintro y2 ⟨fm2, gm2, em2⟩
  have f2 : ∀ c, c ≠ 181 → y2 c = y1 c := fun c9 h9 => (fm2 c9 h9).trans (ff2 c9 h9)
  have p2 : y2 181 2 = (j2 : Int) := by rw [gm2 2 (by decide)]; exact pp2
  have e2 : y2 181 5 = fnx (fnx ((if decide (16 ≤ v 3) = true then fnx F (8 * (wa : Int) + 3) else F)) (ftR (nmR L t i 0 (v 2 - 1)))) (ftR (poR L t j1 v 1)) := by rw [em2]; exact po_e l1 (fun a9 h9 => ⟨(ss2 a9 h9).1, (ss2 a9 h9).2.2⟩)
  have s2 : ∀ a, poR L t j1 v 1 = .inr a → r2 = a.2 ∧ y2 181 2 = (a.1 : Int) ∧ True := fun a9 h9 => ⟨(ss2 a9 (po_r l1 h9).1).1, by rw [gm2 2 (by decide)]; exact (ss2 a9 (po_r l1 h9).1).2.1, trivial⟩
  have hT2 : TP y2 L t := hTT2.c (fm2 182 (by decide)) (fm2 183 (by decide))
  have rF2 := fnx_b rF1 (po_b (t := t) (v := v) (w := 1) hT.1 l1)
  refine eg_iload_n dX3_readNomination_71 rfl ?_
  refine eg_if_eq 107 dX3_readNomination_72 ⟨by omega, by omega⟩ rfl (fun h72 => absurd h72 (by omega)) (fun h72 => ?_)
  refine eg_al_n dX3_readNomination_75 rfl rfl ?_
  refine eg_iconst dX3_readNomination_76 ?_
  refine eg_al_n dX3_readNomination_77 rfl rfl ?_
  refine eg_get fl_X3_21 dX3_readNomination_78 (by first | exact er181 | exact er182 | exact er183 | exact ep0 hb | exact ep1 hb | exact ep3 hb | exact ep5 hb | exact ep7 hb) rfl ?_
  refine eg_get fl_X3_154 dX3_readNomination_81 (by first | exact er181 | exact er182 | exact er183 | exact ep0 hb | exact ep1 hb | exact ep3 hb | exact ep5 hb | exact ep7 hb) rfl ?_
  refine eg_get fl_X3_151 dX3_readNomination_84 (by first | exact er181 | exact er182 | exact er183 | exact ep0 hb | exact ep1 hb | exact ep3 hb | exact ep5 hb | exact ep7 hb) rfl ?_
  refine eg_eqI (y := v 1) (by rw [(fun c9 h9 => (((f2 c9 h9).trans (f1 c9 h9))).trans (f0 c9 h9)) (184 + 3) (by decide)]; exact hp.2.1.2.1) ?_
  refine eg_iconst dX3_readNomination_87 ?_
  refine eg_isub dX3_readNomination_88 ?_
  refine eg_Vr2 cs_X3_100 dX3_readNomination_89 (c_rn (lo := 0) (hi := (v 1 - 1)) hT2 l2 p2 e2 rF2 ⟨by decide, by decide⟩ ⟨by omega, by omega⟩) (by first | exact er181 | exact er182 | exact er183 | exact ep0 hb | exact ep1 hb | exact ep3 hb | exact ep5 hb | exact ep7 hb) rfl (Nat.le_of_ble_eq_true rfl) (by decide) ?_
  rintro r3 yy3 ⟨q3, ff3, ww3, ⟨j3, l3, pp3⟩, ee3, ss3⟩
  have hTT3 : TP yy3 L t := hT2.c (ff3 182 (by decide)) (ff3 183 (by decide))
  have rr3 := fnx_b rF2 (ft_b (t := t) (lo := 0) (hi := v 1 - 1) hT.1 l2)
  have hpp3 : hP yy3 184 v := hP_k (fun j hj => ((ff3 _ (by omega)).trans ((fun c9 h9 => (((f2 c9 h9).trans (f1 c9 h9))).trans (f0 c9 h9)) _ (by omega)))) hp
  refine eg_istore dX3_readNomination_92 rfl rfl rfl ?_
  refine eg_al_n dX3_readNomination_94 rfl rfl ?_
  refine eg_al_n dX3_readNomination_95 rfl rfl ?_
  refine eg_get fl_X3_21 dX3_readNomination_96 (by first | exact er181 | exact er182 | exact er183 | exact ep0 hb | exact ep1 hb | exact ep3 hb | exact ep5 hb | exact ep7 hb) rfl ?_
  refine eg_iload dX3_readNomination_99 rfl ?_
  refine eg_Vf1 cs_X3_170 dX3_readNomination_101 (c_X2_isOut hb hpp3 hv q3) (by first | exact er181 | exact er182 | exact er183 | exact ep0 hb | exact ep1 hb | exact ep3 hb | exact ep5 hb | exact ep7 hb) rfl (Nat.le_of_ble_eq_true rfl) (by decide) ?_
  refine eg_Vpv1 cs_X3_87 dX3_readNomination_104 (c_mustBe (p := yy3 181 4) ee3 ⟨by omega, by omega⟩ rfl bi_z) (by first | exact er181 | exact er182 | exact er183 | exact ep0 hb | exact ep1 hb | exact ep3 hb | exact ep5 hb | exact ep7 hb) rfl (Nat.le_of_ble_eq_true rfl) (by decide) ?_
  rintro y3 ⟨fm3, gm3, em3⟩
  have f3 : ∀ c, c ≠ 181 → y3 c = y2 c := fun c9 h9 => (fm3 c9 h9).trans (ff3 c9 h9)
  have p3 : y3 181 2 = (j3 : Int) := by rw [gm3 2 (by decide)]; exact pp3
  have e3 : y3 181 5 = fnx (fnx (fnx ((if decide (16 ≤ v 3) = true then fnx F (8 * (wa : Int) + 3) else F)) (ftR (nmR L t i 0 (v 2 - 1)))) (ftR (poR L t j1 v 1))) (ftR (poR L t j2 v 0)) := by rw [em3]; exact po_e l2 (fun a9 h9 => ⟨(ss3 a9 h9).1, (ss3 a9 h9).2.2⟩)
  have s3 : ∀ a, poR L t j2 v 0 = .inr a → r3 = a.2 ∧ y3 181 2 = (a.1 : Int) ∧ True := fun a9 h9 => ⟨(ss3 a9 (po_r l2 h9).1).1, by rw [gm3 2 (by decide)]; exact (ss3 a9 (po_r l2 h9).1).2.1, trivial⟩
  have hT3 : TP y3 L t := hTT3.c (fm3 182 (by decide)) (fm3 183 (by decide))
  have rF3 := fnx_b rF2 (po_b (t := t) (v := v) (w := 0) hT.1 l2)
  refine eg_al_n dX3_readNomination_107 rfl rfl ?_
  refine eg_iconst dX3_readNomination_108 ?_
  refine eg_sipush dX3_readNomination_109 (by decide) ?_
  refine eg_Vr2 cs_X3_100 dX3_readNomination_112 (c_rn (lo := 0) (hi := 9999) hT3 l3 p3 e3 rF3 ⟨by decide, by decide⟩ ⟨by omega, by omega⟩) (by first | exact er181 | exact er182 | exact er183 | exact ep0 hb | exact ep1 hb | exact ep3 hb | exact ep5 hb | exact ep7 hb) rfl (Nat.le_of_ble_eq_true rfl) (by decide) ?_
  rintro r4 y4 ⟨q4, f4, w4, ⟨j4, l4, p4⟩, e4, s4⟩
  have hT4 : TP y4 L t := hT3.c (f4 182 (by decide)) (f4 183 (by decide))
  have rF4 := fnx_b rF3 (ft_b (t := t) (lo := 0) (hi := 9999) hT.1 l3)
  refine eg_istore dX3_readNomination_115 rfl rfl rfl ?_
  refine eg_al_n dX3_readNomination_117 rfl rfl ?_
  refine eg_get fl_X3_35 dX3_readNomination_118 (by first | exact er181 | exact er182 | exact er183 | exact ep0 hb | exact ep1 hb | exact ep3 hb | exact ep5 hb | exact ep7 hb) rfl ?_
  refine eg_eqI e4 ?_
  refine eg_if_ne 139 dX3_readNomination_121 ⟨by omega, by omega⟩ rfl (fun h121 => ?_) (fun h121 => ?_)
  · refine eg_return dX3_readNomination_139 rfl ?_
    have eS : fnx (if decide (16 ≤ v 3) = true then fnx F (8 * (wa : Int) + 3) else F) (ftR (noR L t i v true true)) = fnx (fnx (fnx (fnx ((if decide (16 ≤ v 3) = true then fnx F (8 * (wa : Int) + 3) else F)) (ftR (nmR L t i 0 (v 2 - 1)))) (ftR (poR L t j1 v 1))) (ftR (poR L t j2 v 0))) (ftR (nmR L t j3 0 9999)) := by
      unfold noR
      cases hx1 : nmR L t i 0 (v 2 - 1) with
      | inl e =>
        have ne := nm_ne e hx1
        rw [bd_l, ft_l, ft_l, fnx_k ne, fnx_k ne, fnx_k ne]
      | inr a1 =>
        have k1 : j1 = a1.1 := by have := (s1 a1 hx1).2.1; omega
        subst k1
        rw [bd_r, ft_r, fnx_z]
        rw [if_pos rfl]
        cases hx2 : poR L t a1.1 v 1 with
        | inl e =>
          have ne := po_ne e hx2
          rw [bd_l, ft_l, ft_l, fnx_k ne, fnx_k ne]
        | inr a2 =>
          have k2 : j2 = a2.1 := by have := (s2 a2 hx2).2.1; omega
          subst k2
          rw [bd_r, ft_r, fnx_z]
          rw [if_pos rfl]
          cases hx3 : poR L t a2.1 v 0 with
          | inl e =>
            have ne := po_ne e hx3
            rw [bd_l, ft_l, ft_l, fnx_k ne]
          | inr a3 =>
            have k3 : j3 = a3.1 := by have := (s3 a3 hx3).2.1; omega
            subst k3
            rw [bd_r, ft_r, fnx_z]
            cases hx4 : nmR L t a3.1 0 9999 with
            | inl e =>
              have ne := nm_ne e hx4
              rw [bd_l, ft_l, ft_l]
            | inr a4 =>
              have k4 : j4 = a4.1 := by have := (s4 a4 hx4).2.1; omega
              subst k4
              rw [bd_r, ft_r, ft_r]
    have eS2 : fnx F (ftR (fuX (decide (16 ≤ v 3)) wa (noR L t i v true true))) = fnx (if decide (16 ≤ v 3) = true then fnx F (8 * (wa : Int) + 3) else F) (ftR (noR L t i v true true)) := by
      by_cases hf9 : decide (16 ≤ v 3) = true
      · unfold fuX; rw [if_pos hf9, if_pos hf9, ft_l, fnx_k (by omega)]
      · unfold fuX; rw [if_neg hf9, if_neg hf9]
    refine ⟨rfl, rfl, y4, rfl, ⟨j4, l4, p4⟩, by rw [eS2, eS]; exact e4, fun c9 h9 _ => (fun c9 h9 => (((((f4 c9 h9).trans (f3 c9 h9)).trans (f2 c9 h9)).trans (f1 c9 h9))).trans (f0 c9 h9)) c9 h9, fun _ => fun c9 h9 => (((((f4 c9 h9).trans (f3 c9 h9)).trans (f2 c9 h9)).trans (f1 c9 h9))).trans (f0 c9 h9), (fun c9 h9 => (((((f4 c9 h9).trans (f3 c9 h9)).trans (f2 c9 h9)).trans (f1 c9 h9))).trans (f0 c9 h9)) 193 (by decide), fun a9 hF0 h8 => ?_⟩
    have e9 : fnx F (ftR (fuX (decide (16 ≤ v 3)) wa (noR L t i v true true))) = 0 := by rw [h8, hF0]; rfl
    exact absurd ((eS2.trans eS).symm.trans e9) h121
  · obtain ⟨F30, A4, h4⟩ := fx_0 nm_ne h121
    obtain ⟨F20, A3, h3⟩ := fx_0 po_ne F30
    obtain ⟨F10, A2, h2⟩ := fx_0 po_ne F20
    obtain ⟨F00, A1, h1⟩ := fx_0 nm_ne F10
    obtain ⟨v1, u1, -⟩ := s1 A1 h1
    obtain ⟨v2, u2, -⟩ := s2 A2 h2
    obtain ⟨v3, u3, -⟩ := s3 A3 h3
    obtain ⟨v4, u4, -⟩ := s4 A4 h4
    have b1 := nmR_r hi9 h1
    have b2 := (po_r l1 h2).2
    have b3 := (po_r l2 h3).2
    have b4 := nmR_r l3 h4
    have nf : ¬ decide (16 ≤ v 3) = true := fun hh => by rw [if_pos hh] at F00; have := (fx_0 (x := (.inl (8 * (wa : Int) + 3) : Int ⊕ Nat)) (fun e he => by injection he with he; omega) F00).2; obtain ⟨a9, ha9⟩ := this; cases ha9
    rw [if_neg nf] at F00
    have full9 : v 3 < 16 := by
      by_cases x9 : 16 ≤ v 3
      · exact absurd (decide_eq_true x9) nf
      · omega
    have frn : ∀ c, c ≠ 181 → y4 c = z c := fun c9 h9 => (((((f4 c9 h9).trans (f3 c9 h9)).trans (f2 c9 h9)).trans (f1 c9 h9))).trans (f0 c9 h9)
    have hpn : hP y4 184 v := hP_k (fun j hj => frn _ (by omega)) hp
    refine eg_al_n dX3_readNomination_124 rfl rfl ?_
    refine eg_get fl_X3_21 dX3_readNomination_125 (by first | exact er181 | exact er182 | exact er183 | exact ep0 hb | exact ep1 hb | exact ep3 hb | exact ep5 hb | exact ep7 hb) rfl ?_
    refine eg_iload_n dX3_readNomination_128 rfl ?_
    refine eg_iload dX3_readNomination_129 rfl ?_
    refine eg_iload dX3_readNomination_131 rfl ?_
    refine eg_iload dX3_readNomination_133 rfl ?_
    refine eg_Vpf4 cs_X3_173 dX3_readNomination_135 (c_addNom hb hpn hv (by omega)) (by first | exact er181 | exact er182 | exact er183 | exact ep0 hb | exact ep1 hb | exact ep3 hb | exact ep5 hb | exact ep7 hb) rfl (Nat.le_of_ble_eq_true rfl) (by decide) ?_
    rintro y9 ⟨m9, o9, hp9⟩
    refine eg_pop dX3_readNomination_138 rfl ?_
    refine eg_return dX3_readNomination_139 rfl ?_
    have k1 : j1 = A1.1 := by omega
    have k2 : j2 = A2.1 := by omega
    have k3 : j3 = A3.1 := by omega
    subst k1; subst k2; subst k3
    have eR : (fuX (decide (16 ≤ v 3)) wa (noR L t i v true true)) = .inr (A4.1, addV v r1 r2 r3 r4) := by
      unfold fuX
      rw [if_neg nf]
      unfold noR
      rw [h1, bd_r]
      rw [if_pos rfl, h2, bd_r]
      rw [if_pos rfl, h3, bd_r]
      rw [h4, bd_r, ← v1, ← v2, ← v3, ← v4]
    have e181 : y9 181 = y4 181 := m9 181 (by decide) (by decide)
    refine ⟨rfl, rfl, y9, rfl, ⟨A4.1, b4.1, by rw [e181]; exact u4⟩, by rw [e181, e4, h121, eR, F00]; rfl, fun c9 h9 h8 => (m9 c9 (by omega) (by omega)).trans (frn c9 h9), fun hh => absurd (by rw [e181, e4]; exact h121) hh, (m9 193 (by decide) (by decide)).trans (frn 193 (by decide)), fun a9 _ h8 => ?_⟩
    rw [eR] at h8; injection h8 with h8; subst h8; exact ⟨by rw [e181]; exact u4, hp9⟩
theorem c_readNomP {k : eg_K} {z : eg_Z} {X : eg_M} {n : Nat} {L : Nat} {t : Nat → Int} (hT : TP z L t) {v : eg_v} {i : Nat} {F : Int} (hp : hP z 184 v) (ht : tv v) (hi9 : i ≤ L) (hat : z 181 2 = (i : Int)) (hF : z 181 5 = F) (rF : 0 ≤ F ∧ F ≤ 4000) {wa : Nat} (hw : z 181 3 = (wa : Int)) (hwa : wa ≤ 400) : eg_P k gX3_readNomination 3 0 0 [vR k 181, vI 1, vI 0] n (enc k z X) (eg_p k none n X (fun z' => (∃ j : Nat, j ≤ L ∧ z' 181 2 = (j : Int)) ∧ z' 181 5 = fnx F (ftR (fuX (decide (16 ≤ v 3)) wa (noR L t i v true false))) ∧ (∀ c, c ≠ 181 → (c < 184 ∨ 196 ≤ c) → z' c = z c) ∧ (z' 181 5 ≠ 0 → ∀ c, c ≠ 181 → z' c = z c) ∧ z' 193 = z 193 ∧ ∀ a, F = 0 → (fuX (decide (16 ≤ v 3)) wa (noR L t i v true false)) = .inr a → z' 181 2 = (a.1 : Int) ∧ hP z' 184 a.2)) := by
  refine eg_P.of (by decide) (Nat.le_of_ble_eq_true rfl) ?_
  show eg_E k gX3_readNomination 3 0 0 n (enc k z X) [vR k 181, vI 1, vI 0, vU, vU, vU, vU] [] 0 _
  have hb := isB_184
  have hv := ht.1
  have q := hv.r.2
  have v02 := ht.2.1
  have cnt9 := hp.2.1.2.2.2
  refine eg_al_n dX3_readNomination_0 rfl rfl ?_
  refine eg_al_n dX3_readNomination_1 rfl rfl ?_
  refine eg_get fl_X3_21 dX3_readNomination_2 (by first | exact er181 | exact er182 | exact er183 | exact ep0 hb | exact ep1 hb | exact ep3 hb | exact ep5 hb | exact ep7 hb) rfl ?_
  refine eg_get fl_X3_164 dX3_readNomination_5 (by first | exact er181 | exact er182 | exact er183 | exact ep0 hb | exact ep1 hb | exact ep3 hb | exact ep5 hb | exact ep7 hb) rfl ?_
  refine eg_Vpv1 cs_X3_157 dX3_readNomination_8 (c_failIfFull (full := decide (16 ≤ v 3)) (ep7 hb) (by have s9 := c_isFull (k := k) (X := X) (n := n) hb hp hv; rw [bi_d]; exact s9) hF rF hw) (by first | exact er181 | exact er182 | exact er183 | exact ep0 hb | exact ep1 hb | exact ep3 hb | exact ep5 hb | exact ep7 hb) rfl (Nat.le_of_ble_eq_true rfl) (by decide) ?_
  rintro y0 ⟨f0, g0, e0⟩
  have hT0 : TP y0 L t := hT.c (f0 182 (by decide)) (f0 183 (by decide))
  have p0 : y0 181 2 = (i : Int) := by rw [g0 2 (by decide)]; exact hat
  have rF0 : 0 ≤ (if decide (16 ≤ v 3) = true then fnx F (8 * (wa : Int) + 3) else F) ∧ (if decide (16 ≤ v 3) = true then fnx F (8 * (wa : Int) + 3) else F) ≤ 4000 := by split; exact fnx_b rF (by omega); exact rF
  refine eg_al_n dX3_readNomination_11 rfl rfl ?_
  refine eg_iconst dX3_readNomination_12 ?_
  refine eg_al_n dX3_readNomination_13 rfl rfl ?_
  refine eg_get fl_X3_21 dX3_readNomination_14 (by first | exact er181 | exact er182 | exact er183 | exact ep0 hb | exact ep1 hb | exact ep3 hb | exact ep5 hb | exact ep7 hb) rfl ?_
  refine eg_get fl_X3_161 dX3_readNomination_17 (by first | exact er181 | exact er182 | exact er183 | exact ep0 hb | exact ep1 hb | exact ep3 hb | exact ep5 hb | exact ep7 hb) rfl ?_
  refine eg_get fl_X3_151 dX3_readNomination_20 (by first | exact er181 | exact er182 | exact er183 | exact ep0 hb | exact ep1 hb | exact ep3 hb | exact ep5 hb | exact ep7 hb) rfl ?_
  refine eg_eqI (y := v 2) (by rw [f0 (184 + 5) (by decide)]; exact hp.2.1.2.2.1) ?_
  refine eg_iconst dX3_readNomination_23 ?_
  refine eg_isub dX3_readNomination_24 ?_
  refine eg_Vr2 cs_X3_100 dX3_readNomination_25 (c_rn (lo := 0) (hi := (v 2 - 1)) hT0 hi9 p0 e0 rF0 ⟨by decide, by decide⟩ ⟨by omega, by omega⟩) (by first | exact er181 | exact er182 | exact er183 | exact ep0 hb | exact ep1 hb | exact ep3 hb | exact ep5 hb | exact ep7 hb) rfl (Nat.le_of_ble_eq_true rfl) (by decide) ?_
  rintro r1 y1 ⟨q1, f1, w1, ⟨j1, l1, p1⟩, e1, s1⟩
  have hT1 : TP y1 L t := hT0.c (f1 182 (by decide)) (f1 183 (by decide))
  have rF1 := fnx_b rF0 (ft_b (t := t) (lo := 0) (hi := (v 2 - 1)) hT.1 hi9)
  refine eg_istore_n dX3_readNomination_28 rfl rfl rfl ?_
  refine eg_iconst dX3_readNomination_29 ?_
  refine eg_istore dX3_readNomination_30 rfl rfl rfl ?_
  refine eg_iconst dX3_readNomination_32 ?_
  refine eg_istore dX3_readNomination_33 rfl rfl rfl ?_
  refine eg_iload_n dX3_readNomination_35 rfl ?_
  refine eg_if_eq 71 dX3_readNomination_36 ⟨by omega, by omega⟩ rfl (fun h36 => absurd h36 (by omega)) (fun h36 => ?_)
  refine eg_al_n dX3_readNomination_39 rfl rfl ?_
  refine eg_iconst dX3_readNomination_40 ?_
  refine eg_al_n dX3_readNomination_41 rfl rfl ?_
  refine eg_get fl_X3_21 dX3_readNomination_42 (by first | exact er181 | exact er182 | exact er183 | exact ep0 hb | exact ep1 hb | exact ep3 hb | exact ep5 hb | exact ep7 hb) rfl ?_
  refine eg_get fl_X3_154 dX3_readNomination_45 (by first | exact er181 | exact er182 | exact er183 | exact ep0 hb | exact ep1 hb | exact ep3 hb | exact ep5 hb | exact ep7 hb) rfl ?_
  refine eg_get fl_X3_151 dX3_readNomination_48 (by first | exact er181 | exact er182 | exact er183 | exact ep0 hb | exact ep1 hb | exact ep3 hb | exact ep5 hb | exact ep7 hb) rfl ?_
  refine eg_eqI (y := v 1) (by rw [(fun c9 h9 => ((f1 c9 h9)).trans (f0 c9 h9)) (184 + 3) (by decide)]; exact hp.2.1.2.1) ?_
  refine eg_iconst dX3_readNomination_51 ?_
  refine eg_isub dX3_readNomination_52 ?_
  refine eg_Vr2 cs_X3_100 dX3_readNomination_53 (c_rn (lo := 0) (hi := (v 1 - 1)) hT1 l1 p1 e1 rF1 ⟨by decide, by decide⟩ ⟨by omega, by omega⟩) (by first | exact er181 | exact er182 | exact er183 | exact ep0 hb | exact ep1 hb | exact ep3 hb | exact ep5 hb | exact ep7 hb) rfl (Nat.le_of_ble_eq_true rfl) (by decide) ?_
  rintro r2 yy2 ⟨q2, ff2, ww2, ⟨j2, l2, pp2⟩, ee2, ss2⟩
  have hTT2 : TP yy2 L t := hT1.c (ff2 182 (by decide)) (ff2 183 (by decide))
  have rr2 := fnx_b rF1 (ft_b (t := t) (lo := 0) (hi := v 1 - 1) hT.1 l1)
  have hpp2 : hP yy2 184 v := hP_k (fun j hj => ((ff2 _ (by omega)).trans ((fun c9 h9 => ((f1 c9 h9)).trans (f0 c9 h9)) _ (by omega)))) hp
  refine eg_istore dX3_readNomination_56 rfl rfl rfl ?_
  refine eg_al_n dX3_readNomination_58 rfl rfl ?_
  refine eg_al_n dX3_readNomination_59 rfl rfl ?_
  refine eg_get fl_X3_21 dX3_readNomination_60 (by first | exact er181 | exact er182 | exact er183 | exact ep0 hb | exact ep1 hb | exact ep3 hb | exact ep5 hb | exact ep7 hb) rfl ?_
  refine eg_iload dX3_readNomination_63 rfl ?_
  refine eg_Vf1 cs_X3_167 dX3_readNomination_65 (c_X2_isIn hb hpp2 hv q2) (by first | exact er181 | exact er182 | exact er183 | exact ep0 hb | exact ep1 hb | exact ep3 hb | exact ep5 hb | exact ep7 hb) rfl (Nat.le_of_ble_eq_true rfl) (by decide) ?_
  refine eg_Vpv1 cs_X3_87 dX3_readNomination_68 (c_mustBe (p := yy2 181 4) ee2 ⟨by omega, by omega⟩ rfl bi_z) (by first | exact er181 | exact er182 | exact er183 | exact ep0 hb | exact ep1 hb | exact ep3 hb | exact ep5 hb | exact ep7 hb) rfl (Nat.le_of_ble_eq_true rfl) (by decide) ?_
  rintro y2 ⟨fm2, gm2, em2⟩
  have f2 : ∀ c, c ≠ 181 → y2 c = y1 c := fun c9 h9 => (fm2 c9 h9).trans (ff2 c9 h9)
  have p2 : y2 181 2 = (j2 : Int) := by rw [gm2 2 (by decide)]; exact pp2
  have e2 : y2 181 5 = fnx (fnx ((if decide (16 ≤ v 3) = true then fnx F (8 * (wa : Int) + 3) else F)) (ftR (nmR L t i 0 (v 2 - 1)))) (ftR (poR L t j1 v 1)) := by rw [em2]; exact po_e l1 (fun a9 h9 => ⟨(ss2 a9 h9).1, (ss2 a9 h9).2.2⟩)
  have s2 : ∀ a, poR L t j1 v 1 = .inr a → r2 = a.2 ∧ y2 181 2 = (a.1 : Int) ∧ True := fun a9 h9 => ⟨(ss2 a9 (po_r l1 h9).1).1, by rw [gm2 2 (by decide)]; exact (ss2 a9 (po_r l1 h9).1).2.1, trivial⟩
  have hT2 : TP y2 L t := hTT2.c (fm2 182 (by decide)) (fm2 183 (by decide))
  have rF2 := fnx_b rF1 (po_b (t := t) (v := v) (w := 1) hT.1 l1)
  refine eg_iload_n dX3_readNomination_71 rfl ?_
  refine eg_if_eq 107 dX3_readNomination_72 ⟨by omega, by omega⟩ rfl (fun h72 => ?_) (fun h72 => absurd h72 (by omega))
  refine eg_al_n dX3_readNomination_107 rfl rfl ?_
  refine eg_iconst dX3_readNomination_108 ?_
  refine eg_sipush dX3_readNomination_109 (by decide) ?_
  refine eg_Vr2 cs_X3_100 dX3_readNomination_112 (c_rn (lo := 0) (hi := 9999) hT2 l2 p2 e2 rF2 ⟨by decide, by decide⟩ ⟨by omega, by omega⟩) (by first | exact er181 | exact er182 | exact er183 | exact ep0 hb | exact ep1 hb | exact ep3 hb | exact ep5 hb | exact ep7 hb) rfl (Nat.le_of_ble_eq_true rfl) (by decide) ?_
  rintro r3 y3 ⟨q3, f3, w3, ⟨j3, l3, p3⟩, e3, s3⟩
  have hT3 : TP y3 L t := hT2.c (f3 182 (by decide)) (f3 183 (by decide))
  have rF3 := fnx_b rF2 (ft_b (t := t) (lo := 0) (hi := 9999) hT.1 l2)
  refine eg_istore dX3_readNomination_115 rfl rfl rfl ?_
  refine eg_al_n dX3_readNomination_117 rfl rfl ?_
  refine eg_get fl_X3_35 dX3_readNomination_118 (by first | exact er181 | exact er182 | exact er183 | exact ep0 hb | exact ep1 hb | exact ep3 hb | exact ep5 hb | exact ep7 hb) rfl ?_
  refine eg_eqI e3 ?_
  refine eg_if_ne 139 dX3_readNomination_121 ⟨by omega, by omega⟩ rfl (fun h121 => ?_) (fun h121 => ?_)
  · refine eg_return dX3_readNomination_139 rfl ?_
    have eS : fnx (if decide (16 ≤ v 3) = true then fnx F (8 * (wa : Int) + 3) else F) (ftR (noR L t i v true false)) = fnx (fnx (fnx ((if decide (16 ≤ v 3) = true then fnx F (8 * (wa : Int) + 3) else F)) (ftR (nmR L t i 0 (v 2 - 1)))) (ftR (poR L t j1 v 1))) (ftR (nmR L t j2 0 9999)) := by
      unfold noR
      cases hx1 : nmR L t i 0 (v 2 - 1) with
      | inl e =>
        have ne := nm_ne e hx1
        rw [bd_l, ft_l, ft_l, fnx_k ne, fnx_k ne]
      | inr a1 =>
        have k1 : j1 = a1.1 := by have := (s1 a1 hx1).2.1; omega
        subst k1
        rw [bd_r, ft_r, fnx_z]
        rw [if_pos rfl]
        cases hx2 : poR L t a1.1 v 1 with
        | inl e =>
          have ne := po_ne e hx2
          rw [bd_l, ft_l, ft_l, fnx_k ne]
        | inr a2 =>
          have k2 : j2 = a2.1 := by have := (s2 a2 hx2).2.1; omega
          subst k2
          rw [bd_r, ft_r, fnx_z]
          rw [if_neg (show ¬ (false = true) by decide), bd_r]
          dsimp only
          cases hx3 : nmR L t a2.1 0 9999 with
          | inl e =>
            have ne := nm_ne e hx3
            rw [bd_l, ft_l, ft_l]
          | inr a3 =>
            have k3 : j3 = a3.1 := by have := (s3 a3 hx3).2.1; omega
            subst k3
            rw [bd_r, ft_r, ft_r]
    have eS2 : fnx F (ftR (fuX (decide (16 ≤ v 3)) wa (noR L t i v true false))) = fnx (if decide (16 ≤ v 3) = true then fnx F (8 * (wa : Int) + 3) else F) (ftR (noR L t i v true false)) := by
      by_cases hf9 : decide (16 ≤ v 3) = true
      · unfold fuX; rw [if_pos hf9, if_pos hf9, ft_l, fnx_k (by omega)]
      · unfold fuX; rw [if_neg hf9, if_neg hf9]
    refine ⟨rfl, rfl, y3, rfl, ⟨j3, l3, p3⟩, by rw [eS2, eS]; exact e3, fun c9 h9 _ => (fun c9 h9 => ((((f3 c9 h9).trans (f2 c9 h9)).trans (f1 c9 h9))).trans (f0 c9 h9)) c9 h9, fun _ => fun c9 h9 => ((((f3 c9 h9).trans (f2 c9 h9)).trans (f1 c9 h9))).trans (f0 c9 h9), (fun c9 h9 => ((((f3 c9 h9).trans (f2 c9 h9)).trans (f1 c9 h9))).trans (f0 c9 h9)) 193 (by decide), fun a9 hF0 h8 => ?_⟩
    have e9 : fnx F (ftR (fuX (decide (16 ≤ v 3)) wa (noR L t i v true false))) = 0 := by rw [h8, hF0]; rfl
    exact absurd ((eS2.trans eS).symm.trans e9) h121
  · obtain ⟨F20, A3, h3⟩ := fx_0 nm_ne h121
    obtain ⟨F10, A2, h2⟩ := fx_0 po_ne F20
    obtain ⟨F00, A1, h1⟩ := fx_0 nm_ne F10
    obtain ⟨v1, u1, -⟩ := s1 A1 h1
    obtain ⟨v2, u2, -⟩ := s2 A2 h2
    obtain ⟨v3, u3, -⟩ := s3 A3 h3
    have b1 := nmR_r hi9 h1
    have b2 := (po_r l1 h2).2
    have b3 := nmR_r l2 h3
    have nf : ¬ decide (16 ≤ v 3) = true := fun hh => by rw [if_pos hh] at F00; have := (fx_0 (x := (.inl (8 * (wa : Int) + 3) : Int ⊕ Nat)) (fun e he => by injection he with he; omega) F00).2; obtain ⟨a9, ha9⟩ := this; cases ha9
    rw [if_neg nf] at F00
    have full9 : v 3 < 16 := by
      by_cases x9 : 16 ≤ v 3
      · exact absurd (decide_eq_true x9) nf
      · omega
    have frn : ∀ c, c ≠ 181 → y3 c = z c := fun c9 h9 => ((((f3 c9 h9).trans (f2 c9 h9)).trans (f1 c9 h9))).trans (f0 c9 h9)
    have hpn : hP y3 184 v := hP_k (fun j hj => frn _ (by omega)) hp
    refine eg_al_n dX3_readNomination_124 rfl rfl ?_
    refine eg_get fl_X3_21 dX3_readNomination_125 (by first | exact er181 | exact er182 | exact er183 | exact ep0 hb | exact ep1 hb | exact ep3 hb | exact ep5 hb | exact ep7 hb) rfl ?_
    refine eg_iload_n dX3_readNomination_128 rfl ?_
    refine eg_iload dX3_readNomination_129 rfl ?_
    refine eg_iload dX3_readNomination_131 rfl ?_
    refine eg_iload dX3_readNomination_133 rfl ?_
    refine eg_Vpf4 cs_X3_173 dX3_readNomination_135 (c_addNom hb hpn hv (by omega)) (by first | exact er181 | exact er182 | exact er183 | exact ep0 hb | exact ep1 hb | exact ep3 hb | exact ep5 hb | exact ep7 hb) rfl (Nat.le_of_ble_eq_true rfl) (by decide) ?_
    rintro y9 ⟨m9, o9, hp9⟩
    refine eg_pop dX3_readNomination_138 rfl ?_
    refine eg_return dX3_readNomination_139 rfl ?_
    have k1 : j1 = A1.1 := by omega
    have k2 : j2 = A2.1 := by omega
    subst k1; subst k2
    have eR : (fuX (decide (16 ≤ v 3)) wa (noR L t i v true false)) = .inr (A3.1, addV v r1 r2 (-1) r3) := by
      unfold fuX
      rw [if_neg nf]
      unfold noR
      rw [h1, bd_r]
      rw [if_pos rfl, h2, bd_r]
      rw [if_neg (show ¬ (false = true) by decide), bd_r]
      dsimp only
      rw [h3, bd_r, ← v1, ← v2, ← v3]
    have e181 : y9 181 = y3 181 := m9 181 (by decide) (by decide)
    refine ⟨rfl, rfl, y9, rfl, ⟨A3.1, b3.1, by rw [e181]; exact u3⟩, by rw [e181, e3, h121, eR, F00]; rfl, fun c9 h9 h8 => (m9 c9 (by omega) (by omega)).trans (frn c9 h9), fun hh => absurd (by rw [e181, e3]; exact h121) hh, (m9 193 (by decide) (by decide)).trans (frn 193 (by decide)), fun a9 _ h8 => ?_⟩
    rw [eR] at h8; injection h8 with h8; subst h8; exact ⟨by rw [e181]; exact u3, hp9⟩
theorem c_readNomL {k : eg_K} {z : eg_Z} {X : eg_M} {n : Nat} {L : Nat} {t : Nat → Int} (hT : TP z L t) {v : eg_v} {i : Nat} {F : Int} (hp : hP z 184 v) (ht : tv v) (hi9 : i ≤ L) (hat : z 181 2 = (i : Int)) (hF : z 181 5 = F) (rF : 0 ≤ F ∧ F ≤ 4000) {wa : Nat} (hw : z 181 3 = (wa : Int)) (hwa : wa ≤ 400) : eg_P k gX3_readNomination 3 0 0 [vR k 181, vI 0, vI 1] n (enc k z X) (eg_p k none n X (fun z' => (∃ j : Nat, j ≤ L ∧ z' 181 2 = (j : Int)) ∧ z' 181 5 = fnx F (ftR (fuX (decide (16 ≤ v 3)) wa (noR L t i v false true))) ∧ (∀ c, c ≠ 181 → (c < 184 ∨ 196 ≤ c) → z' c = z c) ∧ (z' 181 5 ≠ 0 → ∀ c, c ≠ 181 → z' c = z c) ∧ z' 193 = z 193 ∧ ∀ a, F = 0 → (fuX (decide (16 ≤ v 3)) wa (noR L t i v false true)) = .inr a → z' 181 2 = (a.1 : Int) ∧ hP z' 184 a.2)) := by
  refine eg_P.of (by decide) (Nat.le_of_ble_eq_true rfl) ?_
  show eg_E k gX3_readNomination 3 0 0 n (enc k z X) [vR k 181, vI 0, vI 1, vU, vU, vU, vU] [] 0 _
  have hb := isB_184
  have hv := ht.1
  have q := hv.r.2
  have v02 := ht.2.1
  have cnt9 := hp.2.1.2.2.2
  refine eg_al_n dX3_readNomination_0 rfl rfl ?_
  refine eg_al_n dX3_readNomination_1 rfl rfl ?_
  refine eg_get fl_X3_21 dX3_readNomination_2 (by first | exact er181 | exact er182 | exact er183 | exact ep0 hb | exact ep1 hb | exact ep3 hb | exact ep5 hb | exact ep7 hb) rfl ?_
  refine eg_get fl_X3_164 dX3_readNomination_5 (by first | exact er181 | exact er182 | exact er183 | exact ep0 hb | exact ep1 hb | exact ep3 hb | exact ep5 hb | exact ep7 hb) rfl ?_
  refine eg_Vpv1 cs_X3_157 dX3_readNomination_8 (c_failIfFull (full := decide (16 ≤ v 3)) (ep7 hb) (by have s9 := c_isFull (k := k) (X := X) (n := n) hb hp hv; rw [bi_d]; exact s9) hF rF hw) (by first | exact er181 | exact er182 | exact er183 | exact ep0 hb | exact ep1 hb | exact ep3 hb | exact ep5 hb | exact ep7 hb) rfl (Nat.le_of_ble_eq_true rfl) (by decide) ?_
  rintro y0 ⟨f0, g0, e0⟩
  have hT0 : TP y0 L t := hT.c (f0 182 (by decide)) (f0 183 (by decide))
  have p0 : y0 181 2 = (i : Int) := by rw [g0 2 (by decide)]; exact hat
  have rF0 : 0 ≤ (if decide (16 ≤ v 3) = true then fnx F (8 * (wa : Int) + 3) else F) ∧ (if decide (16 ≤ v 3) = true then fnx F (8 * (wa : Int) + 3) else F) ≤ 4000 := by split; exact fnx_b rF (by omega); exact rF
  refine eg_al_n dX3_readNomination_11 rfl rfl ?_
  refine eg_iconst dX3_readNomination_12 ?_
  refine eg_al_n dX3_readNomination_13 rfl rfl ?_
  refine eg_get fl_X3_21 dX3_readNomination_14 (by first | exact er181 | exact er182 | exact er183 | exact ep0 hb | exact ep1 hb | exact ep3 hb | exact ep5 hb | exact ep7 hb) rfl ?_
  refine eg_get fl_X3_161 dX3_readNomination_17 (by first | exact er181 | exact er182 | exact er183 | exact ep0 hb | exact ep1 hb | exact ep3 hb | exact ep5 hb | exact ep7 hb) rfl ?_
  refine eg_get fl_X3_151 dX3_readNomination_20 (by first | exact er181 | exact er182 | exact er183 | exact ep0 hb | exact ep1 hb | exact ep3 hb | exact ep5 hb | exact ep7 hb) rfl ?_
  refine eg_eqI (y := v 2) (by rw [f0 (184 + 5) (by decide)]; exact hp.2.1.2.2.1) ?_
  refine eg_iconst dX3_readNomination_23 ?_
  refine eg_isub dX3_readNomination_24 ?_
  refine eg_Vr2 cs_X3_100 dX3_readNomination_25 (c_rn (lo := 0) (hi := (v 2 - 1)) hT0 hi9 p0 e0 rF0 ⟨by decide, by decide⟩ ⟨by omega, by omega⟩) (by first | exact er181 | exact er182 | exact er183 | exact ep0 hb | exact ep1 hb | exact ep3 hb | exact ep5 hb | exact ep7 hb) rfl (Nat.le_of_ble_eq_true rfl) (by decide) ?_
  rintro r1 y1 ⟨q1, f1, w1, ⟨j1, l1, p1⟩, e1, s1⟩
  have hT1 : TP y1 L t := hT0.c (f1 182 (by decide)) (f1 183 (by decide))
  have rF1 := fnx_b rF0 (ft_b (t := t) (lo := 0) (hi := (v 2 - 1)) hT.1 hi9)
  refine eg_istore_n dX3_readNomination_28 rfl rfl rfl ?_
  refine eg_iconst dX3_readNomination_29 ?_
  refine eg_istore dX3_readNomination_30 rfl rfl rfl ?_
  refine eg_iconst dX3_readNomination_32 ?_
  refine eg_istore dX3_readNomination_33 rfl rfl rfl ?_
  refine eg_iload_n dX3_readNomination_35 rfl ?_
  refine eg_if_eq 71 dX3_readNomination_36 ⟨by omega, by omega⟩ rfl (fun h36 => ?_) (fun h36 => absurd h36 (by omega))
  refine eg_iload_n dX3_readNomination_71 rfl ?_
  refine eg_if_eq 107 dX3_readNomination_72 ⟨by omega, by omega⟩ rfl (fun h72 => absurd h72 (by omega)) (fun h72 => ?_)
  refine eg_al_n dX3_readNomination_75 rfl rfl ?_
  refine eg_iconst dX3_readNomination_76 ?_
  refine eg_al_n dX3_readNomination_77 rfl rfl ?_
  refine eg_get fl_X3_21 dX3_readNomination_78 (by first | exact er181 | exact er182 | exact er183 | exact ep0 hb | exact ep1 hb | exact ep3 hb | exact ep5 hb | exact ep7 hb) rfl ?_
  refine eg_get fl_X3_154 dX3_readNomination_81 (by first | exact er181 | exact er182 | exact er183 | exact ep0 hb | exact ep1 hb | exact ep3 hb | exact ep5 hb | exact ep7 hb) rfl ?_
  refine eg_get fl_X3_151 dX3_readNomination_84 (by first | exact er181 | exact er182 | exact er183 | exact ep0 hb | exact ep1 hb | exact ep3 hb | exact ep5 hb | exact ep7 hb) rfl ?_
  refine eg_eqI (y := v 1) (by rw [(fun c9 h9 => ((f1 c9 h9)).trans (f0 c9 h9)) (184 + 3) (by decide)]; exact hp.2.1.2.1) ?_
  refine eg_iconst dX3_readNomination_87 ?_
  refine eg_isub dX3_readNomination_88 ?_
  refine eg_Vr2 cs_X3_100 dX3_readNomination_89 (c_rn (lo := 0) (hi := (v 1 - 1)) hT1 l1 p1 e1 rF1 ⟨by decide, by decide⟩ ⟨by omega, by omega⟩) (by first | exact er181 | exact er182 | exact er183 | exact ep0 hb | exact ep1 hb | exact ep3 hb | exact ep5 hb | exact ep7 hb) rfl (Nat.le_of_ble_eq_true rfl) (by decide) ?_
  rintro r2 yy2 ⟨q2, ff2, ww2, ⟨j2, l2, pp2⟩, ee2, ss2⟩
  have hTT2 : TP yy2 L t := hT1.c (ff2 182 (by decide)) (ff2 183 (by decide))
  have rr2 := fnx_b rF1 (ft_b (t := t) (lo := 0) (hi := v 1 - 1) hT.1 l1)
  have hpp2 : hP yy2 184 v := hP_k (fun j hj => ((ff2 _ (by omega)).trans ((fun c9 h9 => ((f1 c9 h9)).trans (f0 c9 h9)) _ (by omega)))) hp
  refine eg_istore dX3_readNomination_92 rfl rfl rfl ?_
  refine eg_al_n dX3_readNomination_94 rfl rfl ?_
  refine eg_al_n dX3_readNomination_95 rfl rfl ?_
  refine eg_get fl_X3_21 dX3_readNomination_96 (by first | exact er181 | exact er182 | exact er183 | exact ep0 hb | exact ep1 hb | exact ep3 hb | exact ep5 hb | exact ep7 hb) rfl ?_
  refine eg_iload dX3_readNomination_99 rfl ?_
  refine eg_Vf1 cs_X3_170 dX3_readNomination_101 (c_X2_isOut hb hpp2 hv q2) (by first | exact er181 | exact er182 | exact er183 | exact ep0 hb | exact ep1 hb | exact ep3 hb | exact ep5 hb | exact ep7 hb) rfl (Nat.le_of_ble_eq_true rfl) (by decide) ?_
  refine eg_Vpv1 cs_X3_87 dX3_readNomination_104 (c_mustBe (p := yy2 181 4) ee2 ⟨by omega, by omega⟩ rfl bi_z) (by first | exact er181 | exact er182 | exact er183 | exact ep0 hb | exact ep1 hb | exact ep3 hb | exact ep5 hb | exact ep7 hb) rfl (Nat.le_of_ble_eq_true rfl) (by decide) ?_
  rintro y2 ⟨fm2, gm2, em2⟩
  have f2 : ∀ c, c ≠ 181 → y2 c = y1 c := fun c9 h9 => (fm2 c9 h9).trans (ff2 c9 h9)
  have p2 : y2 181 2 = (j2 : Int) := by rw [gm2 2 (by decide)]; exact pp2
  have e2 : y2 181 5 = fnx (fnx ((if decide (16 ≤ v 3) = true then fnx F (8 * (wa : Int) + 3) else F)) (ftR (nmR L t i 0 (v 2 - 1)))) (ftR (poR L t j1 v 0)) := by rw [em2]; exact po_e l1 (fun a9 h9 => ⟨(ss2 a9 h9).1, (ss2 a9 h9).2.2⟩)
  have s2 : ∀ a, poR L t j1 v 0 = .inr a → r2 = a.2 ∧ y2 181 2 = (a.1 : Int) ∧ True := fun a9 h9 => ⟨(ss2 a9 (po_r l1 h9).1).1, by rw [gm2 2 (by decide)]; exact (ss2 a9 (po_r l1 h9).1).2.1, trivial⟩
  have hT2 : TP y2 L t := hTT2.c (fm2 182 (by decide)) (fm2 183 (by decide))
  have rF2 := fnx_b rF1 (po_b (t := t) (v := v) (w := 0) hT.1 l1)
  refine eg_al_n dX3_readNomination_107 rfl rfl ?_
  refine eg_iconst dX3_readNomination_108 ?_
  refine eg_sipush dX3_readNomination_109 (by decide) ?_
  refine eg_Vr2 cs_X3_100 dX3_readNomination_112 (c_rn (lo := 0) (hi := 9999) hT2 l2 p2 e2 rF2 ⟨by decide, by decide⟩ ⟨by omega, by omega⟩) (by first | exact er181 | exact er182 | exact er183 | exact ep0 hb | exact ep1 hb | exact ep3 hb | exact ep5 hb | exact ep7 hb) rfl (Nat.le_of_ble_eq_true rfl) (by decide) ?_
  rintro r3 y3 ⟨q3, f3, w3, ⟨j3, l3, p3⟩, e3, s3⟩
  have hT3 : TP y3 L t := hT2.c (f3 182 (by decide)) (f3 183 (by decide))
  have rF3 := fnx_b rF2 (ft_b (t := t) (lo := 0) (hi := 9999) hT.1 l2)
  refine eg_istore dX3_readNomination_115 rfl rfl rfl ?_
  refine eg_al_n dX3_readNomination_117 rfl rfl ?_
  refine eg_get fl_X3_35 dX3_readNomination_118 (by first | exact er181 | exact er182 | exact er183 | exact ep0 hb | exact ep1 hb | exact ep3 hb | exact ep5 hb | exact ep7 hb) rfl ?_
  refine eg_eqI e3 ?_
  refine eg_if_ne 139 dX3_readNomination_121 ⟨by omega, by omega⟩ rfl (fun h121 => ?_) (fun h121 => ?_)
  · refine eg_return dX3_readNomination_139 rfl ?_
    have eS : fnx (if decide (16 ≤ v 3) = true then fnx F (8 * (wa : Int) + 3) else F) (ftR (noR L t i v false true)) = fnx (fnx (fnx ((if decide (16 ≤ v 3) = true then fnx F (8 * (wa : Int) + 3) else F)) (ftR (nmR L t i 0 (v 2 - 1)))) (ftR (poR L t j1 v 0))) (ftR (nmR L t j2 0 9999)) := by
      unfold noR
      cases hx1 : nmR L t i 0 (v 2 - 1) with
      | inl e =>
        have ne := nm_ne e hx1
        rw [bd_l, ft_l, ft_l, fnx_k ne, fnx_k ne]
      | inr a1 =>
        have k1 : j1 = a1.1 := by have := (s1 a1 hx1).2.1; omega
        subst k1
        rw [bd_r, ft_r, fnx_z]
        rw [if_neg (show ¬ (false = true) by decide), bd_r]
        dsimp only
        rw [if_pos rfl]
        cases hx2 : poR L t a1.1 v 0 with
        | inl e =>
          have ne := po_ne e hx2
          rw [bd_l, ft_l, ft_l, fnx_k ne]
        | inr a2 =>
          have k2 : j2 = a2.1 := by have := (s2 a2 hx2).2.1; omega
          subst k2
          rw [bd_r, ft_r, fnx_z]
          cases hx3 : nmR L t a2.1 0 9999 with
          | inl e =>
            have ne := nm_ne e hx3
            rw [bd_l, ft_l, ft_l]
          | inr a3 =>
            have k3 : j3 = a3.1 := by have := (s3 a3 hx3).2.1; omega
            subst k3
            rw [bd_r, ft_r, ft_r]
    have eS2 : fnx F (ftR (fuX (decide (16 ≤ v 3)) wa (noR L t i v false true))) = fnx (if decide (16 ≤ v 3) = true then fnx F (8 * (wa : Int) + 3) else F) (ftR (noR L t i v false true)) := by
      by_cases hf9 : decide (16 ≤ v 3) = true
      · unfold fuX; rw [if_pos hf9, if_pos hf9, ft_l, fnx_k (by omega)]
      · unfold fuX; rw [if_neg hf9, if_neg hf9]
    refine ⟨rfl, rfl, y3, rfl, ⟨j3, l3, p3⟩, by rw [eS2, eS]; exact e3, fun c9 h9 _ => (fun c9 h9 => ((((f3 c9 h9).trans (f2 c9 h9)).trans (f1 c9 h9))).trans (f0 c9 h9)) c9 h9, fun _ => fun c9 h9 => ((((f3 c9 h9).trans (f2 c9 h9)).trans (f1 c9 h9))).trans (f0 c9 h9), (fun c9 h9 => ((((f3 c9 h9).trans (f2 c9 h9)).trans (f1 c9 h9))).trans (f0 c9 h9)) 193 (by decide), fun a9 hF0 h8 => ?_⟩
    have e9 : fnx F (ftR (fuX (decide (16 ≤ v 3)) wa (noR L t i v false true))) = 0 := by rw [h8, hF0]; rfl
    exact absurd ((eS2.trans eS).symm.trans e9) h121
  · obtain ⟨F20, A3, h3⟩ := fx_0 nm_ne h121
    obtain ⟨F10, A2, h2⟩ := fx_0 po_ne F20
    obtain ⟨F00, A1, h1⟩ := fx_0 nm_ne F10
    obtain ⟨v1, u1, -⟩ := s1 A1 h1
    obtain ⟨v2, u2, -⟩ := s2 A2 h2
    obtain ⟨v3, u3, -⟩ := s3 A3 h3
    have b1 := nmR_r hi9 h1
    have b2 := (po_r l1 h2).2
    have b3 := nmR_r l2 h3
    have nf : ¬ decide (16 ≤ v 3) = true := fun hh => by rw [if_pos hh] at F00; have := (fx_0 (x := (.inl (8 * (wa : Int) + 3) : Int ⊕ Nat)) (fun e he => by injection he with he; omega) F00).2; obtain ⟨a9, ha9⟩ := this; cases ha9
    rw [if_neg nf] at F00
    have full9 : v 3 < 16 := by
      by_cases x9 : 16 ≤ v 3
      · exact absurd (decide_eq_true x9) nf
      · omega
    have frn : ∀ c, c ≠ 181 → y3 c = z c := fun c9 h9 => ((((f3 c9 h9).trans (f2 c9 h9)).trans (f1 c9 h9))).trans (f0 c9 h9)
    have hpn : hP y3 184 v := hP_k (fun j hj => frn _ (by omega)) hp
    refine eg_al_n dX3_readNomination_124 rfl rfl ?_
    refine eg_get fl_X3_21 dX3_readNomination_125 (by first | exact er181 | exact er182 | exact er183 | exact ep0 hb | exact ep1 hb | exact ep3 hb | exact ep5 hb | exact ep7 hb) rfl ?_
    refine eg_iload_n dX3_readNomination_128 rfl ?_
    refine eg_iload dX3_readNomination_129 rfl ?_
    refine eg_iload dX3_readNomination_131 rfl ?_
    refine eg_iload dX3_readNomination_133 rfl ?_
    refine eg_Vpf4 cs_X3_173 dX3_readNomination_135 (c_addNom hb hpn hv (by omega)) (by first | exact er181 | exact er182 | exact er183 | exact ep0 hb | exact ep1 hb | exact ep3 hb | exact ep5 hb | exact ep7 hb) rfl (Nat.le_of_ble_eq_true rfl) (by decide) ?_
    rintro y9 ⟨m9, o9, hp9⟩
    refine eg_pop dX3_readNomination_138 rfl ?_
    refine eg_return dX3_readNomination_139 rfl ?_
    have k1 : j1 = A1.1 := by omega
    have k2 : j2 = A2.1 := by omega
    subst k1; subst k2
    have eR : (fuX (decide (16 ≤ v 3)) wa (noR L t i v false true)) = .inr (A3.1, addV v r1 (-1) r2 r3) := by
      unfold fuX
      rw [if_neg nf]
      unfold noR
      rw [h1, bd_r]
      rw [if_neg (show ¬ (false = true) by decide), bd_r]
      dsimp only
      rw [if_pos rfl, h2, bd_r]
      rw [h3, bd_r, ← v1, ← v2, ← v3]
    have e181 : y9 181 = y3 181 := m9 181 (by decide) (by decide)
    refine ⟨rfl, rfl, y9, rfl, ⟨A3.1, b3.1, by rw [e181]; exact u3⟩, by rw [e181, e3, h121, eR, F00]; rfl, fun c9 h9 h8 => (m9 c9 (by omega) (by omega)).trans (frn c9 h9), fun hh => absurd (by rw [e181, e3]; exact h121) hh, (m9 193 (by decide) (by decide)).trans (frn 193 (by decide)), fun a9 _ h8 => ?_⟩
    rw [eR] at h8; injection h8 with h8; subst h8; exact ⟨by rw [e181]; exact u3, hp9⟩
