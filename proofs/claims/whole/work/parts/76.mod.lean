theorem c_readsPointOf {k : eg_K} {z : eg_Z} {X : eg_M} {n : Nat} {L : Nat} {t : Nat → Int} (hT : TM z L t) {v : eg_v} {i : Nat} {F : Int} (hR : hr z v) (ht : tv v) (hi9 : i ≤ L) (hat : z 202 9 = (i : Int)) (hF : z 202 10 = mf F) (rF : 0 ≤ F ∧ F ≤ 4000) {w : Int} (hw : w = 0 ∨ w = 1) : eg_P k gX9_readsPointOf 3 0 0 [vR k 202, vI w] n (enc k z X) (eg_r k n X (fun r z' => iR r ∧ (∀ c, c ≠ 202 → z' c = z c) ∧ (∀ j, j ≠ 9 → j ≠ 10 → j ≠ 11 → z' 202 j = z 202 j) ∧ (∃ j : Nat, j ≤ L ∧ z' 202 9 = (j : Int)) ∧ z' 202 10 = mf (fnx F (ftR (poR L t i v w))) ∧ ∀ a, F = 0 → poR L t i v w = .inr a → r = a.2 ∧ z' 202 9 = (a.1 : Int) ∧ True)) := by
  refine eg_P.of (by decide) (Nat.le_of_ble_eq_true rfl) ?_
  show eg_E k gX9_readsPointOf 3 0 0 n (enc k z X) [vR k 202, vI w, vU] [] 0 _
  have hv := ht.1
  have q := hv.r.2
  have v02 := ht.2.1
  have L4 := hT.1
  refine eg_al_n dX9_readsPointOf_0 rfl rfl ?_
  refine eg_iconst dX9_readsPointOf_1 ?_
  refine eg_al_n dX9_readsPointOf_2 rfl rfl ?_
  refine eg_get fl_X9_13 dX9_readsPointOf_3 (by first | exact er202 | exact er203 | exact er204 | exact er205 | exact er206 | exact er207 | exact er208 | exact er209 | exact er210 | exact er211 | exact er212 | exact er213 | exact er214 | exact er215) rfl ?_
  refine eg_iconst dX9_readsPointOf_6 ?_
  refine eg_hrdL dX9_readsPointOf_7 hR (by omega) (by omega) ?_
  refine eg_eqL (y := v 1) rfl ?_
  refine eg_l2i dX9_readsPointOf_8 ?_
  refine eg_iconst dX9_readsPointOf_9 ?_
  refine eg_isub dX9_readsPointOf_10 ?_
  refine eg_Vr2 cs_X9_112 dX9_readsPointOf_11 (c_mn (lo := 0) (hi := (v 1 - 1)) hT hi9 hat hF rF ⟨by decide, by decide⟩ ⟨by omega, by omega⟩) (by first | exact er202 | exact er203 | exact er204 | exact er205 | exact er206 | exact er207 | exact er208 | exact er209 | exact er210 | exact er211 | exact er212 | exact er213 | exact er214 | exact er215) rfl (Nat.le_of_ble_eq_true rfl) (by decide) ?_
  rintro r1 y1 ⟨q1, f1, g1, ⟨j1, l1, p1⟩, e1, s1⟩
  have hT1 : TM y1 L t := hT.c (g1 8 (by decide) (by decide) (by decide)) (f1 209 (by decide))
  have rF1 := fnx_b rF (ft_b (t := t) (lo := 0) (hi := (v 1 - 1)) hT.1 hi9)
  refine eg_istore_n dX9_readsPointOf_14 rfl rfl rfl ?_
  refine eg_al_n dX9_readsPointOf_15 rfl rfl ?_
  refine eg_Vf0 cs_X9_70 dX9_readsPointOf_16 (c_isRight e1 rF1) (by first | exact er202 | exact er203 | exact er204 | exact er205 | exact er206 | exact er207 | exact er208 | exact er209 | exact er210 | exact er211 | exact er212 | exact er213 | exact er214 | exact er215) rfl (Nat.le_of_ble_eq_true rfl) (by decide) ?_
  refine eg_bi_eq 53 dX9_readsPointOf_19 rfl (fun h19 => ?_) (fun h19 => ?_)
  · refine eg_iload_n dX9_readsPointOf_53 rfl ?_
    refine eg_ireturn dX9_readsPointOf_54 rfl rfl ?_
    have eS : fnx F (ftR (poR L t i v w)) = fnx F (ftR (nmR L t i 0 (v 1 - 1))) := by
      by_cases f9 : F = 0
      · cases hx : nmR L t i 0 (v 1 - 1) with
        | inl e => unfold poR; rw [hx, bd_l]
        | inr a => rw [hx, ft_r, f9] at h19; exact absurd rfl h19
      · rw [fnx_n f9, fnx_n f9]
    refine ⟨r1, y1, rfl, rfl, rfl, q1, f1, g1, ⟨j1, l1, p1⟩, by rw [eS]; exact e1, fun a9 hF0 h9 => ?_⟩
    rw [h9, hF0, ft_r] at eS
    rw [hF0] at h19
    exact absurd eS.symm h19
  · obtain ⟨F00, A1, h1⟩ := fx_0 nm_ne h19
    obtain ⟨v1, u1, n1⟩ := s1 A1 F00 h1
    have b1 := nmR_r hi9 h1
    have hR : hr y1 v := hr_c (f1 204 (by decide)) hR
    have op := hv.P (p := r1) (by omega) (by omega)
    unfold okP at op
    refine eg_al_n dX9_readsPointOf_22 rfl rfl ?_
    refine eg_get fl_X9_13 dX9_readsPointOf_23 (by first | exact er202 | exact er203 | exact er204 | exact er205 | exact er206 | exact er207 | exact er208 | exact er209 | exact er210 | exact er211 | exact er212 | exact er213 | exact er214 | exact er215) rfl ?_
    refine eg_bipush dX9_readsPointOf_26 (by decide) ?_
    refine eg_iconst dX9_readsPointOf_28 ?_
    refine eg_iload_n dX9_readsPointOf_29 rfl ?_
    refine eg_imul dX9_readsPointOf_30 ?_
    refine eg_iadd dX9_readsPointOf_31 ?_
    refine eg_iconst dX9_readsPointOf_32 ?_
    refine eg_iadd dX9_readsPointOf_33 ?_
    refine eg_hrdL dX9_readsPointOf_34 hR (by omega) (by omega) ?_
    refine eg_eqL (y := gP v r1 1) rfl ?_
    refine eg_iload_n dX9_readsPointOf_35 rfl ?_
    refine eg_Sf1 cs_X9_118 dX9_readsPointOf_36 (c_truth hw) (Nat.le_of_ble_eq_true rfl) (by decide) ?_
    refine eg_i2l dX9_readsPointOf_39 ⟨by omega, by omega⟩ ?_
    refine eg_lc_eq 53 dX9_readsPointOf_40 dX9_readsPointOf_41 ⟨by omega, by omega⟩ ⟨by omega, by omega⟩ rfl (fun h40 => ?_) (fun h40 => ?_)
    · refine eg_iload_n dX9_readsPointOf_53 rfl ?_
      refine eg_ireturn dX9_readsPointOf_54 rfl rfl ?_
      have eR : poR L t i v w = .inr A1 := by unfold poR; rw [h1, bd_r, ← v1, if_pos (by omega)]
      refine ⟨r1, y1, rfl, rfl, rfl, q1, f1, g1, ⟨A1.1, b1.1, u1⟩, by rw [e1, h19, eR, ft_r, F00]; rfl, fun a9 _ h9 => ?_⟩
      rw [eR] at h9; injection h9 with h9; subst h9; exact ⟨v1, u1, trivial⟩
    · refine eg_al_n dX9_readsPointOf_44 rfl rfl ?_
      refine eg_iconst dX9_readsPointOf_45 ?_
      refine eg_al_n dX9_readsPointOf_46 rfl rfl ?_
      refine eg_get fl_X9_102 dX9_readsPointOf_47 (by first | exact er202 | exact er203 | exact er204 | exact er205 | exact er206 | exact er207 | exact er208 | exact er209 | exact er210 | exact er211 | exact er212 | exact er213 | exact er214 | exact er215) rfl ?_
      refine eg_eqI n1 ?_
      refine eg_Vpv2 cs_X9_98 dX9_readsPointOf_50 (c_fails e1 rF1 (by omega)) (by first | exact er202 | exact er203 | exact er204 | exact er205 | exact er206 | exact er207 | exact er208 | exact er209 | exact er210 | exact er211 | exact er212 | exact er213 | exact er214 | exact er215) rfl (Nat.le_of_ble_eq_true rfl) (by decide) ?_
      rintro y2 ⟨f2, g2, e2⟩
      refine eg_iload_n dX9_readsPointOf_53 rfl ?_
      refine eg_ireturn dX9_readsPointOf_54 rfl rfl ?_
      have eR : poR L t i v w = .inl (8 * (sk L t i : Int) + 2) := by unfold poR; rw [h1, bd_r, ← v1, if_neg (by omega)]
      refine ⟨r1, y2, rfl, rfl, rfl, q1, fun c9 h9 => (f2 c9 h9).trans (f1 c9 h9), fun c9 x9 x10 x11 => (g2 c9 x10).trans (g1 c9 x9 x10 x11), ⟨A1.1, b1.1, by rw [g2 9 (by decide)]; exact u1⟩, by rw [e2, h19, eR, ft_l, F00], fun a9 _ h9 => ?_⟩
      rw [eR] at h9; cases h9
theorem c_readsNomA {k : eg_K} {z : eg_Z} {X : eg_M} {n : Nat} {L : Nat} {t : Nat → Int} (hT : TM z L t) {v : eg_v} {i : Nat} (hR : hr z v) (ht : tv v) (hi9 : i ≤ L) (hat : z 202 9 = (i : Int)) (hF : z 202 10 = mf 0) (h3 : v 3 < 16) : eg_P k gX9_readsNomination 4 0 0 [vR k 202, vI 1, vI 1] n (enc k z X) (eg_p k none n X (fun z' => (∃ j : Nat, j ≤ L ∧ z' 202 9 = (j : Int)) ∧ z' 202 10 = mf (ftR (noR L t i v true true)) ∧ (∀ c, c ≠ 202 → c ≠ 204 → z' c = z c) ∧ (∀ j, j ≠ 9 → j ≠ 10 → j ≠ 11 → z' 202 j = z 202 j) ∧ ∀ a, (noR L t i v true true) = .inr a → z' 202 9 = (a.1 : Int) ∧ hr z' a.2)) := by
  refine eg_P.of (by decide) (Nat.le_of_ble_eq_true rfl) ?_
  show eg_E k gX9_readsNomination 4 0 0 n (enc k z X) [vR k 202, vI 1, vI 1, vU, vU, vU, vU, vU] [] 0 _
  have hv := ht.1
  have q := hv.r.2
  have v02 := ht.2.1
  have L4 := hT.1
  have rF : (0 : Int) ≤ 0 ∧ (0 : Int) ≤ 4000 := by omega
  refine eg_al_n dX9_readsNomination_0 rfl rfl ?_
  refine eg_iconst dX9_readsNomination_1 ?_
  refine eg_al_n dX9_readsNomination_2 rfl rfl ?_
  refine eg_get fl_X9_13 dX9_readsNomination_3 (by first | exact er202 | exact er203 | exact er204 | exact er205 | exact er206 | exact er207 | exact er208 | exact er209 | exact er210 | exact er211 | exact er212 | exact er213 | exact er214 | exact er215) rfl ?_
  refine eg_iconst dX9_readsNomination_6 ?_
  refine eg_hrdL dX9_readsNomination_7 hR (by omega) (by omega) ?_
  refine eg_eqL (y := v 2) rfl ?_
  refine eg_l2i dX9_readsNomination_8 ?_
  refine eg_iconst dX9_readsNomination_9 ?_
  refine eg_isub dX9_readsNomination_10 ?_
  refine eg_Vr2 cs_X9_112 dX9_readsNomination_11 (c_mn (lo := 0) (hi := (v 2 - 1)) hT hi9 hat hF rF ⟨by decide, by decide⟩ ⟨by omega, by omega⟩) (by first | exact er202 | exact er203 | exact er204 | exact er205 | exact er206 | exact er207 | exact er208 | exact er209 | exact er210 | exact er211 | exact er212 | exact er213 | exact er214 | exact er215) rfl (Nat.le_of_ble_eq_true rfl) (by decide) ?_
  rintro r1 y1 ⟨q1, f1, g1, ⟨j1, l1, p1⟩, e1, s1⟩
  have hT1 : TM y1 L t := hT.c (g1 8 (by decide) (by decide) (by decide)) (f1 209 (by decide))
  have rF1 := fnx_b rF (ft_b (t := t) (lo := 0) (hi := (v 2 - 1)) hT.1 hi9)
  refine eg_istore_n dX9_readsNomination_14 rfl rfl rfl ?_
  refine eg_iload_n dX9_readsNomination_15 rfl ?_
  refine eg_if_eq 27 dX9_readsNomination_16 ⟨by omega, by omega⟩ rfl (fun h16 => absurd h16 (by omega)) (fun h16 => ?_)
  refine eg_al_n dX9_readsNomination_19 rfl rfl ?_
  refine eg_iconst dX9_readsNomination_20 ?_
  refine eg_Vr1 cs_X9_122 dX9_readsNomination_21 (c_readsPointOf (w := 1) (v := v) hT1 (hr_c ((fun c9 h9 => (f1 c9 h9)) 204 (by decide)) hR) ht l1 p1 e1 rF1 (by omega)) (by first | exact er202 | exact er203 | exact er204 | exact er205 | exact er206 | exact er207 | exact er208 | exact er209 | exact er210 | exact er211 | exact er212 | exact er213 | exact er214 | exact er215) rfl (Nat.le_of_ble_eq_true rfl) (by decide) ?_
  rintro r2 y2 ⟨q2, f2, g2, ⟨j2, l2, p2⟩, e2, s2⟩
  have hT2 : TM y2 L t := hT1.c (g2 8 (by decide) (by decide) (by decide)) (f2 209 (by decide))
  have rF2 := fnx_b rF1 (po_b (t := t) (v := v) (w := 1) hT.1 l1)
  refine eg_goto 28 dX9_readsNomination_24 rfl ?_
  refine eg_istore dX9_readsNomination_28 rfl rfl rfl ?_
  refine eg_iload_n dX9_readsNomination_30 rfl ?_
  refine eg_if_eq 42 dX9_readsNomination_31 ⟨by omega, by omega⟩ rfl (fun h31 => absurd h31 (by omega)) (fun h31 => ?_)
  refine eg_al_n dX9_readsNomination_34 rfl rfl ?_
  refine eg_iconst dX9_readsNomination_35 ?_
  refine eg_Vr1 cs_X9_122 dX9_readsNomination_36 (c_readsPointOf (w := 0) (v := v) hT2 (hr_c ((fun c9 h9 => ((f2 c9 h9).trans (f1 c9 h9))) 204 (by decide)) hR) ht l2 p2 e2 rF2 (by omega)) (by first | exact er202 | exact er203 | exact er204 | exact er205 | exact er206 | exact er207 | exact er208 | exact er209 | exact er210 | exact er211 | exact er212 | exact er213 | exact er214 | exact er215) rfl (Nat.le_of_ble_eq_true rfl) (by decide) ?_
  rintro r3 y3 ⟨q3, f3, g3, ⟨j3, l3, p3⟩, e3, s3⟩
  have hT3 : TM y3 L t := hT2.c (g3 8 (by decide) (by decide) (by decide)) (f3 209 (by decide))
  have rF3 := fnx_b rF2 (po_b (t := t) (v := v) (w := 0) hT.1 l2)
  refine eg_goto 43 dX9_readsNomination_39 rfl ?_
  refine eg_istore dX9_readsNomination_43 rfl rfl rfl ?_
  refine eg_al_n dX9_readsNomination_45 rfl rfl ?_
  refine eg_Vr0 cs_X9_115 dX9_readsNomination_46 (c_most hT3 l3 p3 e3 rF3) (by first | exact er202 | exact er203 | exact er204 | exact er205 | exact er206 | exact er207 | exact er208 | exact er209 | exact er210 | exact er211 | exact er212 | exact er213 | exact er214 | exact er215) rfl (Nat.le_of_ble_eq_true rfl) (by decide) ?_
  rintro r4 y4 ⟨q4, f4, g4, ⟨j4, l4, p4⟩, e4, s4⟩
  have hT4 : TM y4 L t := hT3.c (g4 8 (by decide) (by decide) (by decide)) (f4 209 (by decide))
  have rF4 := fnx_b rF3 (ft_b (t := t) (lo := 0) (hi := 9999) hT.1 l3)
  refine eg_istore dX9_readsNomination_49 rfl rfl rfl ?_
  refine eg_al_n dX9_readsNomination_51 rfl rfl ?_
  refine eg_Vf0 cs_X9_70 dX9_readsNomination_52 (c_isRight e4 rF4) (by first | exact er202 | exact er203 | exact er204 | exact er205 | exact er206 | exact er207 | exact er208 | exact er209 | exact er210 | exact er211 | exact er212 | exact er213 | exact er214 | exact er215) rfl (Nat.le_of_ble_eq_true rfl) (by decide) ?_
  refine eg_bi_ne 59 dX9_readsNomination_55 rfl (fun h55 => ?_) (fun h55 => ?_)
  · obtain ⟨F30, A4, h4⟩ := fx_0 nm_ne h55
    obtain ⟨F20, A3, h3⟩ := fx_0 po_ne F30
    obtain ⟨F10, A2, h2⟩ := fx_0 po_ne F20
    obtain ⟨F00, A1, h1⟩ := fx_0 nm_ne F10
    obtain ⟨v1, u1, -⟩ := s1 A1 F00 h1
    obtain ⟨v2, u2, -⟩ := s2 A2 F10 h2
    obtain ⟨v3, u3, -⟩ := s3 A3 F20 h3
    obtain ⟨v4, u4, -⟩ := s4 A4 F30 h4
    have b1 := nmR_r hi9 h1
    have b2 := (po_r l1 h2).2
    have b3 := (po_r l2 h3).2
    have b4 := nmR_r l3 h4
    have frn : ∀ c, c ≠ 202 → y4 c = z c := fun c9 h9 => ((((f4 c9 h9).trans (f3 c9 h9)).trans (f2 c9 h9)).trans (f1 c9 h9))
    have grn : ∀ j, j ≠ 9 → j ≠ 10 → j ≠ 11 → y4 202 j = z 202 j := fun c9 x9 x10 x11 => ((((g4 c9 x9 x10 x11).trans (g3 c9 x9 x10 x11)).trans (g2 c9 x9 x10 x11)).trans (g1 c9 x9 x10 x11))
    have hR : hr y4 v := hr_c (frn 204 (by decide)) hR
    have hF : ∀ c, c ≠ 204 → y4 c = y4 c := fun _ _ => rfl
    refine eg_bipush dX9_readsNomination_59 (by decide) ?_
    refine eg_iconst dX9_readsNomination_61 ?_
    refine eg_al_n dX9_readsNomination_62 rfl rfl ?_
    refine eg_get fl_X9_13 dX9_readsNomination_63 (by first | exact er202 | exact er203 | exact er204 | exact er205 | exact er206 | exact er207 | exact er208 | exact er209 | exact er210 | exact er211 | exact er212 | exact er213 | exact er214 | exact er215) rfl ?_
    refine eg_iconst dX9_readsNomination_66 ?_
    refine eg_hrdL dX9_readsNomination_67 hR (by omega) (by omega) ?_
    refine eg_eqL (y := v 3) rfl ?_
    refine eg_l2i dX9_readsNomination_68 ?_
    refine eg_imul dX9_readsNomination_69 ?_
    refine eg_iadd dX9_readsNomination_70 ?_
    refine eg_istore dX9_readsNomination_71 rfl rfl rfl ?_
    refine eg_al_n dX9_readsNomination_73 rfl rfl ?_
    refine eg_get fl_X9_13 dX9_readsNomination_74 (by first | exact er202 | exact er203 | exact er204 | exact er205 | exact er206 | exact er207 | exact er208 | exact er209 | exact er210 | exact er211 | exact er212 | exact er213 | exact er214 | exact er215) rfl ?_
    refine eg_iload dX9_readsNomination_77 rfl ?_
    refine eg_iload_n dX9_readsNomination_79 rfl ?_
    refine eg_i2l dX9_readsNomination_80 ⟨by omega, by omega⟩ ?_
    refine eg_hrdS dX9_readsNomination_81 hR (by omega) (by omega) (fun y f1 hR => ?_)
    have hF := fun c hc => (f1 c hc).trans (hF c hc)
    refine eg_al_n dX9_readsNomination_82 rfl rfl ?_
    refine eg_get fl_X9_13 dX9_readsNomination_83 (by first | exact er202 | exact er203 | exact er204 | exact er205 | exact er206 | exact er207 | exact er208 | exact er209 | exact er210 | exact er211 | exact er212 | exact er213 | exact er214 | exact er215) rfl ?_
    refine eg_iload dX9_readsNomination_86 rfl ?_
    refine eg_iconst dX9_readsNomination_88 ?_
    refine eg_iadd dX9_readsNomination_89 ?_
    refine eg_iload dX9_readsNomination_90 rfl ?_
    refine eg_i2l dX9_readsNomination_92 ⟨by omega, by omega⟩ ?_
    refine eg_hrdS dX9_readsNomination_93 hR (by omega) (by omega) (fun y f1 hR => ?_)
    have hF := fun c hc => (f1 c hc).trans (hF c hc)
    refine eg_al_n dX9_readsNomination_94 rfl rfl ?_
    refine eg_get fl_X9_13 dX9_readsNomination_95 (by first | exact er202 | exact er203 | exact er204 | exact er205 | exact er206 | exact er207 | exact er208 | exact er209 | exact er210 | exact er211 | exact er212 | exact er213 | exact er214 | exact er215) rfl ?_
    refine eg_iload dX9_readsNomination_98 rfl ?_
    refine eg_iconst dX9_readsNomination_100 ?_
    refine eg_iadd dX9_readsNomination_101 ?_
    refine eg_iload dX9_readsNomination_102 rfl ?_
    refine eg_i2l dX9_readsNomination_104 ⟨by omega, by omega⟩ ?_
    refine eg_hrdS dX9_readsNomination_105 hR (by omega) (by omega) (fun y f1 hR => ?_)
    have hF := fun c hc => (f1 c hc).trans (hF c hc)
    refine eg_al_n dX9_readsNomination_106 rfl rfl ?_
    refine eg_get fl_X9_13 dX9_readsNomination_107 (by first | exact er202 | exact er203 | exact er204 | exact er205 | exact er206 | exact er207 | exact er208 | exact er209 | exact er210 | exact er211 | exact er212 | exact er213 | exact er214 | exact er215) rfl ?_
    refine eg_iload dX9_readsNomination_110 rfl ?_
    refine eg_iconst dX9_readsNomination_112 ?_
    refine eg_iadd dX9_readsNomination_113 ?_
    refine eg_iload dX9_readsNomination_114 rfl ?_
    refine eg_i2l dX9_readsNomination_116 ⟨by omega, by omega⟩ ?_
    refine eg_hrdS dX9_readsNomination_117 hR (by omega) (by omega) (fun y f1 hR => ?_)
    have hF := fun c hc => (f1 c hc).trans (hF c hc)
    refine eg_al_n dX9_readsNomination_118 rfl rfl ?_
    refine eg_get fl_X9_13 dX9_readsNomination_119 (by first | exact er202 | exact er203 | exact er204 | exact er205 | exact er206 | exact er207 | exact er208 | exact er209 | exact er210 | exact er211 | exact er212 | exact er213 | exact er214 | exact er215) rfl ?_
    refine eg_iconst dX9_readsNomination_122 ?_
    refine eg_dup2 dX9_readsNomination_123 rfl rfl ?_
    refine eg_hrdL dX9_readsNomination_124 hR (by omega) (by omega) ?_
    refine eg_eqL (y := v 3) (by rw [va_up_n _ _ (by omega), va_up_n _ _ (by omega), va_up_n _ _ (by omega), va_up_n _ _ (by omega)]; rfl) ?_
    refine eg_lk1 dX9_readsNomination_125 ?_
    refine eg_ladd dX9_readsNomination_126 ?_
    refine eg_hrdS dX9_readsNomination_127 hR (by omega) (by omega) (fun y f1 hR => ?_)
    have hF := fun c hc => (f1 c hc).trans (hF c hc)
    refine eg_return dX9_readsNomination_128 rfl ?_
    have k1 : j1 = A1.1 := by omega
    have k2 : j2 = A2.1 := by omega
    have k3 : j3 = A3.1 := by omega
    subst k1; subst k2; subst k3
    have eR : noR L t i v true true = .inr (A4.1, addV v r1 r2 r3 r4) := by
      unfold noR
      rw [h1, bd_r]
      rw [if_pos rfl, h2, bd_r]
      rw [if_pos rfl, h3, bd_r]
      rw [h4, bd_r, ← v1, ← v2, ← v3, ← v4]
    unfold addV at eR
    rw [Int.add_zero] at eR
    have e202 : y 202 = y4 202 := hF 202 (by decide)
    refine ⟨rfl, rfl, y, rfl, ⟨A4.1, b4.1, by rw [e202]; exact u4⟩, by rw [e202, e4, h55, eR, ft_r], fun c9 h9 h8 => (hF c9 h8).trans (frn c9 h9), fun c9 x9 x10 x11 => by rw [e202]; exact grn c9 x9 x10 x11, fun a9 h8 => ?_⟩
    rw [eR] at h8; injection h8 with h8; subst h8; exact ⟨by rw [e202]; exact u4, hR⟩
  · refine eg_return dX9_readsNomination_58 rfl ?_
    have eS : fnx 0 (ftR (noR L t i v true true)) = fnx (fnx (fnx (fnx (0) (ftR (nmR L t i 0 (v 2 - 1)))) (ftR (poR L t j1 v 1))) (ftR (poR L t j2 v 0))) (ftR (nmR L t j3 0 9999)) := by
      unfold noR
      cases hx1 : nmR L t i 0 (v 2 - 1) with
      | inl e =>
        have ne := nm_ne e hx1
        rw [bd_l, ft_l, ft_l, fnx_k ne, fnx_k ne, fnx_k ne]
      | inr a1 =>
        have k1 : j1 = a1.1 := by have := (s1 a1 rfl hx1).2.1; omega
        subst k1
        rw [bd_r, ft_r, fnx_z]
        rw [if_pos rfl]
        cases hx2 : poR L t a1.1 v 1 with
        | inl e =>
          have ne := po_ne e hx2
          rw [bd_l, ft_l, ft_l, fnx_k ne, fnx_k ne]
        | inr a2 =>
          have k2 : j2 = a2.1 := by have := (s2 a2 (by rw [hx1]; rfl) hx2).2.1; omega
          subst k2
          rw [bd_r, ft_r, fnx_z]
          rw [if_pos rfl]
          cases hx3 : poR L t a2.1 v 0 with
          | inl e =>
            have ne := po_ne e hx3
            rw [bd_l, ft_l, ft_l, fnx_k ne]
          | inr a3 =>
            have k3 : j3 = a3.1 := by have := (s3 a3 (by rw [hx1, hx2]; rfl) hx3).2.1; omega
            subst k3
            rw [bd_r, ft_r, fnx_z]
            cases hx4 : nmR L t a3.1 0 9999 with
            | inl e =>
              have ne := nm_ne e hx4
              rw [bd_l, ft_l, ft_l]
            | inr a4 =>
              have k4 : j4 = a4.1 := by have := (s4 a4 (by rw [hx1, hx2, hx3]; rfl) hx4).2.1; omega
              subst k4
              rw [bd_r, ft_r, ft_r]
    rw [fnx_0] at eS
    refine ⟨rfl, rfl, y4, rfl, ⟨j4, l4, p4⟩, by rw [eS]; exact e4, fun c9 h9 _ => (fun c9 h9 => ((((f4 c9 h9).trans (f3 c9 h9)).trans (f2 c9 h9)).trans (f1 c9 h9))) c9 h9, fun c9 x9 x10 x11 => ((((g4 c9 x9 x10 x11).trans (g3 c9 x9 x10 x11)).trans (g2 c9 x9 x10 x11)).trans (g1 c9 x9 x10 x11)), fun a9 h8 => ?_⟩
    rw [h8, ft_r] at eS
    exact absurd eS.symm h55
theorem c_readsNomP {k : eg_K} {z : eg_Z} {X : eg_M} {n : Nat} {L : Nat} {t : Nat → Int} (hT : TM z L t) {v : eg_v} {i : Nat} (hR : hr z v) (ht : tv v) (hi9 : i ≤ L) (hat : z 202 9 = (i : Int)) (hF : z 202 10 = mf 0) (h3 : v 3 < 16) : eg_P k gX9_readsNomination 4 0 0 [vR k 202, vI 1, vI 0] n (enc k z X) (eg_p k none n X (fun z' => (∃ j : Nat, j ≤ L ∧ z' 202 9 = (j : Int)) ∧ z' 202 10 = mf (ftR (noR L t i v true false)) ∧ (∀ c, c ≠ 202 → c ≠ 204 → z' c = z c) ∧ (∀ j, j ≠ 9 → j ≠ 10 → j ≠ 11 → z' 202 j = z 202 j) ∧ ∀ a, (noR L t i v true false) = .inr a → z' 202 9 = (a.1 : Int) ∧ hr z' a.2)) := by
  refine eg_P.of (by decide) (Nat.le_of_ble_eq_true rfl) ?_
  show eg_E k gX9_readsNomination 4 0 0 n (enc k z X) [vR k 202, vI 1, vI 0, vU, vU, vU, vU, vU] [] 0 _
  have hv := ht.1
  have q := hv.r.2
  have v02 := ht.2.1
  have L4 := hT.1
  have rF : (0 : Int) ≤ 0 ∧ (0 : Int) ≤ 4000 := by omega
  refine eg_al_n dX9_readsNomination_0 rfl rfl ?_
  refine eg_iconst dX9_readsNomination_1 ?_
  refine eg_al_n dX9_readsNomination_2 rfl rfl ?_
  refine eg_get fl_X9_13 dX9_readsNomination_3 (by first | exact er202 | exact er203 | exact er204 | exact er205 | exact er206 | exact er207 | exact er208 | exact er209 | exact er210 | exact er211 | exact er212 | exact er213 | exact er214 | exact er215) rfl ?_
  refine eg_iconst dX9_readsNomination_6 ?_
  refine eg_hrdL dX9_readsNomination_7 hR (by omega) (by omega) ?_
  refine eg_eqL (y := v 2) rfl ?_
  refine eg_l2i dX9_readsNomination_8 ?_
  refine eg_iconst dX9_readsNomination_9 ?_
  refine eg_isub dX9_readsNomination_10 ?_
  refine eg_Vr2 cs_X9_112 dX9_readsNomination_11 (c_mn (lo := 0) (hi := (v 2 - 1)) hT hi9 hat hF rF ⟨by decide, by decide⟩ ⟨by omega, by omega⟩) (by first | exact er202 | exact er203 | exact er204 | exact er205 | exact er206 | exact er207 | exact er208 | exact er209 | exact er210 | exact er211 | exact er212 | exact er213 | exact er214 | exact er215) rfl (Nat.le_of_ble_eq_true rfl) (by decide) ?_
  rintro r1 y1 ⟨q1, f1, g1, ⟨j1, l1, p1⟩, e1, s1⟩
  have hT1 : TM y1 L t := hT.c (g1 8 (by decide) (by decide) (by decide)) (f1 209 (by decide))
  have rF1 := fnx_b rF (ft_b (t := t) (lo := 0) (hi := (v 2 - 1)) hT.1 hi9)
  refine eg_istore_n dX9_readsNomination_14 rfl rfl rfl ?_
  refine eg_iload_n dX9_readsNomination_15 rfl ?_
  refine eg_if_eq 27 dX9_readsNomination_16 ⟨by omega, by omega⟩ rfl (fun h16 => absurd h16 (by omega)) (fun h16 => ?_)
  refine eg_al_n dX9_readsNomination_19 rfl rfl ?_
  refine eg_iconst dX9_readsNomination_20 ?_
  refine eg_Vr1 cs_X9_122 dX9_readsNomination_21 (c_readsPointOf (w := 1) (v := v) hT1 (hr_c ((fun c9 h9 => (f1 c9 h9)) 204 (by decide)) hR) ht l1 p1 e1 rF1 (by omega)) (by first | exact er202 | exact er203 | exact er204 | exact er205 | exact er206 | exact er207 | exact er208 | exact er209 | exact er210 | exact er211 | exact er212 | exact er213 | exact er214 | exact er215) rfl (Nat.le_of_ble_eq_true rfl) (by decide) ?_
  rintro r2 y2 ⟨q2, f2, g2, ⟨j2, l2, p2⟩, e2, s2⟩
  have hT2 : TM y2 L t := hT1.c (g2 8 (by decide) (by decide) (by decide)) (f2 209 (by decide))
  have rF2 := fnx_b rF1 (po_b (t := t) (v := v) (w := 1) hT.1 l1)
  refine eg_goto 28 dX9_readsNomination_24 rfl ?_
  refine eg_istore dX9_readsNomination_28 rfl rfl rfl ?_
  refine eg_iload_n dX9_readsNomination_30 rfl ?_
  refine eg_if_eq 42 dX9_readsNomination_31 ⟨by omega, by omega⟩ rfl (fun h31 => ?_) (fun h31 => absurd h31 (by omega))
  refine eg_iconst dX9_readsNomination_42 ?_
  refine eg_istore dX9_readsNomination_43 rfl rfl rfl ?_
  refine eg_al_n dX9_readsNomination_45 rfl rfl ?_
  refine eg_Vr0 cs_X9_115 dX9_readsNomination_46 (c_most hT2 l2 p2 e2 rF2) (by first | exact er202 | exact er203 | exact er204 | exact er205 | exact er206 | exact er207 | exact er208 | exact er209 | exact er210 | exact er211 | exact er212 | exact er213 | exact er214 | exact er215) rfl (Nat.le_of_ble_eq_true rfl) (by decide) ?_
  rintro r3 y3 ⟨q3, f3, g3, ⟨j3, l3, p3⟩, e3, s3⟩
  have hT3 : TM y3 L t := hT2.c (g3 8 (by decide) (by decide) (by decide)) (f3 209 (by decide))
  have rF3 := fnx_b rF2 (ft_b (t := t) (lo := 0) (hi := 9999) hT.1 l2)
  refine eg_istore dX9_readsNomination_49 rfl rfl rfl ?_
  refine eg_al_n dX9_readsNomination_51 rfl rfl ?_
  refine eg_Vf0 cs_X9_70 dX9_readsNomination_52 (c_isRight e3 rF3) (by first | exact er202 | exact er203 | exact er204 | exact er205 | exact er206 | exact er207 | exact er208 | exact er209 | exact er210 | exact er211 | exact er212 | exact er213 | exact er214 | exact er215) rfl (Nat.le_of_ble_eq_true rfl) (by decide) ?_
  refine eg_bi_ne 59 dX9_readsNomination_55 rfl (fun h55 => ?_) (fun h55 => ?_)
  · obtain ⟨F20, A3, h3⟩ := fx_0 nm_ne h55
    obtain ⟨F10, A2, h2⟩ := fx_0 po_ne F20
    obtain ⟨F00, A1, h1⟩ := fx_0 nm_ne F10
    obtain ⟨v1, u1, -⟩ := s1 A1 F00 h1
    obtain ⟨v2, u2, -⟩ := s2 A2 F10 h2
    obtain ⟨v3, u3, -⟩ := s3 A3 F20 h3
    have b1 := nmR_r hi9 h1
    have b2 := (po_r l1 h2).2
    have b3 := nmR_r l2 h3
    have frn : ∀ c, c ≠ 202 → y3 c = z c := fun c9 h9 => (((f3 c9 h9).trans (f2 c9 h9)).trans (f1 c9 h9))
    have grn : ∀ j, j ≠ 9 → j ≠ 10 → j ≠ 11 → y3 202 j = z 202 j := fun c9 x9 x10 x11 => (((g3 c9 x9 x10 x11).trans (g2 c9 x9 x10 x11)).trans (g1 c9 x9 x10 x11))
    have hR : hr y3 v := hr_c (frn 204 (by decide)) hR
    have hF : ∀ c, c ≠ 204 → y3 c = y3 c := fun _ _ => rfl
    refine eg_bipush dX9_readsNomination_59 (by decide) ?_
    refine eg_iconst dX9_readsNomination_61 ?_
    refine eg_al_n dX9_readsNomination_62 rfl rfl ?_
    refine eg_get fl_X9_13 dX9_readsNomination_63 (by first | exact er202 | exact er203 | exact er204 | exact er205 | exact er206 | exact er207 | exact er208 | exact er209 | exact er210 | exact er211 | exact er212 | exact er213 | exact er214 | exact er215) rfl ?_
    refine eg_iconst dX9_readsNomination_66 ?_
    refine eg_hrdL dX9_readsNomination_67 hR (by omega) (by omega) ?_
    refine eg_eqL (y := v 3) rfl ?_
    refine eg_l2i dX9_readsNomination_68 ?_
    refine eg_imul dX9_readsNomination_69 ?_
    refine eg_iadd dX9_readsNomination_70 ?_
    refine eg_istore dX9_readsNomination_71 rfl rfl rfl ?_
    refine eg_al_n dX9_readsNomination_73 rfl rfl ?_
    refine eg_get fl_X9_13 dX9_readsNomination_74 (by first | exact er202 | exact er203 | exact er204 | exact er205 | exact er206 | exact er207 | exact er208 | exact er209 | exact er210 | exact er211 | exact er212 | exact er213 | exact er214 | exact er215) rfl ?_
    refine eg_iload dX9_readsNomination_77 rfl ?_
    refine eg_iload_n dX9_readsNomination_79 rfl ?_
    refine eg_i2l dX9_readsNomination_80 ⟨by omega, by omega⟩ ?_
    refine eg_hrdS dX9_readsNomination_81 hR (by omega) (by omega) (fun y f1 hR => ?_)
    have hF := fun c hc => (f1 c hc).trans (hF c hc)
    refine eg_al_n dX9_readsNomination_82 rfl rfl ?_
    refine eg_get fl_X9_13 dX9_readsNomination_83 (by first | exact er202 | exact er203 | exact er204 | exact er205 | exact er206 | exact er207 | exact er208 | exact er209 | exact er210 | exact er211 | exact er212 | exact er213 | exact er214 | exact er215) rfl ?_
    refine eg_iload dX9_readsNomination_86 rfl ?_
    refine eg_iconst dX9_readsNomination_88 ?_
    refine eg_iadd dX9_readsNomination_89 ?_
    refine eg_iload dX9_readsNomination_90 rfl ?_
    refine eg_i2l dX9_readsNomination_92 ⟨by omega, by omega⟩ ?_
    refine eg_hrdS dX9_readsNomination_93 hR (by omega) (by omega) (fun y f1 hR => ?_)
    have hF := fun c hc => (f1 c hc).trans (hF c hc)
    refine eg_al_n dX9_readsNomination_94 rfl rfl ?_
    refine eg_get fl_X9_13 dX9_readsNomination_95 (by first | exact er202 | exact er203 | exact er204 | exact er205 | exact er206 | exact er207 | exact er208 | exact er209 | exact er210 | exact er211 | exact er212 | exact er213 | exact er214 | exact er215) rfl ?_
    refine eg_iload dX9_readsNomination_98 rfl ?_
    refine eg_iconst dX9_readsNomination_100 ?_
    refine eg_iadd dX9_readsNomination_101 ?_
    refine eg_iload dX9_readsNomination_102 rfl ?_
    refine eg_i2l dX9_readsNomination_104 ⟨by omega, by omega⟩ ?_
    refine eg_hrdS dX9_readsNomination_105 hR (by omega) (by omega) (fun y f1 hR => ?_)
    have hF := fun c hc => (f1 c hc).trans (hF c hc)
    refine eg_al_n dX9_readsNomination_106 rfl rfl ?_
    refine eg_get fl_X9_13 dX9_readsNomination_107 (by first | exact er202 | exact er203 | exact er204 | exact er205 | exact er206 | exact er207 | exact er208 | exact er209 | exact er210 | exact er211 | exact er212 | exact er213 | exact er214 | exact er215) rfl ?_
    refine eg_iload dX9_readsNomination_110 rfl ?_
    refine eg_iconst dX9_readsNomination_112 ?_
    refine eg_iadd dX9_readsNomination_113 ?_
    refine eg_iload dX9_readsNomination_114 rfl ?_
    refine eg_i2l dX9_readsNomination_116 ⟨by omega, by omega⟩ ?_
    refine eg_hrdS dX9_readsNomination_117 hR (by omega) (by omega) (fun y f1 hR => ?_)
    have hF := fun c hc => (f1 c hc).trans (hF c hc)
    refine eg_al_n dX9_readsNomination_118 rfl rfl ?_
    refine eg_get fl_X9_13 dX9_readsNomination_119 (by first | exact er202 | exact er203 | exact er204 | exact er205 | exact er206 | exact er207 | exact er208 | exact er209 | exact er210 | exact er211 | exact er212 | exact er213 | exact er214 | exact er215) rfl ?_
    refine eg_iconst dX9_readsNomination_122 ?_
    refine eg_dup2 dX9_readsNomination_123 rfl rfl ?_
    refine eg_hrdL dX9_readsNomination_124 hR (by omega) (by omega) ?_
    refine eg_eqL (y := v 3) (by rw [va_up_n _ _ (by omega), va_up_n _ _ (by omega), va_up_n _ _ (by omega), va_up_n _ _ (by omega)]; rfl) ?_
    refine eg_lk1 dX9_readsNomination_125 ?_
    refine eg_ladd dX9_readsNomination_126 ?_
    refine eg_hrdS dX9_readsNomination_127 hR (by omega) (by omega) (fun y f1 hR => ?_)
    have hF := fun c hc => (f1 c hc).trans (hF c hc)
    refine eg_return dX9_readsNomination_128 rfl ?_
    have k1 : j1 = A1.1 := by omega
    have k2 : j2 = A2.1 := by omega
    subst k1; subst k2
    have eR : noR L t i v true false = .inr (A3.1, addV v r1 r2 (-1) r3) := by
      unfold noR
      rw [h1, bd_r]
      rw [if_pos rfl, h2, bd_r]
      rw [if_neg (show ¬ (false = true) by decide), bd_r]
      dsimp only
      rw [h3, bd_r, ← v1, ← v2, ← v3]
    unfold addV at eR
    rw [Int.add_zero] at eR
    have e202 : y 202 = y3 202 := hF 202 (by decide)
    refine ⟨rfl, rfl, y, rfl, ⟨A3.1, b3.1, by rw [e202]; exact u3⟩, by rw [e202, e3, h55, eR, ft_r], fun c9 h9 h8 => (hF c9 h8).trans (frn c9 h9), fun c9 x9 x10 x11 => by rw [e202]; exact grn c9 x9 x10 x11, fun a9 h8 => ?_⟩
    rw [eR] at h8; injection h8 with h8; subst h8; exact ⟨by rw [e202]; exact u3, hR⟩
  · refine eg_return dX9_readsNomination_58 rfl ?_
    have eS : fnx 0 (ftR (noR L t i v true false)) = fnx (fnx (fnx (0) (ftR (nmR L t i 0 (v 2 - 1)))) (ftR (poR L t j1 v 1))) (ftR (nmR L t j2 0 9999)) := by
      unfold noR
      cases hx1 : nmR L t i 0 (v 2 - 1) with
      | inl e =>
        have ne := nm_ne e hx1
        rw [bd_l, ft_l, ft_l, fnx_k ne, fnx_k ne]
      | inr a1 =>
        have k1 : j1 = a1.1 := by have := (s1 a1 rfl hx1).2.1; omega
        subst k1
        rw [bd_r, ft_r, fnx_z]
        rw [if_pos rfl]
        cases hx2 : poR L t a1.1 v 1 with
        | inl e =>
          have ne := po_ne e hx2
          rw [bd_l, ft_l, ft_l, fnx_k ne]
        | inr a2 =>
          have k2 : j2 = a2.1 := by have := (s2 a2 (by rw [hx1]; rfl) hx2).2.1; omega
          subst k2
          rw [bd_r, ft_r, fnx_z]
          rw [if_neg (show ¬ (false = true) by decide), bd_r]
          dsimp only
          cases hx3 : nmR L t a2.1 0 9999 with
          | inl e =>
            have ne := nm_ne e hx3
            rw [bd_l, ft_l, ft_l]
          | inr a3 =>
            have k3 : j3 = a3.1 := by have := (s3 a3 (by rw [hx1, hx2]; rfl) hx3).2.1; omega
            subst k3
            rw [bd_r, ft_r, ft_r]
    rw [fnx_0] at eS
    refine ⟨rfl, rfl, y3, rfl, ⟨j3, l3, p3⟩, by rw [eS]; exact e3, fun c9 h9 _ => (fun c9 h9 => (((f3 c9 h9).trans (f2 c9 h9)).trans (f1 c9 h9))) c9 h9, fun c9 x9 x10 x11 => (((g3 c9 x9 x10 x11).trans (g2 c9 x9 x10 x11)).trans (g1 c9 x9 x10 x11)), fun a9 h8 => ?_⟩
    rw [h8, ft_r] at eS
    exact absurd eS.symm h55
theorem c_readsNomL {k : eg_K} {z : eg_Z} {X : eg_M} {n : Nat} {L : Nat} {t : Nat → Int} (hT : TM z L t) {v : eg_v} {i : Nat} (hR : hr z v) (ht : tv v) (hi9 : i ≤ L) (hat : z 202 9 = (i : Int)) (hF : z 202 10 = mf 0) (h3 : v 3 < 16) : eg_P k gX9_readsNomination 4 0 0 [vR k 202, vI 0, vI 1] n (enc k z X) (eg_p k none n X (fun z' => (∃ j : Nat, j ≤ L ∧ z' 202 9 = (j : Int)) ∧ z' 202 10 = mf (ftR (noR L t i v false true)) ∧ (∀ c, c ≠ 202 → c ≠ 204 → z' c = z c) ∧ (∀ j, j ≠ 9 → j ≠ 10 → j ≠ 11 → z' 202 j = z 202 j) ∧ ∀ a, (noR L t i v false true) = .inr a → z' 202 9 = (a.1 : Int) ∧ hr z' a.2)) := by
  refine eg_P.of (by decide) (Nat.le_of_ble_eq_true rfl) ?_
  show eg_E k gX9_readsNomination 4 0 0 n (enc k z X) [vR k 202, vI 0, vI 1, vU, vU, vU, vU, vU] [] 0 _
  have hv := ht.1
  have q := hv.r.2
  have v02 := ht.2.1
  have L4 := hT.1
  have rF : (0 : Int) ≤ 0 ∧ (0 : Int) ≤ 4000 := by omega
  refine eg_al_n dX9_readsNomination_0 rfl rfl ?_
  refine eg_iconst dX9_readsNomination_1 ?_
  refine eg_al_n dX9_readsNomination_2 rfl rfl ?_
  refine eg_get fl_X9_13 dX9_readsNomination_3 (by first | exact er202 | exact er203 | exact er204 | exact er205 | exact er206 | exact er207 | exact er208 | exact er209 | exact er210 | exact er211 | exact er212 | exact er213 | exact er214 | exact er215) rfl ?_
  refine eg_iconst dX9_readsNomination_6 ?_
  refine eg_hrdL dX9_readsNomination_7 hR (by omega) (by omega) ?_
  refine eg_eqL (y := v 2) rfl ?_
  refine eg_l2i dX9_readsNomination_8 ?_
  refine eg_iconst dX9_readsNomination_9 ?_
  refine eg_isub dX9_readsNomination_10 ?_
  refine eg_Vr2 cs_X9_112 dX9_readsNomination_11 (c_mn (lo := 0) (hi := (v 2 - 1)) hT hi9 hat hF rF ⟨by decide, by decide⟩ ⟨by omega, by omega⟩) (by first | exact er202 | exact er203 | exact er204 | exact er205 | exact er206 | exact er207 | exact er208 | exact er209 | exact er210 | exact er211 | exact er212 | exact er213 | exact er214 | exact er215) rfl (Nat.le_of_ble_eq_true rfl) (by decide) ?_
  rintro r1 y1 ⟨q1, f1, g1, ⟨j1, l1, p1⟩, e1, s1⟩
  have hT1 : TM y1 L t := hT.c (g1 8 (by decide) (by decide) (by decide)) (f1 209 (by decide))
  have rF1 := fnx_b rF (ft_b (t := t) (lo := 0) (hi := (v 2 - 1)) hT.1 hi9)
  refine eg_istore_n dX9_readsNomination_14 rfl rfl rfl ?_
  refine eg_iload_n dX9_readsNomination_15 rfl ?_
  refine eg_if_eq 27 dX9_readsNomination_16 ⟨by omega, by omega⟩ rfl (fun h16 => ?_) (fun h16 => absurd h16 (by omega))
  refine eg_iconst dX9_readsNomination_27 ?_
  refine eg_istore dX9_readsNomination_28 rfl rfl rfl ?_
  refine eg_iload_n dX9_readsNomination_30 rfl ?_
  refine eg_if_eq 42 dX9_readsNomination_31 ⟨by omega, by omega⟩ rfl (fun h31 => absurd h31 (by omega)) (fun h31 => ?_)
  refine eg_al_n dX9_readsNomination_34 rfl rfl ?_
  refine eg_iconst dX9_readsNomination_35 ?_
  refine eg_Vr1 cs_X9_122 dX9_readsNomination_36 (c_readsPointOf (w := 0) (v := v) hT1 (hr_c ((fun c9 h9 => (f1 c9 h9)) 204 (by decide)) hR) ht l1 p1 e1 rF1 (by omega)) (by first | exact er202 | exact er203 | exact er204 | exact er205 | exact er206 | exact er207 | exact er208 | exact er209 | exact er210 | exact er211 | exact er212 | exact er213 | exact er214 | exact er215) rfl (Nat.le_of_ble_eq_true rfl) (by decide) ?_
  rintro r2 y2 ⟨q2, f2, g2, ⟨j2, l2, p2⟩, e2, s2⟩
  have hT2 : TM y2 L t := hT1.c (g2 8 (by decide) (by decide) (by decide)) (f2 209 (by decide))
  have rF2 := fnx_b rF1 (po_b (t := t) (v := v) (w := 0) hT.1 l1)
  refine eg_goto 43 dX9_readsNomination_39 rfl ?_
  refine eg_istore dX9_readsNomination_43 rfl rfl rfl ?_
  refine eg_al_n dX9_readsNomination_45 rfl rfl ?_
  refine eg_Vr0 cs_X9_115 dX9_readsNomination_46 (c_most hT2 l2 p2 e2 rF2) (by first | exact er202 | exact er203 | exact er204 | exact er205 | exact er206 | exact er207 | exact er208 | exact er209 | exact er210 | exact er211 | exact er212 | exact er213 | exact er214 | exact er215) rfl (Nat.le_of_ble_eq_true rfl) (by decide) ?_
  rintro r3 y3 ⟨q3, f3, g3, ⟨j3, l3, p3⟩, e3, s3⟩
  have hT3 : TM y3 L t := hT2.c (g3 8 (by decide) (by decide) (by decide)) (f3 209 (by decide))
  have rF3 := fnx_b rF2 (ft_b (t := t) (lo := 0) (hi := 9999) hT.1 l2)
  refine eg_istore dX9_readsNomination_49 rfl rfl rfl ?_
  refine eg_al_n dX9_readsNomination_51 rfl rfl ?_
  refine eg_Vf0 cs_X9_70 dX9_readsNomination_52 (c_isRight e3 rF3) (by first | exact er202 | exact er203 | exact er204 | exact er205 | exact er206 | exact er207 | exact er208 | exact er209 | exact er210 | exact er211 | exact er212 | exact er213 | exact er214 | exact er215) rfl (Nat.le_of_ble_eq_true rfl) (by decide) ?_
  refine eg_bi_ne 59 dX9_readsNomination_55 rfl (fun h55 => ?_) (fun h55 => ?_)
  · obtain ⟨F20, A3, h3⟩ := fx_0 nm_ne h55
    obtain ⟨F10, A2, h2⟩ := fx_0 po_ne F20
    obtain ⟨F00, A1, h1⟩ := fx_0 nm_ne F10
    obtain ⟨v1, u1, -⟩ := s1 A1 F00 h1
    obtain ⟨v2, u2, -⟩ := s2 A2 F10 h2
    obtain ⟨v3, u3, -⟩ := s3 A3 F20 h3
    have b1 := nmR_r hi9 h1
    have b2 := (po_r l1 h2).2
    have b3 := nmR_r l2 h3
    have frn : ∀ c, c ≠ 202 → y3 c = z c := fun c9 h9 => (((f3 c9 h9).trans (f2 c9 h9)).trans (f1 c9 h9))
    have grn : ∀ j, j ≠ 9 → j ≠ 10 → j ≠ 11 → y3 202 j = z 202 j := fun c9 x9 x10 x11 => (((g3 c9 x9 x10 x11).trans (g2 c9 x9 x10 x11)).trans (g1 c9 x9 x10 x11))
    have hR : hr y3 v := hr_c (frn 204 (by decide)) hR
    have hF : ∀ c, c ≠ 204 → y3 c = y3 c := fun _ _ => rfl
    refine eg_bipush dX9_readsNomination_59 (by decide) ?_
    refine eg_iconst dX9_readsNomination_61 ?_
    refine eg_al_n dX9_readsNomination_62 rfl rfl ?_
    refine eg_get fl_X9_13 dX9_readsNomination_63 (by first | exact er202 | exact er203 | exact er204 | exact er205 | exact er206 | exact er207 | exact er208 | exact er209 | exact er210 | exact er211 | exact er212 | exact er213 | exact er214 | exact er215) rfl ?_
    refine eg_iconst dX9_readsNomination_66 ?_
    refine eg_hrdL dX9_readsNomination_67 hR (by omega) (by omega) ?_
    refine eg_eqL (y := v 3) rfl ?_
    refine eg_l2i dX9_readsNomination_68 ?_
    refine eg_imul dX9_readsNomination_69 ?_
    refine eg_iadd dX9_readsNomination_70 ?_
    refine eg_istore dX9_readsNomination_71 rfl rfl rfl ?_
    refine eg_al_n dX9_readsNomination_73 rfl rfl ?_
    refine eg_get fl_X9_13 dX9_readsNomination_74 (by first | exact er202 | exact er203 | exact er204 | exact er205 | exact er206 | exact er207 | exact er208 | exact er209 | exact er210 | exact er211 | exact er212 | exact er213 | exact er214 | exact er215) rfl ?_
    refine eg_iload dX9_readsNomination_77 rfl ?_
    refine eg_iload_n dX9_readsNomination_79 rfl ?_
    refine eg_i2l dX9_readsNomination_80 ⟨by omega, by omega⟩ ?_
    refine eg_hrdS dX9_readsNomination_81 hR (by omega) (by omega) (fun y f1 hR => ?_)
    have hF := fun c hc => (f1 c hc).trans (hF c hc)
    refine eg_al_n dX9_readsNomination_82 rfl rfl ?_
    refine eg_get fl_X9_13 dX9_readsNomination_83 (by first | exact er202 | exact er203 | exact er204 | exact er205 | exact er206 | exact er207 | exact er208 | exact er209 | exact er210 | exact er211 | exact er212 | exact er213 | exact er214 | exact er215) rfl ?_
    refine eg_iload dX9_readsNomination_86 rfl ?_
    refine eg_iconst dX9_readsNomination_88 ?_
    refine eg_iadd dX9_readsNomination_89 ?_
    refine eg_iload dX9_readsNomination_90 rfl ?_
    refine eg_i2l dX9_readsNomination_92 ⟨by omega, by omega⟩ ?_
    refine eg_hrdS dX9_readsNomination_93 hR (by omega) (by omega) (fun y f1 hR => ?_)
    have hF := fun c hc => (f1 c hc).trans (hF c hc)
    refine eg_al_n dX9_readsNomination_94 rfl rfl ?_
    refine eg_get fl_X9_13 dX9_readsNomination_95 (by first | exact er202 | exact er203 | exact er204 | exact er205 | exact er206 | exact er207 | exact er208 | exact er209 | exact er210 | exact er211 | exact er212 | exact er213 | exact er214 | exact er215) rfl ?_
    refine eg_iload dX9_readsNomination_98 rfl ?_
    refine eg_iconst dX9_readsNomination_100 ?_
    refine eg_iadd dX9_readsNomination_101 ?_
    refine eg_iload dX9_readsNomination_102 rfl ?_
    refine eg_i2l dX9_readsNomination_104 ⟨by omega, by omega⟩ ?_
    refine eg_hrdS dX9_readsNomination_105 hR (by omega) (by omega) (fun y f1 hR => ?_)
    have hF := fun c hc => (f1 c hc).trans (hF c hc)
    refine eg_al_n dX9_readsNomination_106 rfl rfl ?_
    refine eg_get fl_X9_13 dX9_readsNomination_107 (by first | exact er202 | exact er203 | exact er204 | exact er205 | exact er206 | exact er207 | exact er208 | exact er209 | exact er210 | exact er211 | exact er212 | exact er213 | exact er214 | exact er215) rfl ?_
    refine eg_iload dX9_readsNomination_110 rfl ?_
    refine eg_iconst dX9_readsNomination_112 ?_
    refine eg_iadd dX9_readsNomination_113 ?_
    refine eg_iload dX9_readsNomination_114 rfl ?_
    refine eg_i2l dX9_readsNomination_116 ⟨by omega, by omega⟩ ?_
    refine eg_hrdS dX9_readsNomination_117 hR (by omega) (by omega) (fun y f1 hR => ?_)
    have hF := fun c hc => (f1 c hc).trans (hF c hc)
    refine eg_al_n dX9_readsNomination_118 rfl rfl ?_
    refine eg_get fl_X9_13 dX9_readsNomination_119 (by first | exact er202 | exact er203 | exact er204 | exact er205 | exact er206 | exact er207 | exact er208 | exact er209 | exact er210 | exact er211 | exact er212 | exact er213 | exact er214 | exact er215) rfl ?_
    refine eg_iconst dX9_readsNomination_122 ?_
    refine eg_dup2 dX9_readsNomination_123 rfl rfl ?_
    refine eg_hrdL dX9_readsNomination_124 hR (by omega) (by omega) ?_
    refine eg_eqL (y := v 3) (by rw [va_up_n _ _ (by omega), va_up_n _ _ (by omega), va_up_n _ _ (by omega), va_up_n _ _ (by omega)]; rfl) ?_
    refine eg_lk1 dX9_readsNomination_125 ?_
    refine eg_ladd dX9_readsNomination_126 ?_
    refine eg_hrdS dX9_readsNomination_127 hR (by omega) (by omega) (fun y f1 hR => ?_)
    have hF := fun c hc => (f1 c hc).trans (hF c hc)
    refine eg_return dX9_readsNomination_128 rfl ?_
    have k1 : j1 = A1.1 := by omega
    have k2 : j2 = A2.1 := by omega
    subst k1; subst k2
    have eR : noR L t i v false true = .inr (A3.1, addV v r1 (-1) r2 r3) := by
      unfold noR
      rw [h1, bd_r]
      rw [if_neg (show ¬ (false = true) by decide), bd_r]
      dsimp only
      rw [if_pos rfl, h2, bd_r]
      rw [h3, bd_r, ← v1, ← v2, ← v3]
    unfold addV at eR
    rw [Int.add_zero] at eR
    have e202 : y 202 = y3 202 := hF 202 (by decide)
    refine ⟨rfl, rfl, y, rfl, ⟨A3.1, b3.1, by rw [e202]; exact u3⟩, by rw [e202, e3, h55, eR, ft_r], fun c9 h9 h8 => (hF c9 h8).trans (frn c9 h9), fun c9 x9 x10 x11 => by rw [e202]; exact grn c9 x9 x10 x11, fun a9 h8 => ?_⟩
    rw [eR] at h8; injection h8 with h8; subst h8; exact ⟨by rw [e202]; exact u3, hR⟩
  · refine eg_return dX9_readsNomination_58 rfl ?_
    have eS : fnx 0 (ftR (noR L t i v false true)) = fnx (fnx (fnx (0) (ftR (nmR L t i 0 (v 2 - 1)))) (ftR (poR L t j1 v 0))) (ftR (nmR L t j2 0 9999)) := by
      unfold noR
      cases hx1 : nmR L t i 0 (v 2 - 1) with
      | inl e =>
        have ne := nm_ne e hx1
        rw [bd_l, ft_l, ft_l, fnx_k ne, fnx_k ne]
      | inr a1 =>
        have k1 : j1 = a1.1 := by have := (s1 a1 rfl hx1).2.1; omega
        subst k1
        rw [bd_r, ft_r, fnx_z]
        rw [if_neg (show ¬ (false = true) by decide), bd_r]
        dsimp only
        rw [if_pos rfl]
        cases hx2 : poR L t a1.1 v 0 with
        | inl e =>
          have ne := po_ne e hx2
          rw [bd_l, ft_l, ft_l, fnx_k ne]
        | inr a2 =>
          have k2 : j2 = a2.1 := by have := (s2 a2 (by rw [hx1]; rfl) hx2).2.1; omega
          subst k2
          rw [bd_r, ft_r, fnx_z]
          cases hx3 : nmR L t a2.1 0 9999 with
          | inl e =>
            have ne := nm_ne e hx3
            rw [bd_l, ft_l, ft_l]
          | inr a3 =>
            have k3 : j3 = a3.1 := by have := (s3 a3 (by rw [hx1, hx2]; rfl) hx3).2.1; omega
            subst k3
            rw [bd_r, ft_r, ft_r]
    rw [fnx_0] at eS
    refine ⟨rfl, rfl, y3, rfl, ⟨j3, l3, p3⟩, by rw [eS]; exact e3, fun c9 h9 _ => (fun c9 h9 => (((f3 c9 h9).trans (f2 c9 h9)).trans (f1 c9 h9))) c9 h9, fun c9 x9 x10 x11 => (((g3 c9 x9 x10 x11).trans (g2 c9 x9 x10 x11)).trans (g1 c9 x9 x10 x11)), fun a9 h8 => ?_⟩
    rw [h8, ft_r] at eS
    exact absurd eS.symm h55
theorem c_isFullOf {k : eg_K} {z : eg_Z} {X : eg_M} {n : Nat} {L : Nat} {t : Nat → Int} (hT : TM z L t) {v : eg_v} {i : Nat} (hR : hr z v) (ht : tv v) (hi9 : i ≤ L) (hat : z 202 9 = (i : Int)) (hF : z 202 10 = mf 0) {qx : Nat} {wh mx : Int} (hqx : qx < 35) (hwh : 0 ≤ wh ∧ wh < 220) (hvb : 0 ≤ v wh.toNat ∧ v wh.toNat ≤ 100) (hmx : 0 ≤ mx ∧ mx ≤ 100) : eg_P k gX9_isFullOf 7 0 0 [vR k 202, vS k qx, vI wh, vI mx] n (enc k z X) (eg_p k (some (vI (bi (wis L t (sk L t i) (we L t i) (eg_tx qx) = true ∧ v wh.toNat = mx)))) n X (fun z' => (∀ c, c ≠ 202 → z' c = z c) ∧ (∀ j, j ≠ 9 → j ≠ 10 → z' 202 j = z 202 j) ∧ z' 202 9 = (sk L t i : Int) ∧ z' 202 10 = mf (if wis L t (sk L t i) (we L t i) (eg_tx qx) = true ∧ v wh.toNat = mx then 8 * (sk L t i : Int) + 3 else 0))) := by
  refine eg_P.of (by decide) (Nat.le_of_ble_eq_true rfl) ?_
  show eg_E k gX9_isFullOf 7 0 0 n (enc k z X) [vR k 202, vS k qx, vI wh, vI mx] [] 0 _
  have hv := ht.1
  have q := hv.r.2
  have v02 := ht.2.1
  have L4 := hT.1
  have rF : (0 : Int) ≤ 0 ∧ (0 : Int) ≤ 4000 := by omega
  have sb := sk_b (t := t) hi9
  have J : ∀ (y : eg_Z) (b : Bool), (b = true ↔ (wis L t (sk L t i) (we L t i) (eg_tx qx) = true ∧ v wh.toNat = mx)) → (∀ c, c ≠ 202 → y c = z c) → (∀ j, j ≠ 9 → j ≠ 10 → y 202 j = z 202 j) → y 202 9 = (sk L t i : Int) → y 202 10 = mf (if b = true then 8 * (sk L t i : Int) + 3 else 0) → eg_E k gX9_isFullOf 7 0 0 n (enc k y X) [vR k 202, vS k qx, vI wh, vI mx] [] 29 (eg_p k (some (vI (bi (wis L t (sk L t i) (we L t i) (eg_tx qx) = true ∧ v wh.toNat = mx)))) n X (fun z' => (∀ c, c ≠ 202 → z' c = z c) ∧ (∀ j, j ≠ 9 → j ≠ 10 → z' 202 j = z 202 j) ∧ z' 202 9 = (sk L t i : Int) ∧ z' 202 10 = mf (if wis L t (sk L t i) (we L t i) (eg_tx qx) = true ∧ v wh.toNat = mx then 8 * (sk L t i : Int) + 3 else 0))) := by
    intro y b hb f1 g1 a1 e1
    have rb : 0 ≤ (if b = true then 8 * (sk L t i : Int) + 3 else 0) ∧ (if b = true then 8 * (sk L t i : Int) + 3 else 0) ≤ 4000 := by split <;> omega
    refine eg_al_n dX9_isFullOf_29 rfl rfl ?_
    refine eg_Vf0 cs_X9_70 dX9_isFullOf_30 (c_isRight e1 rb) (by first | exact er202 | exact er203 | exact er204 | exact er205 | exact er206 | exact er207 | exact er208 | exact er209 | exact er210 | exact er211 | exact er212 | exact er213 | exact er214 | exact er215) rfl (Nat.le_of_ble_eq_true rfl) (by decide) ?_
    refine eg_bi_ne 40 dX9_isFullOf_33 rfl (fun h33 => ?_) (fun h33 => ?_)
    · refine eg_iconst dX9_isFullOf_40 ?_
      refine eg_ireturn dX9_isFullOf_41 rfl (by first | rfl | exact bi_nar _ | (unfold bi; split <;> rfl)) ?_
      have eb : (if b = true then 8 * (sk L t i : Int) + 3 else 0) = (if wis L t (sk L t i) (we L t i) (eg_tx qx) = true ∧ v wh.toNat = mx then 8 * (sk L t i : Int) + 3 else 0) := by
        by_cases b9 : b = true
        · rw [if_pos b9, if_pos (hb.mp b9)]
        · rw [if_neg b9, if_neg (fun hh => b9 (hb.mpr hh))]
      refine ⟨congrArg (fun q => some (vI q)) ?_, rfl, y, rfl, f1, g1, a1, by rw [e1, eb]⟩
      unfold bi
      first
        | (rw [if_pos (hb.mp (by by_cases b9 : b = true; exact b9; rw [if_neg b9] at h33; exact absurd rfl h33))])
        | (rw [if_neg (fun hh => by have b9 := hb.mpr hh; rw [if_pos b9] at h33; omega)])
    · refine eg_iconst dX9_isFullOf_36 ?_
      refine eg_goto 41 dX9_isFullOf_37 rfl ?_
      refine eg_ireturn dX9_isFullOf_41 rfl (by first | rfl | exact bi_nar _ | (unfold bi; split <;> rfl)) ?_
      have eb : (if b = true then 8 * (sk L t i : Int) + 3 else 0) = (if wis L t (sk L t i) (we L t i) (eg_tx qx) = true ∧ v wh.toNat = mx then 8 * (sk L t i : Int) + 3 else 0) := by
        by_cases b9 : b = true
        · rw [if_pos b9, if_pos (hb.mp b9)]
        · rw [if_neg b9, if_neg (fun hh => b9 (hb.mpr hh))]
      refine ⟨congrArg (fun q => some (vI q)) ?_, rfl, y, rfl, f1, g1, a1, by rw [e1, eb]⟩
      unfold bi
      first
        | (rw [if_pos (hb.mp (by by_cases b9 : b = true; exact b9; rw [if_neg b9] at h33; exact absurd rfl h33))])
        | (rw [if_neg (fun hh => by have b9 := hb.mpr hh; rw [if_pos b9] at h33; omega)])
  refine eg_al_n dX9_isFullOf_0 rfl rfl ?_
  refine eg_al_n dX9_isFullOf_1 rfl rfl ?_
  refine eg_Vpf1 cs_X9_125 dX9_isFullOf_2 (c_isWord hT hi9 hat hqx) (by first | exact er202 | exact er203 | exact er204 | exact er205 | exact er206 | exact er207 | exact er208 | exact er209 | exact er210 | exact er211 | exact er212 | exact er213 | exact er214 | exact er215) rfl (Nat.le_of_ble_eq_true rfl) (by decide) ?_
  rintro y1 ⟨f1, g1, a1⟩
  have hR : hr y1 v := hr_c (f1 204 (by decide)) hR
  have F5 : y1 202 10 = mf 0 := by rw [g1 10 (by decide)]; exact hF
  refine eg_bi_eq 29 dX9_isFullOf_5 rfl (fun h5 => ?_) (fun h5 => ?_)
  · exact J y1 false ⟨fun hh => absurd hh (by decide), fun hh => absurd hh.1 h5⟩ f1 (fun j j9 _ => g1 j j9) a1 (by rw [if_neg (by decide)]; exact F5)
  · refine eg_al_n dX9_isFullOf_8 rfl rfl ?_
    refine eg_get fl_X9_13 dX9_isFullOf_9 (by first | exact er202 | exact er203 | exact er204 | exact er205 | exact er206 | exact er207 | exact er208 | exact er209 | exact er210 | exact er211 | exact er212 | exact er213 | exact er214 | exact er215) rfl ?_
    refine eg_iload_n dX9_isFullOf_12 rfl ?_
    refine eg_hrdL dX9_isFullOf_13 hR (by omega) (by omega) ?_
    refine eg_iload_n dX9_isFullOf_14 rfl ?_
    refine eg_i2l dX9_isFullOf_15 ⟨by omega, by omega⟩ ?_
    refine eg_lc_ne 29 dX9_isFullOf_16 dX9_isFullOf_17 ⟨by omega, by omega⟩ ⟨by omega, by omega⟩ rfl (fun h16 => ?_) (fun h16 => ?_)
    · exact J y1 false ⟨fun hh => absurd hh (by decide), fun hh => absurd hh.2 h16⟩ f1 (fun j j9 _ => g1 j j9) a1 (by rw [if_neg (by decide)]; exact F5)
    · refine eg_al_n dX9_isFullOf_20 rfl rfl ?_
      refine eg_iconst dX9_isFullOf_21 ?_
      refine eg_al_n dX9_isFullOf_22 rfl rfl ?_
      refine eg_get fl_X9_60 dX9_isFullOf_23 (by first | exact er202 | exact er203 | exact er204 | exact er205 | exact er206 | exact er207 | exact er208 | exact er209 | exact er210 | exact er211 | exact er212 | exact er213 | exact er214 | exact er215) rfl ?_
      refine eg_eqI a1 ?_
      refine eg_Vpv2 cs_X9_98 dX9_isFullOf_26 (c_fails F5 (by omega) (by omega)) (by first | exact er202 | exact er203 | exact er204 | exact er205 | exact er206 | exact er207 | exact er208 | exact er209 | exact er210 | exact er211 | exact er212 | exact er213 | exact er214 | exact er215) rfl (Nat.le_of_ble_eq_true rfl) (by decide) ?_
      rintro y2 ⟨f2, g2, e2⟩
      exact J y2 true ⟨fun _ => ⟨h5, h16⟩, fun _ => rfl⟩ (fun c9 h9 => (f2 c9 h9).trans (f1 c9 h9)) (fun j j9 j10 => (g2 j j10).trans (g1 j j9)) (by rw [g2 9 (by decide)]; exact a1) (by rw [if_pos rfl, e2, fnx_0])
theorem c_takes {k : eg_K} {z : eg_Z} {X : eg_M} {n : Nat} {L : Nat} {t : Nat → Int} (hT : TM z L t) {i q : Nat} (hi9 : i ≤ L) (hat : z 202 9 = (i : Int)) (hq : q < 35) : eg_P k gX9_takes 7 0 0 [vR k 202, vS k q] n (enc k z X) (eg_p k (some (vI (bi (wis L t (sk L t i) (we L t i) (eg_tx q) = true)))) n X (fun z' => (∀ c, c ≠ 202 → z' c = z c) ∧ (∀ j, j ≠ 9 → z' 202 j = z 202 j) ∧ z' 202 9 = (if wis L t (sk L t i) (we L t i) (eg_tx q) = true then (we L t i : Int) else (sk L t i : Int)))) := by
  refine eg_P.of (by decide) (Nat.le_of_ble_eq_true rfl) ?_
  show eg_E k gX9_takes 7 0 0 n (enc k z X) [vR k 202, vS k q] [] 0 _
  refine eg_al_n dX9_takes_0 rfl rfl ?_
  refine eg_al_n dX9_takes_1 rfl rfl ?_
  refine eg_Vpf1 cs_X9_125 dX9_takes_2 (c_isWord hT hi9 hat hq) (by first | exact er202 | exact er203 | exact er204 | exact er205 | exact er206 | exact er207 | exact er208 | exact er209 | exact er210 | exact er211 | exact er212 | exact er213 | exact er214 | exact er215) rfl (Nat.le_of_ble_eq_true rfl) (by decide) ?_
  rintro y1 ⟨f1, g1, a1⟩
  refine eg_bi_ne 10 dX9_takes_5 rfl (fun h5 => ?_) (fun h5 => ?_)
  · refine eg_al_n dX9_takes_10 rfl rfl ?_
    refine eg_dup dX9_takes_11 rfl ?_
    refine eg_get fl_X9_60 dX9_takes_12 (by first | exact er202 | exact er203 | exact er204 | exact er205 | exact er206 | exact er207 | exact er208 | exact er209 | exact er210 | exact er211 | exact er212 | exact er213 | exact er214 | exact er215) rfl ?_
    refine eg_eqI a1 ?_
    refine eg_al_n dX9_takes_15 rfl rfl ?_
    refine eg_VSf0 hq cs_X9_85 rfl dX9_takes_16 (c_length hq) (Nat.le_of_ble_eq_true rfl) (by decide) ?_
    refine eg_iadd dX9_takes_19 ?_
    refine eg_put fl_X9_60 dX9_takes_20 (by first | exact er202 | exact er203 | exact er204 | exact er205 | exact er206 | exact er207 | exact er208 | exact er209 | exact er210 | exact er211 | exact er212 | exact er213 | exact er214 | exact er215) rfl rfl rfl rfl ?_
    refine eg_eqM es202_9 ?_
    refine eg_iconst dX9_takes_23 ?_
    refine eg_ireturn dX9_takes_24 rfl (by first | rfl | exact bi_nar _ | (unfold bi; split <;> rfl)) ?_
    have w9 := wis_t h5
    refine ⟨congrArg (fun q => some (vI q)) (by unfold bi; rw [if_pos h5]), rfl, _, rfl, fun c hc => by rw [va_up_n _ _ hc]; exact f1 c hc, fun j hj => by rw [va_up_s, va_up_n _ _ hj]; exact g1 j hj, by rw [va_up_s, va_up_s, if_pos h5]; omega⟩
  · refine eg_iconst dX9_takes_8 ?_
    refine eg_ireturn dX9_takes_9 rfl (by first | rfl | exact bi_nar _ | (unfold bi; split <;> rfl)) ?_
    refine ⟨congrArg (fun q => some (vI q)) (by unfold bi; rw [if_neg h5]), rfl, y1, rfl, f1, g1, by rw [if_neg h5]; exact a1⟩
theorem c_takesS {k : eg_K} {z : eg_Z} {X : eg_M} {n : Nat} {L : Nat} {t : Nat → Int} (hT : TM z L t) {i q : Nat} (hi9 : i ≤ L) (hat : z 202 9 = (sk L t i : Int)) (hq : q < 35) : eg_P k gX9_takes 7 0 0 [vR k 202, vS k q] n (enc k z X) (eg_p k (some (vI (bi (wis L t (sk L t i) (we L t i) (eg_tx q) = true)))) n X (fun z' => (∀ c, c ≠ 202 → z' c = z c) ∧ (∀ j, j ≠ 9 → z' 202 j = z 202 j) ∧ z' 202 9 = (if wis L t (sk L t i) (we L t i) (eg_tx q) = true then (we L t i : Int) else (sk L t i : Int)))) := by
  have s := c_takes (k := k) (X := X) (n := n) hT (sk_b (t := t) hi9).2 hat hq
  rw [sk_sk hi9, we_sk hi9] at s
  exact s
