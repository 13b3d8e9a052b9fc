theorem apN_c {f g : Nat → Int} {L : Nat} {x : Int} (h : ∀ i, i < L → f i = g i) : ∀ t i : Nat, i < L + t → apN f L x t i = apN g L x t i
  | 0, i, hi => h i (by omega)
  | t + 1, i, hi => by
    show va_up (apN f L x t) (L + t) _ i = va_up (apN g L x t) (L + t) _ i
    by_cases e : i = L + t
    · subst e; rw [va_up_s, va_up_s]
    · rw [va_up_n _ _ e, va_up_n _ _ e]; exact apN_c h t i (by omega)
theorem apN_b {f : Nat → Int} {L : Nat} {x : Int} (h : ∀ i, i < L → -128 ≤ f i ∧ f i < 128) : ∀ t i : Nat, i < L + t → -128 ≤ apN f L x t i ∧ apN f L x t i < 128
  | 0, i, hi => h i (by omega)
  | t + 1, i, hi => by
    show -128 ≤ va_up (apN f L x t) (L + t) _ i ∧ va_up (apN f L x t) (L + t) _ i < 128
    by_cases e : i = L + t
    · subst e; rw [va_up_s]; exact bm_b _
    · rw [va_up_n _ _ e]; exact apN_b h t i (by omega)
def kpN (f : Nat → Bool) : Nat := (if f 0 = true then 1 else 0) + (if f 1 = true then 2 else 0)
theorem kpN_e (f : Nat → Bool) : kpB f = (kpN f : Int) := by unfold kpB kpN; split <;> split <;> rfl
theorem kpN_b (f : Nat → Bool) : kpN f < 4 := by unfold kpN; split <;> split <;> decide
theorem kpN_or (f : Nat → Bool) {j : Nat} (hj : j < 2) : (kpN f ||| 2 ^ j : Nat) = kpN (va_up f j true) := by
  have h : j = 0 ∨ j = 1 := by omega
  unfold kpN
  rcases h with rfl | rfl
  · rw [va_up_s, va_up_n _ _ (by decide), if_pos rfl]
    cases f 0 <;> cases f 1 <;> rfl
  · rw [va_up_s, va_up_n _ _ (by decide), if_pos rfl]
    cases f 0 <;> cases f 1 <;> rfl
theorem kpN_and (f : Nat → Bool) {j : Nat} (hj : j < 2) : (kpN f &&& 2 ^ j : Nat) = if f j = true then 2 ^ j else 0 := by
  have h : j = 0 ∨ j = 1 := by omega
  unfold kpN
  rcases h with rfl | rfl
  · cases f 0 <;> cases f 1 <;> rfl
  · cases f 0 <;> cases f 1 <;> rfl
theorem p_contract {k : eg_K} {z : eg_Z} {X : eg_M} {n : Nat} {s : eg_S} (hI : IC z s) {a b c : Int} (r_a : iR a) (r_b : iR b) (r_c : iR c) : eg_P k gX8_contract 4 0 0 [vR k 0, vI a, vI b, vI c] n (enc k z X) (eg_p k (some (vI (R_contract s a b c).1)) n X (fun z' => FC z z' ∧ IC z' (R_contract s a b c).2)) := by
  refine eg_P.of (by decide) (Nat.le_of_ble_eq_true rfl) ?_
  show eg_E k gX8_contract 4 0 0 n (enc k z X) [vR k 0, vI a, vI b, vI c, vU] [] 0 _
  obtain ⟨hV1, hHi, ⟨hkb, hsh⟩, hT, hTl, hTb⟩ := id hI
  have hb := isB_1
  have hp := hV1.1
  have hv := hV1.2.2.1
  have q := hv.r.2
  obtain ⟨⟨z0, z1, z2, z3⟩, ⟨c1, c3, c5, c7⟩, -⟩ := id hp
  have r_a1 := r_a.1; have r_a2 := r_a.2
  have r_b1 := r_b.1; have r_b2 := r_b.2
  have r_c1 := r_c.1; have r_c2 := r_c.2
  refine eg_al_n dX8_contract_0 rfl rfl ?_
  refine eg_get fl_X8_12 dX8_contract_1 (by first | exact er0 | exact ep0 hb | exact ep1 hb | exact ep3 hb | exact ep5 hb | exact ep7 hb | exact er25 | exact er34 | exact er181 | exact er182 | exact er196 | exact er199 | exact er156 | exact ep0 isB_13 | exact ep1 isB_13 | exact ep3 isB_13 | exact ep5 isB_13 | exact ep7 isB_13 | exact er26 | exact er27 | exact er28 | exact ep9 hb | exact ep10 hb | exact ep0 (isB_shelf _ (by omega))) rfl ?_
  refine eg_get fl_X8_146 dX8_contract_4 (by first | exact er0 | exact ep0 hb | exact ep1 hb | exact ep3 hb | exact ep5 hb | exact ep7 hb | exact er25 | exact er34 | exact er181 | exact er182 | exact er196 | exact er199 | exact er156 | exact ep0 isB_13 | exact ep1 isB_13 | exact ep3 isB_13 | exact ep5 isB_13 | exact ep7 isB_13 | exact er26 | exact er27 | exact er28 | exact ep9 hb | exact ep10 hb | exact ep0 (isB_shelf _ (by omega))) rfl ?_
  refine eg_iload_n dX8_contract_7 rfl ?_
  refine eg_Vf1 cs_X8_121 dX8_contract_8 (sh_has hb hp hv r_a) (by first | exact er0 | exact ep0 hb | exact ep1 hb | exact ep3 hb | exact ep5 hb | exact ep7 hb | exact er25 | exact er34 | exact er181 | exact er182 | exact er196 | exact er199 | exact er156 | exact ep0 isB_13 | exact ep1 isB_13 | exact ep3 isB_13 | exact ep5 isB_13 | exact ep7 isB_13 | exact er26 | exact er27 | exact er28 | exact ep9 hb | exact ep10 hb | exact ep0 (isB_shelf _ (by omega))) rfl (Nat.le_of_ble_eq_true rfl) (by decide) ?_
  refine eg_bi_eq 22 dX8_contract_11 rfl (fun h11 => ?_) (fun h11 => ?_)
  · refine eg_iconst dX8_contract_22 ?_
    refine eg_ireturn dX8_contract_23 rfl rfl ?_
    rw [show R_contract s a b c = (-1, s) from by unfold R_contract; exact if_neg (fun hh => by first | exact h19 hh.2 | omega)]
    exact ⟨rfl, rfl, z, rfl, FC.rf, hI⟩
  · refine eg_iload_n dX8_contract_14 rfl ?_
    refine eg_iload_n dX8_contract_15 rfl ?_
    refine eg_Sf2 cs_X8_149 dX8_contract_16 (c_X8_isTerm r_b r_c) (Nat.le_of_ble_eq_true rfl) (by decide) ?_
    refine eg_bi_ne 24 dX8_contract_19 rfl (fun h19 => ?_) (fun h19 => ?_)
    · refine eg_al_n dX8_contract_24 rfl rfl ?_
      have tm := of_decide_eq_true h19
      have o1 := hv.H (s := a) (by omega) (by omega); unfold okH at o1
      have gb : -2147483648 ≤ gH s.1 a b ∧ gH s.1 a b ≤ 2147483647 := by
        rcases (show b = 0 ∨ b = 1 ∨ b = 2 ∨ b = 3 by omega) with rfl | rfl | rfl | rfl <;> omega
      refine eg_get fl_X8_12 dX8_contract_25 (by first | exact er0 | exact ep0 hb | exact ep1 hb | exact ep3 hb | exact ep5 hb | exact ep7 hb | exact er25 | exact er34 | exact er181 | exact er182 | exact er196 | exact er199 | exact er156 | exact ep0 isB_13 | exact ep1 isB_13 | exact ep3 isB_13 | exact ep5 isB_13 | exact ep7 isB_13 | exact er26 | exact er27 | exact er28 | exact ep9 hb | exact ep10 hb | exact ep0 (isB_shelf _ (by omega))) rfl ?_
      refine eg_get fl_X8_146 dX8_contract_28 (by first | exact er0 | exact ep0 hb | exact ep1 hb | exact ep3 hb | exact ep5 hb | exact ep7 hb | exact er25 | exact er34 | exact er181 | exact er182 | exact er196 | exact er199 | exact er156 | exact ep0 isB_13 | exact ep1 isB_13 | exact ep3 isB_13 | exact ep5 isB_13 | exact ep7 isB_13 | exact er26 | exact er27 | exact er28 | exact ep9 hb | exact ep10 hb | exact ep0 (isB_shelf _ (by omega))) rfl ?_
      refine eg_iload_n dX8_contract_31 rfl ?_
      refine eg_iload_n dX8_contract_32 rfl ?_
      refine eg_Vf2 cs_X8_125 dX8_contract_33 (sh_at hb hp hv (by omega) (by omega) (by omega) (by omega)) (by first | exact er0 | exact ep0 hb | exact ep1 hb | exact ep3 hb | exact ep5 hb | exact ep7 hb | exact er25 | exact er34 | exact er181 | exact er182 | exact er196 | exact er199 | exact er156 | exact ep0 isB_13 | exact ep1 isB_13 | exact ep3 isB_13 | exact ep5 isB_13 | exact ep7 isB_13 | exact er26 | exact er27 | exact er28 | exact ep9 hb | exact ep10 hb | exact ep0 (isB_shelf _ (by omega))) rfl (Nat.le_of_ble_eq_true rfl) (by decide) ?_
      refine eg_istore dX8_contract_36 rfl rfl rfl ?_
      refine eg_iload dX8_contract_38 rfl ?_
      refine eg_iload_n dX8_contract_40 rfl ?_
      refine eg_icmp_ne 47 dX8_contract_41 ⟨by omega, by omega⟩ ⟨by omega, by omega⟩ rfl (fun h41 => ?_) (fun h41 => ?_)
      · refine eg_iload_n dX8_contract_47 rfl ?_
        refine eg_iconst dX8_contract_48 ?_
        refine eg_icmp_ne 74 dX8_contract_49 ⟨by omega, by omega⟩ ⟨by omega, by omega⟩ rfl (fun h49 => ?_) (fun h49 => ?_)
        · refine eg_al_n dX8_contract_74 rfl rfl ?_
          refine eg_get fl_X8_29 dX8_contract_75 (by first | exact er0 | exact ep0 hb | exact ep1 hb | exact ep3 hb | exact ep5 hb | exact ep7 hb | exact er25 | exact er34 | exact er181 | exact er182 | exact er196 | exact er199 | exact er156 | exact ep0 isB_13 | exact ep1 isB_13 | exact ep3 isB_13 | exact ep5 isB_13 | exact ep7 isB_13 | exact er26 | exact er27 | exact er28 | exact ep9 hb | exact ep10 hb | exact ep0 (isB_shelf _ (by omega))) rfl ?_
          refine eg_al_n dX8_contract_78 rfl rfl ?_
          refine eg_get fl_X8_12 dX8_contract_79 (by first | exact er0 | exact ep0 hb | exact ep1 hb | exact ep3 hb | exact ep5 hb | exact ep7 hb | exact er25 | exact er34 | exact er181 | exact er182 | exact er196 | exact er199 | exact er156 | exact ep0 isB_13 | exact ep1 isB_13 | exact ep3 isB_13 | exact ep5 isB_13 | exact ep7 isB_13 | exact er26 | exact er27 | exact er28 | exact ep9 hb | exact ep10 hb | exact ep0 (isB_shelf _ (by omega))) rfl ?_
          refine eg_Vpv1 cs_X8_114 dX8_contract_82 (c_X0_remember hV1 hHi) (by first | exact er0 | exact ep0 hb | exact ep1 hb | exact ep3 hb | exact ep5 hb | exact ep7 hb | exact er25 | exact er34 | exact er181 | exact er182 | exact er196 | exact er199 | exact er156 | exact ep0 isB_13 | exact ep1 isB_13 | exact ep3 isB_13 | exact ep5 isB_13 | exact ep7 isB_13 | exact er26 | exact er27 | exact er28 | exact ep9 hb | exact ep10 hb | exact ep0 (isB_shelf _ (by omega))) rfl (Nat.le_of_ble_eq_true rfl) (by decide) ?_
          rintro y1 ⟨m1, g1⟩
          have hp1 : hP y1 1 s.1 := hP_k (fun j hj => m1 _ (by omega)) hp
          have hl1 : hL y1 1 s.1 := hL_k (m1 _ (by omega)) hV1.2.1
          refine eg_al_n dX8_contract_85 rfl rfl ?_
          refine eg_get fl_X8_12 dX8_contract_86 (by first | exact er0 | exact ep0 hb | exact ep1 hb | exact ep3 hb | exact ep5 hb | exact ep7 hb | exact er25 | exact er34 | exact er181 | exact er182 | exact er196 | exact er199 | exact er156 | exact ep0 isB_13 | exact ep1 isB_13 | exact ep3 isB_13 | exact ep5 isB_13 | exact ep7 isB_13 | exact er26 | exact er27 | exact er28 | exact ep9 hb | exact ep10 hb | exact ep0 (isB_shelf _ (by omega))) rfl ?_
          refine eg_get fl_X8_146 dX8_contract_89 (by first | exact er0 | exact ep0 hb | exact ep1 hb | exact ep3 hb | exact ep5 hb | exact ep7 hb | exact er25 | exact er34 | exact er181 | exact er182 | exact er196 | exact er199 | exact er156 | exact ep0 isB_13 | exact ep1 isB_13 | exact ep3 isB_13 | exact ep5 isB_13 | exact ep7 isB_13 | exact er26 | exact er27 | exact er28 | exact ep9 hb | exact ep10 hb | exact ep0 (isB_shelf _ (by omega))) rfl ?_
          refine eg_iload_n dX8_contract_92 rfl ?_
          refine eg_iload_n dX8_contract_93 rfl ?_
          refine eg_iload_n dX8_contract_94 rfl ?_
          refine eg_Vpv3 cs_X8_129 dX8_contract_95 (sh_putQ hb hp1 hv (by omega) (by omega) (by omega) (by omega)) (by first | exact er0 | exact ep0 hb | exact ep1 hb | exact ep3 hb | exact ep5 hb | exact ep7 hb | exact er25 | exact er34 | exact er181 | exact er182 | exact er196 | exact er199 | exact er156 | exact ep0 isB_13 | exact ep1 isB_13 | exact ep3 isB_13 | exact ep5 isB_13 | exact ep7 isB_13 | exact er26 | exact er27 | exact er28 | exact ep9 hb | exact ep10 hb | exact ep0 (isB_shelf _ (by omega))) rfl (Nat.le_of_ble_eq_true rfl) (by decide) ?_
          rintro y2 ⟨m2, l2, hp2⟩
          refine eg_iload dX8_contract_98 rfl ?_
          refine eg_ireturn dX8_contract_100 rfl rfl ?_
          have k9 := okV_h (s := a) (c := b) (x := c) hv hV1.2.2.2.1 (by omega) (by omega) (by omega) (by omega) (by omega) (by omega) (fun hh => by subst hh; omega) (by omega)
          rw [show R_contract s a b c = (gH s.1 a b, puS s (va_up s.1 (66 + 7 * a + b).toNat c)) from by unfold R_contract; rw [if_pos ⟨by omega, h19⟩, if_neg h41, if_neg (by omega)]]
          exact ⟨rfl, rfl, y2, rfl, hI.push m1 g1 m2 ⟨hp2, hL_u (by omega) (by omega) (by omega) (by omega) (hL_k l2 hl1), k9.1, k9.2, by rw [va_up_n _ _ (by omega)]; exact hV1.2.2.2.2⟩⟩
        · refine eg_al_n dX8_contract_52 rfl rfl ?_
          refine eg_get fl_X8_12 dX8_contract_53 (by first | exact er0 | exact ep0 hb | exact ep1 hb | exact ep3 hb | exact ep5 hb | exact ep7 hb | exact er25 | exact er34 | exact er181 | exact er182 | exact er196 | exact er199 | exact er156 | exact ep0 isB_13 | exact ep1 isB_13 | exact ep3 isB_13 | exact ep5 isB_13 | exact ep7 isB_13 | exact er26 | exact er27 | exact er28 | exact ep9 hb | exact ep10 hb | exact ep0 (isB_shelf _ (by omega))) rfl ?_
          refine eg_get fl_X8_146 dX8_contract_56 (by first | exact er0 | exact ep0 hb | exact ep1 hb | exact ep3 hb | exact ep5 hb | exact ep7 hb | exact er25 | exact er34 | exact er181 | exact er182 | exact er196 | exact er199 | exact er156 | exact ep0 isB_13 | exact ep1 isB_13 | exact ep3 isB_13 | exact ep5 isB_13 | exact ep7 isB_13 | exact er26 | exact er27 | exact er28 | exact ep9 hb | exact ep10 hb | exact ep0 (isB_shelf _ (by omega))) rfl ?_
          refine eg_iload_n dX8_contract_59 rfl ?_
          refine eg_iconst dX8_contract_60 ?_
          refine eg_Vf2 cs_X8_125 dX8_contract_61 (sh_at hb hp hv (by omega) (by omega) (by omega) (by omega)) (by first | exact er0 | exact ep0 hb | exact ep1 hb | exact ep3 hb | exact ep5 hb | exact ep7 hb | exact er25 | exact er34 | exact er181 | exact er182 | exact er196 | exact er199 | exact er156 | exact ep0 isB_13 | exact ep1 isB_13 | exact ep3 isB_13 | exact ep5 isB_13 | exact ep7 isB_13 | exact er26 | exact er27 | exact er28 | exact ep9 hb | exact ep10 hb | exact ep0 (isB_shelf _ (by omega))) rfl (Nat.le_of_ble_eq_true rfl) (by decide) ?_
          refine eg_mabs cs_X8_152 dX8_contract_64 ⟨by omega, by omega⟩ (Nat.le_of_ble_eq_true rfl) (by decide) ?_
          refine eg_iload_n dX8_contract_67 rfl ?_
          refine eg_icmp_le 74 dX8_contract_68 ⟨by omega, by omega⟩ ⟨by omega, by omega⟩ rfl (fun h68 => ?_) (fun h68 => ?_)
          · refine eg_al_n dX8_contract_74 rfl rfl ?_
            refine eg_get fl_X8_29 dX8_contract_75 (by first | exact er0 | exact ep0 hb | exact ep1 hb | exact ep3 hb | exact ep5 hb | exact ep7 hb | exact er25 | exact er34 | exact er181 | exact er182 | exact er196 | exact er199 | exact er156 | exact ep0 isB_13 | exact ep1 isB_13 | exact ep3 isB_13 | exact ep5 isB_13 | exact ep7 isB_13 | exact er26 | exact er27 | exact er28 | exact ep9 hb | exact ep10 hb | exact ep0 (isB_shelf _ (by omega))) rfl ?_
            refine eg_al_n dX8_contract_78 rfl rfl ?_
            refine eg_get fl_X8_12 dX8_contract_79 (by first | exact er0 | exact ep0 hb | exact ep1 hb | exact ep3 hb | exact ep5 hb | exact ep7 hb | exact er25 | exact er34 | exact er181 | exact er182 | exact er196 | exact er199 | exact er156 | exact ep0 isB_13 | exact ep1 isB_13 | exact ep3 isB_13 | exact ep5 isB_13 | exact ep7 isB_13 | exact er26 | exact er27 | exact er28 | exact ep9 hb | exact ep10 hb | exact ep0 (isB_shelf _ (by omega))) rfl ?_
            refine eg_Vpv1 cs_X8_114 dX8_contract_82 (c_X0_remember hV1 hHi) (by first | exact er0 | exact ep0 hb | exact ep1 hb | exact ep3 hb | exact ep5 hb | exact ep7 hb | exact er25 | exact er34 | exact er181 | exact er182 | exact er196 | exact er199 | exact er156 | exact ep0 isB_13 | exact ep1 isB_13 | exact ep3 isB_13 | exact ep5 isB_13 | exact ep7 isB_13 | exact er26 | exact er27 | exact er28 | exact ep9 hb | exact ep10 hb | exact ep0 (isB_shelf _ (by omega))) rfl (Nat.le_of_ble_eq_true rfl) (by decide) ?_
            rintro y1 ⟨m1, g1⟩
            have hp1 : hP y1 1 s.1 := hP_k (fun j hj => m1 _ (by omega)) hp
            have hl1 : hL y1 1 s.1 := hL_k (m1 _ (by omega)) hV1.2.1
            refine eg_al_n dX8_contract_85 rfl rfl ?_
            refine eg_get fl_X8_12 dX8_contract_86 (by first | exact er0 | exact ep0 hb | exact ep1 hb | exact ep3 hb | exact ep5 hb | exact ep7 hb | exact er25 | exact er34 | exact er181 | exact er182 | exact er196 | exact er199 | exact er156 | exact ep0 isB_13 | exact ep1 isB_13 | exact ep3 isB_13 | exact ep5 isB_13 | exact ep7 isB_13 | exact er26 | exact er27 | exact er28 | exact ep9 hb | exact ep10 hb | exact ep0 (isB_shelf _ (by omega))) rfl ?_
            refine eg_get fl_X8_146 dX8_contract_89 (by first | exact er0 | exact ep0 hb | exact ep1 hb | exact ep3 hb | exact ep5 hb | exact ep7 hb | exact er25 | exact er34 | exact er181 | exact er182 | exact er196 | exact er199 | exact er156 | exact ep0 isB_13 | exact ep1 isB_13 | exact ep3 isB_13 | exact ep5 isB_13 | exact ep7 isB_13 | exact er26 | exact er27 | exact er28 | exact ep9 hb | exact ep10 hb | exact ep0 (isB_shelf _ (by omega))) rfl ?_
            refine eg_iload_n dX8_contract_92 rfl ?_
            refine eg_iload_n dX8_contract_93 rfl ?_
            refine eg_iload_n dX8_contract_94 rfl ?_
            refine eg_Vpv3 cs_X8_129 dX8_contract_95 (sh_putQ hb hp1 hv (by omega) (by omega) (by omega) (by omega)) (by first | exact er0 | exact ep0 hb | exact ep1 hb | exact ep3 hb | exact ep5 hb | exact ep7 hb | exact er25 | exact er34 | exact er181 | exact er182 | exact er196 | exact er199 | exact er156 | exact ep0 isB_13 | exact ep1 isB_13 | exact ep3 isB_13 | exact ep5 isB_13 | exact ep7 isB_13 | exact er26 | exact er27 | exact er28 | exact ep9 hb | exact ep10 hb | exact ep0 (isB_shelf _ (by omega))) rfl (Nat.le_of_ble_eq_true rfl) (by decide) ?_
            rintro y2 ⟨m2, l2, hp2⟩
            refine eg_iload dX8_contract_98 rfl ?_
            refine eg_ireturn dX8_contract_100 rfl rfl ?_
            have k9 := okV_h (s := a) (c := b) (x := c) hv hV1.2.2.2.1 (by omega) (by omega) (by omega) (by omega) (by omega) (by omega) (fun hh => by subst hh; omega) (by omega)
            rw [show R_contract s a b c = (gH s.1 a b, puS s (va_up s.1 (66 + 7 * a + b).toNat c)) from by unfold R_contract; rw [if_pos ⟨by omega, h19⟩, if_neg h41, if_neg (by omega)]]
            exact ⟨rfl, rfl, y2, rfl, hI.push m1 g1 m2 ⟨hp2, hL_u (by omega) (by omega) (by omega) (by omega) (hL_k l2 hl1), k9.1, k9.2, by rw [va_up_n _ _ (by omega)]; exact hV1.2.2.2.2⟩⟩
          · refine eg_bipush dX8_contract_71 (by decide) ?_
            refine eg_ireturn dX8_contract_73 rfl rfl ?_
            rw [show R_contract s a b c = (-3, s) from by unfold R_contract; rw [if_pos ⟨by omega, h19⟩, if_neg h41, if_pos (by omega)]]
            exact ⟨rfl, rfl, z, rfl, FC.rf, hI⟩
      · refine eg_bipush dX8_contract_44 (by decide) ?_
        refine eg_ireturn dX8_contract_46 rfl rfl ?_
        rw [show R_contract s a b c = (-2, s) from by unfold R_contract; rw [if_pos ⟨by omega, h19⟩, if_pos h41]]
        exact ⟨rfl, rfl, z, rfl, FC.rf, hI⟩
    · refine eg_iconst dX8_contract_22 ?_
      refine eg_ireturn dX8_contract_23 rfl rfl ?_
      rw [show R_contract s a b c = (-1, s) from by unfold R_contract; exact if_neg (fun hh => by first | exact h19 hh.2 | omega)]
      exact ⟨rfl, rfl, z, rfl, FC.rf, hI⟩
theorem p_trade {k : eg_K} {z : eg_Z} {X : eg_M} {n : Nat} {s : eg_S} (hI : IC z s) {a b c : Int} (r_a : iR a) (r_b : iR b) (r_c : iR c) : eg_P k gX8_trade 4 0 0 [vR k 0, vI a, vI b, vI c] n (enc k z X) (eg_p k (some (vI (R_trade s a b c).1)) n X (fun z' => FC z z' ∧ IC z' (R_trade s a b c).2)) := by
  refine eg_P.of (by decide) (Nat.le_of_ble_eq_true rfl) ?_
  show eg_E k gX8_trade 4 0 0 n (enc k z X) [vR k 0, vI a, vI b, vI c] [] 0 _
  obtain ⟨hV1, hHi, ⟨hkb, hsh⟩, hT, hTl, hTb⟩ := id hI
  have hb := isB_1
  have hp := hV1.1
  have hv := hV1.2.2.1
  have q := hv.r.2
  obtain ⟨⟨z0, z1, z2, z3⟩, ⟨c1, c3, c5, c7⟩, -⟩ := id hp
  have r_a1 := r_a.1; have r_a2 := r_a.2
  have r_b1 := r_b.1; have r_b2 := r_b.2
  have r_c1 := r_c.1; have r_c2 := r_c.2
  refine eg_al_n dX8_trade_0 rfl rfl ?_
  refine eg_iload_n dX8_trade_1 rfl ?_
  refine eg_iload_n dX8_trade_2 rfl ?_
  refine eg_iload_n dX8_trade_3 rfl ?_
  refine eg_Vf3 cs_X8_158 dX8_trade_4 (c_X8_canDeal hp hv r_a r_b r_c) (by first | exact er0 | exact ep0 hb | exact ep1 hb | exact ep3 hb | exact ep5 hb | exact ep7 hb | exact er25 | exact er34 | exact er181 | exact er182 | exact er196 | exact er199 | exact er156 | exact ep0 isB_13 | exact ep1 isB_13 | exact ep3 isB_13 | exact ep5 isB_13 | exact ep7 isB_13 | exact er26 | exact er27 | exact er28 | exact ep9 hb | exact ep10 hb | exact ep0 (isB_shelf _ (by omega))) rfl (Nat.le_of_ble_eq_true rfl) (by decide) ?_
  refine eg_bi_ne 12 dX8_trade_7 rfl (fun h7 => ?_) (fun h7 => ?_)
  · refine eg_al_n dX8_trade_12 rfl rfl ?_
    have al := of_decide_eq_true h7
    have oa := hv.H al.1.1 al.1.2; unfold okH at oa
    have ob := hv.H al.2.1.1 al.2.1.2; unfold okH at ob
    refine eg_get fl_X8_12 dX8_trade_13 (by first | exact er0 | exact ep0 hb | exact ep1 hb | exact ep3 hb | exact ep5 hb | exact ep7 hb | exact er25 | exact er34 | exact er181 | exact er182 | exact er196 | exact er199 | exact er156 | exact ep0 isB_13 | exact ep1 isB_13 | exact ep3 isB_13 | exact ep5 isB_13 | exact ep7 isB_13 | exact er26 | exact er27 | exact er28 | exact ep9 hb | exact ep10 hb | exact ep0 (isB_shelf _ (by omega))) rfl ?_
    refine eg_get fl_X8_146 dX8_trade_16 (by first | exact er0 | exact ep0 hb | exact ep1 hb | exact ep3 hb | exact ep5 hb | exact ep7 hb | exact er25 | exact er34 | exact er181 | exact er182 | exact er196 | exact er199 | exact er156 | exact ep0 isB_13 | exact ep1 isB_13 | exact ep3 isB_13 | exact ep5 isB_13 | exact ep7 isB_13 | exact er26 | exact er27 | exact er28 | exact ep9 hb | exact ep10 hb | exact ep0 (isB_shelf _ (by omega))) rfl ?_
    refine eg_iload_n dX8_trade_19 rfl ?_
    refine eg_iconst dX8_trade_20 ?_
    refine eg_Vf2 cs_X8_125 dX8_trade_21 (sh_at hb hp hv (by omega) (by omega) (by omega) (by omega)) (by first | exact er0 | exact ep0 hb | exact ep1 hb | exact ep3 hb | exact ep5 hb | exact ep7 hb | exact er25 | exact er34 | exact er181 | exact er182 | exact er196 | exact er199 | exact er156 | exact ep0 isB_13 | exact ep1 isB_13 | exact ep3 isB_13 | exact ep5 isB_13 | exact ep7 isB_13 | exact er26 | exact er27 | exact er28 | exact ep9 hb | exact ep10 hb | exact ep0 (isB_shelf _ (by omega))) rfl (Nat.le_of_ble_eq_true rfl) (by decide) ?_
    refine eg_iload_n dX8_trade_24 rfl ?_
    refine eg_icmp_lt 45 dX8_trade_25 ⟨by omega, by omega⟩ ⟨by omega, by omega⟩ rfl (fun h25 => ?_) (fun h25 => ?_)
    · refine eg_bipush dX8_trade_45 (by decide) ?_
      refine eg_ireturn dX8_trade_47 rfl rfl ?_
      rw [show R_trade s a b c = (-2, s) from by unfold R_trade; rw [if_pos h7, if_pos (by omega)]]
      exact ⟨rfl, rfl, z, rfl, FC.rf, hI⟩
    · refine eg_al_n dX8_trade_28 rfl rfl ?_
      refine eg_get fl_X8_12 dX8_trade_29 (by first | exact er0 | exact ep0 hb | exact ep1 hb | exact ep3 hb | exact ep5 hb | exact ep7 hb | exact er25 | exact er34 | exact er181 | exact er182 | exact er196 | exact er199 | exact er156 | exact ep0 isB_13 | exact ep1 isB_13 | exact ep3 isB_13 | exact ep5 isB_13 | exact ep7 isB_13 | exact er26 | exact er27 | exact er28 | exact ep9 hb | exact ep10 hb | exact ep0 (isB_shelf _ (by omega))) rfl ?_
      refine eg_get fl_X8_146 dX8_trade_32 (by first | exact er0 | exact ep0 hb | exact ep1 hb | exact ep3 hb | exact ep5 hb | exact ep7 hb | exact er25 | exact er34 | exact er181 | exact er182 | exact er196 | exact er199 | exact er156 | exact ep0 isB_13 | exact ep1 isB_13 | exact ep3 isB_13 | exact ep5 isB_13 | exact ep7 isB_13 | exact er26 | exact er27 | exact er28 | exact ep9 hb | exact ep10 hb | exact ep0 (isB_shelf _ (by omega))) rfl ?_
      refine eg_iload_n dX8_trade_35 rfl ?_
      refine eg_iconst dX8_trade_36 ?_
      refine eg_Vf2 cs_X8_125 dX8_trade_37 (sh_at hb hp hv (by omega) (by omega) (by omega) (by omega)) (by first | exact er0 | exact ep0 hb | exact ep1 hb | exact ep3 hb | exact ep5 hb | exact ep7 hb | exact er25 | exact er34 | exact er181 | exact er182 | exact er196 | exact er199 | exact er156 | exact ep0 isB_13 | exact ep1 isB_13 | exact ep3 isB_13 | exact ep5 isB_13 | exact ep7 isB_13 | exact er26 | exact er27 | exact er28 | exact ep9 hb | exact ep10 hb | exact ep0 (isB_shelf _ (by omega))) rfl (Nat.le_of_ble_eq_true rfl) (by decide) ?_
      refine eg_iload_n dX8_trade_40 rfl ?_
      refine eg_ineg dX8_trade_41 ?_
      refine eg_icmp_le 48 dX8_trade_42 ⟨by omega, by omega⟩ ⟨by omega, by omega⟩ rfl (fun h42 => ?_) (fun h42 => ?_)
      · refine eg_al_n dX8_trade_48 rfl rfl ?_
        refine eg_get fl_X8_29 dX8_trade_49 (by first | exact er0 | exact ep0 hb | exact ep1 hb | exact ep3 hb | exact ep5 hb | exact ep7 hb | exact er25 | exact er34 | exact er181 | exact er182 | exact er196 | exact er199 | exact er156 | exact ep0 isB_13 | exact ep1 isB_13 | exact ep3 isB_13 | exact ep5 isB_13 | exact ep7 isB_13 | exact er26 | exact er27 | exact er28 | exact ep9 hb | exact ep10 hb | exact ep0 (isB_shelf _ (by omega))) rfl ?_
        refine eg_al_n dX8_trade_52 rfl rfl ?_
        refine eg_get fl_X8_12 dX8_trade_53 (by first | exact er0 | exact ep0 hb | exact ep1 hb | exact ep3 hb | exact ep5 hb | exact ep7 hb | exact er25 | exact er34 | exact er181 | exact er182 | exact er196 | exact er199 | exact er156 | exact ep0 isB_13 | exact ep1 isB_13 | exact ep3 isB_13 | exact ep5 isB_13 | exact ep7 isB_13 | exact er26 | exact er27 | exact er28 | exact ep9 hb | exact ep10 hb | exact ep0 (isB_shelf _ (by omega))) rfl ?_
        refine eg_Vpv1 cs_X8_114 dX8_trade_56 (c_X0_remember hV1 hHi) (by first | exact er0 | exact ep0 hb | exact ep1 hb | exact ep3 hb | exact ep5 hb | exact ep7 hb | exact er25 | exact er34 | exact er181 | exact er182 | exact er196 | exact er199 | exact er156 | exact ep0 isB_13 | exact ep1 isB_13 | exact ep3 isB_13 | exact ep5 isB_13 | exact ep7 isB_13 | exact er26 | exact er27 | exact er28 | exact ep9 hb | exact ep10 hb | exact ep0 (isB_shelf _ (by omega))) rfl (Nat.le_of_ble_eq_true rfl) (by decide) ?_
        rintro y1 ⟨m1, g1⟩
        have hp1 : hP y1 1 s.1 := hP_k (fun j hj => m1 _ (by omega)) hp
        have hl1 : hL y1 1 s.1 := hL_k (m1 _ (by omega)) hV1.2.1
        refine eg_al_n dX8_trade_59 rfl rfl ?_
        refine eg_get fl_X8_12 dX8_trade_60 (by first | exact er0 | exact ep0 hb | exact ep1 hb | exact ep3 hb | exact ep5 hb | exact ep7 hb | exact er25 | exact er34 | exact er181 | exact er182 | exact er196 | exact er199 | exact er156 | exact ep0 isB_13 | exact ep1 isB_13 | exact ep3 isB_13 | exact ep5 isB_13 | exact ep7 isB_13 | exact er26 | exact er27 | exact er28 | exact ep9 hb | exact ep10 hb | exact ep0 (isB_shelf _ (by omega))) rfl ?_
        refine eg_get fl_X8_146 dX8_trade_63 (by first | exact er0 | exact ep0 hb | exact ep1 hb | exact ep3 hb | exact ep5 hb | exact ep7 hb | exact er25 | exact er34 | exact er181 | exact er182 | exact er196 | exact er199 | exact er156 | exact ep0 isB_13 | exact ep1 isB_13 | exact ep3 isB_13 | exact ep5 isB_13 | exact ep7 isB_13 | exact er26 | exact er27 | exact er28 | exact ep9 hb | exact ep10 hb | exact ep0 (isB_shelf _ (by omega))) rfl ?_
        refine eg_iload_n dX8_trade_66 rfl ?_
        refine eg_iconst dX8_trade_67 ?_
        refine eg_iload_n dX8_trade_68 rfl ?_
        refine eg_ineg dX8_trade_69 ?_
        refine eg_Vpv3 cs_X8_161 dX8_trade_70 (sh_raiseQ hb hp1 hv (by omega) (by omega) (by omega) (by omega)) (by first | exact er0 | exact ep0 hb | exact ep1 hb | exact ep3 hb | exact ep5 hb | exact ep7 hb | exact er25 | exact er34 | exact er181 | exact er182 | exact er196 | exact er199 | exact er156 | exact ep0 isB_13 | exact ep1 isB_13 | exact ep3 isB_13 | exact ep5 isB_13 | exact ep7 isB_13 | exact er26 | exact er27 | exact er28 | exact ep9 hb | exact ep10 hb | exact ep0 (isB_shelf _ (by omega))) rfl (Nat.le_of_ble_eq_true rfl) (by decide) ?_
        rintro y2 ⟨m2, l2, hp2⟩
        rw [← Int.sub_eq_add_neg] at hp2
        have pa9 := hV1.2.2.2.1 a (by omega) (by omega)
        have k1 := okV_h (s := a) (c := 4) (x := gH s.1 a 4 - c) hv hV1.2.2.2.1 (by omega) (by omega) (by omega) (by omega) (by omega) (by omega) (by omega) (by omega)
        have e2 : va_up s.1 (66 + 7 * a + 4).toNat (gH s.1 a 4 - c) 2 = s.1 2 := va_up_n _ _ (by omega)
        refine eg_al_n dX8_trade_73 rfl rfl ?_
        refine eg_get fl_X8_12 dX8_trade_74 (by first | exact er0 | exact ep0 hb | exact ep1 hb | exact ep3 hb | exact ep5 hb | exact ep7 hb | exact er25 | exact er34 | exact er181 | exact er182 | exact er196 | exact er199 | exact er156 | exact ep0 isB_13 | exact ep1 isB_13 | exact ep3 isB_13 | exact ep5 isB_13 | exact ep7 isB_13 | exact er26 | exact er27 | exact er28 | exact ep9 hb | exact ep10 hb | exact ep0 (isB_shelf _ (by omega))) rfl ?_
        refine eg_get fl_X8_146 dX8_trade_77 (by first | exact er0 | exact ep0 hb | exact ep1 hb | exact ep3 hb | exact ep5 hb | exact ep7 hb | exact er25 | exact er34 | exact er181 | exact er182 | exact er196 | exact er199 | exact er156 | exact ep0 isB_13 | exact ep1 isB_13 | exact ep3 isB_13 | exact ep5 isB_13 | exact ep7 isB_13 | exact er26 | exact er27 | exact er28 | exact ep9 hb | exact ep10 hb | exact ep0 (isB_shelf _ (by omega))) rfl ?_
        refine eg_iload_n dX8_trade_80 rfl ?_
        refine eg_iconst dX8_trade_81 ?_
        refine eg_iload_n dX8_trade_82 rfl ?_
        refine eg_Vpv3 cs_X8_161 dX8_trade_83 (sh_raiseQ hb hp2 k1.1 (by omega) (by rw [e2]; omega) (by omega) (by omega)) (by first | exact er0 | exact ep0 hb | exact ep1 hb | exact ep3 hb | exact ep5 hb | exact ep7 hb | exact er25 | exact er34 | exact er181 | exact er182 | exact er196 | exact er199 | exact er156 | exact ep0 isB_13 | exact ep1 isB_13 | exact ep3 isB_13 | exact ep5 isB_13 | exact ep7 isB_13 | exact er26 | exact er27 | exact er28 | exact ep9 hb | exact ep10 hb | exact ep0 (isB_shelf _ (by omega))) rfl (Nat.le_of_ble_eq_true rfl) (by decide) ?_
        rintro y3 ⟨m3, l3, hp3⟩
        have hp3 : hP y3 1 (mvV s.1 a b 4 c) := hp3
        refine eg_iconst dX8_trade_86 ?_
        refine eg_ireturn dX8_trade_87 rfl rfl ?_
        have ok9 : okV (mvV s.1 a b 4 c) := okV_mv4 hV1.2.2 al.1 al.2.1 al.2.2.2 (by omega) (by omega)
        rw [show R_trade s a b c = (1, puS s (mvV s.1 a b 4 c)) from by unfold R_trade; rw [if_pos h7, if_neg (by omega)]]
        exact ⟨rfl, rfl, y3, rfl, hI.push m1 g1 (m2.tr m3) ⟨hp3, hL_e (fun i hi => by unfold mvV; rw [va_up_n _ _ (by omega), va_up_n _ _ (by omega)]) (hL_k (l3.trans l2) hl1), ok9⟩⟩
      · refine eg_bipush dX8_trade_45 (by decide) ?_
        refine eg_ireturn dX8_trade_47 rfl rfl ?_
        rw [show R_trade s a b c = (-2, s) from by unfold R_trade; rw [if_pos h7, if_pos (by omega)]]
        exact ⟨rfl, rfl, z, rfl, FC.rf, hI⟩
  · refine eg_iconst dX8_trade_10 ?_
    refine eg_ireturn dX8_trade_11 rfl rfl ?_
    rw [show R_trade s a b c = (-1, s) from by unfold R_trade; rw [if_neg h7]]
    exact ⟨rfl, rfl, z, rfl, FC.rf, hI⟩
theorem p_lend {k : eg_K} {z : eg_Z} {X : eg_M} {n : Nat} {s : eg_S} (hI : IC z s) {a b c : Int} (r_a : iR a) (r_b : iR b) (r_c : iR c) : eg_P k gX8_lend 4 0 0 [vR k 0, vI a, vI b, vI c] n (enc k z X) (eg_p k (some (vI (R_lend s a b c).1)) n X (fun z' => FC z z' ∧ IC z' (R_lend s a b c).2)) := by
  refine eg_P.of (by decide) (Nat.le_of_ble_eq_true rfl) ?_
  show eg_E k gX8_lend 4 0 0 n (enc k z X) [vR k 0, vI a, vI b, vI c] [] 0 _
  obtain ⟨hV1, hHi, ⟨hkb, hsh⟩, hT, hTl, hTb⟩ := id hI
  have hb := isB_1
  have hp := hV1.1
  have hv := hV1.2.2.1
  have q := hv.r.2
  obtain ⟨⟨z0, z1, z2, z3⟩, ⟨c1, c3, c5, c7⟩, -⟩ := id hp
  have r_a1 := r_a.1; have r_a2 := r_a.2
  have r_b1 := r_b.1; have r_b2 := r_b.2
  have r_c1 := r_c.1; have r_c2 := r_c.2
  refine eg_al_n dX8_lend_0 rfl rfl ?_
  refine eg_iload_n dX8_lend_1 rfl ?_
  refine eg_iload_n dX8_lend_2 rfl ?_
  refine eg_iload_n dX8_lend_3 rfl ?_
  refine eg_Vf3 cs_X8_158 dX8_lend_4 (c_X8_canDeal hp hv r_a r_b r_c) (by first | exact er0 | exact ep0 hb | exact ep1 hb | exact ep3 hb | exact ep5 hb | exact ep7 hb | exact er25 | exact er34 | exact er181 | exact er182 | exact er196 | exact er199 | exact er156 | exact ep0 isB_13 | exact ep1 isB_13 | exact ep3 isB_13 | exact ep5 isB_13 | exact ep7 isB_13 | exact er26 | exact er27 | exact er28 | exact ep9 hb | exact ep10 hb | exact ep0 (isB_shelf _ (by omega))) rfl (Nat.le_of_ble_eq_true rfl) (by decide) ?_
  refine eg_bi_ne 12 dX8_lend_7 rfl (fun h7 => ?_) (fun h7 => ?_)
  · refine eg_al_n dX8_lend_12 rfl rfl ?_
    have al := of_decide_eq_true h7
    have oa := hv.H al.1.1 al.1.2; unfold okH at oa
    have ob := hv.H al.2.1.1 al.2.1.2; unfold okH at ob
    refine eg_get fl_X8_12 dX8_lend_13 (by first | exact er0 | exact ep0 hb | exact ep1 hb | exact ep3 hb | exact ep5 hb | exact ep7 hb | exact er25 | exact er34 | exact er181 | exact er182 | exact er196 | exact er199 | exact er156 | exact ep0 isB_13 | exact ep1 isB_13 | exact ep3 isB_13 | exact ep5 isB_13 | exact ep7 isB_13 | exact er26 | exact er27 | exact er28 | exact ep9 hb | exact ep10 hb | exact ep0 (isB_shelf _ (by omega))) rfl ?_
    refine eg_get fl_X8_146 dX8_lend_16 (by first | exact er0 | exact ep0 hb | exact ep1 hb | exact ep3 hb | exact ep5 hb | exact ep7 hb | exact er25 | exact er34 | exact er181 | exact er182 | exact er196 | exact er199 | exact er156 | exact ep0 isB_13 | exact ep1 isB_13 | exact ep3 isB_13 | exact ep5 isB_13 | exact ep7 isB_13 | exact er26 | exact er27 | exact er28 | exact ep9 hb | exact ep10 hb | exact ep0 (isB_shelf _ (by omega))) rfl ?_
    refine eg_iload_n dX8_lend_19 rfl ?_
    refine eg_iconst dX8_lend_20 ?_
    refine eg_Vf2 cs_X8_125 dX8_lend_21 (sh_at hb hp hv (by omega) (by omega) (by omega) (by omega)) (by first | exact er0 | exact ep0 hb | exact ep1 hb | exact ep3 hb | exact ep5 hb | exact ep7 hb | exact er25 | exact er34 | exact er181 | exact er182 | exact er196 | exact er199 | exact er156 | exact ep0 isB_13 | exact ep1 isB_13 | exact ep3 isB_13 | exact ep5 isB_13 | exact ep7 isB_13 | exact er26 | exact er27 | exact er28 | exact ep9 hb | exact ep10 hb | exact ep0 (isB_shelf _ (by omega))) rfl (Nat.le_of_ble_eq_true rfl) (by decide) ?_
    refine eg_iload_n dX8_lend_24 rfl ?_
    refine eg_icmp_ge 31 dX8_lend_25 ⟨by omega, by omega⟩ ⟨by omega, by omega⟩ rfl (fun h25 => ?_) (fun h25 => ?_)
    · refine eg_al_n dX8_lend_31 rfl rfl ?_
      refine eg_get fl_X8_12 dX8_lend_32 (by first | exact er0 | exact ep0 hb | exact ep1 hb | exact ep3 hb | exact ep5 hb | exact ep7 hb | exact er25 | exact er34 | exact er181 | exact er182 | exact er196 | exact er199 | exact er156 | exact ep0 isB_13 | exact ep1 isB_13 | exact ep3 isB_13 | exact ep5 isB_13 | exact ep7 isB_13 | exact er26 | exact er27 | exact er28 | exact ep9 hb | exact ep10 hb | exact ep0 (isB_shelf _ (by omega))) rfl ?_
      refine eg_iload_n dX8_lend_35 rfl ?_
      refine eg_iload_n dX8_lend_36 rfl ?_
      refine eg_Vf2 cs_X8_167 dX8_lend_37 (c_X2_canPark hb hp hv (by omega) (by omega) (by omega) (by omega)) (by first | exact er0 | exact ep0 hb | exact ep1 hb | exact ep3 hb | exact ep5 hb | exact ep7 hb | exact er25 | exact er34 | exact er181 | exact er182 | exact er196 | exact er199 | exact er156 | exact ep0 isB_13 | exact ep1 isB_13 | exact ep3 isB_13 | exact ep5 isB_13 | exact ep7 isB_13 | exact er26 | exact er27 | exact er28 | exact ep9 hb | exact ep10 hb | exact ep0 (isB_shelf _ (by omega))) rfl (Nat.le_of_ble_eq_true rfl) (by decide) ?_
      refine eg_bi_ne 46 dX8_lend_40 rfl (fun h40 => ?_) (fun h40 => ?_)
      · refine eg_al_n dX8_lend_46 rfl rfl ?_
        refine eg_get fl_X8_29 dX8_lend_47 (by first | exact er0 | exact ep0 hb | exact ep1 hb | exact ep3 hb | exact ep5 hb | exact ep7 hb | exact er25 | exact er34 | exact er181 | exact er182 | exact er196 | exact er199 | exact er156 | exact ep0 isB_13 | exact ep1 isB_13 | exact ep3 isB_13 | exact ep5 isB_13 | exact ep7 isB_13 | exact er26 | exact er27 | exact er28 | exact ep9 hb | exact ep10 hb | exact ep0 (isB_shelf _ (by omega))) rfl ?_
        refine eg_al_n dX8_lend_50 rfl rfl ?_
        refine eg_get fl_X8_12 dX8_lend_51 (by first | exact er0 | exact ep0 hb | exact ep1 hb | exact ep3 hb | exact ep5 hb | exact ep7 hb | exact er25 | exact er34 | exact er181 | exact er182 | exact er196 | exact er199 | exact er156 | exact ep0 isB_13 | exact ep1 isB_13 | exact ep3 isB_13 | exact ep5 isB_13 | exact ep7 isB_13 | exact er26 | exact er27 | exact er28 | exact ep9 hb | exact ep10 hb | exact ep0 (isB_shelf _ (by omega))) rfl ?_
        refine eg_Vpv1 cs_X8_114 dX8_lend_54 (c_X0_remember hV1 hHi) (by first | exact er0 | exact ep0 hb | exact ep1 hb | exact ep3 hb | exact ep5 hb | exact ep7 hb | exact er25 | exact er34 | exact er181 | exact er182 | exact er196 | exact er199 | exact er156 | exact ep0 isB_13 | exact ep1 isB_13 | exact ep3 isB_13 | exact ep5 isB_13 | exact ep7 isB_13 | exact er26 | exact er27 | exact er28 | exact ep9 hb | exact ep10 hb | exact ep0 (isB_shelf _ (by omega))) rfl (Nat.le_of_ble_eq_true rfl) (by decide) ?_
        rintro y1 ⟨m1, g1⟩
        have hp1 : hP y1 1 s.1 := hP_k (fun j hj => m1 _ (by omega)) hp
        have hl1 : hL y1 1 s.1 := hL_k (m1 _ (by omega)) hV1.2.1
        refine eg_al_n dX8_lend_57 rfl rfl ?_
        refine eg_get fl_X8_12 dX8_lend_58 (by first | exact er0 | exact ep0 hb | exact ep1 hb | exact ep3 hb | exact ep5 hb | exact ep7 hb | exact er25 | exact er34 | exact er181 | exact er182 | exact er196 | exact er199 | exact er156 | exact ep0 isB_13 | exact ep1 isB_13 | exact ep3 isB_13 | exact ep5 isB_13 | exact ep7 isB_13 | exact er26 | exact er27 | exact er28 | exact ep9 hb | exact ep10 hb | exact ep0 (isB_shelf _ (by omega))) rfl ?_
        refine eg_get fl_X8_146 dX8_lend_61 (by first | exact er0 | exact ep0 hb | exact ep1 hb | exact ep3 hb | exact ep5 hb | exact ep7 hb | exact er25 | exact er34 | exact er181 | exact er182 | exact er196 | exact er199 | exact er156 | exact ep0 isB_13 | exact ep1 isB_13 | exact ep3 isB_13 | exact ep5 isB_13 | exact ep7 isB_13 | exact er26 | exact er27 | exact er28 | exact ep9 hb | exact ep10 hb | exact ep0 (isB_shelf _ (by omega))) rfl ?_
        refine eg_iload_n dX8_lend_64 rfl ?_
        refine eg_iconst dX8_lend_65 ?_
        refine eg_iload_n dX8_lend_66 rfl ?_
        refine eg_ineg dX8_lend_67 ?_
        refine eg_Vpv3 cs_X8_161 dX8_lend_68 (sh_raiseQ hb hp1 hv (by omega) (by omega) (by omega) (by omega)) (by first | exact er0 | exact ep0 hb | exact ep1 hb | exact ep3 hb | exact ep5 hb | exact ep7 hb | exact er25 | exact er34 | exact er181 | exact er182 | exact er196 | exact er199 | exact er156 | exact ep0 isB_13 | exact ep1 isB_13 | exact ep3 isB_13 | exact ep5 isB_13 | exact ep7 isB_13 | exact er26 | exact er27 | exact er28 | exact ep9 hb | exact ep10 hb | exact ep0 (isB_shelf _ (by omega))) rfl (Nat.le_of_ble_eq_true rfl) (by decide) ?_
        rintro y2 ⟨m2, l2, hp2⟩
        rw [← Int.sub_eq_add_neg] at hp2
        have pa9 := hV1.2.2.2.1 a (by omega) (by omega)
        have k1 := okV_h (s := a) (c := 5) (x := gH s.1 a 5 - c) hv hV1.2.2.2.1 (by omega) (by omega) (by omega) (by omega) (by omega) (by omega) (by omega) (by omega)
        have e2 : va_up s.1 (66 + 7 * a + 5).toNat (gH s.1 a 5 - c) 2 = s.1 2 := va_up_n _ _ (by omega)
        refine eg_al_n dX8_lend_71 rfl rfl ?_
        refine eg_get fl_X8_12 dX8_lend_72 (by first | exact er0 | exact ep0 hb | exact ep1 hb | exact ep3 hb | exact ep5 hb | exact ep7 hb | exact er25 | exact er34 | exact er181 | exact er182 | exact er196 | exact er199 | exact er156 | exact ep0 isB_13 | exact ep1 isB_13 | exact ep3 isB_13 | exact ep5 isB_13 | exact ep7 isB_13 | exact er26 | exact er27 | exact er28 | exact ep9 hb | exact ep10 hb | exact ep0 (isB_shelf _ (by omega))) rfl ?_
        refine eg_get fl_X8_146 dX8_lend_75 (by first | exact er0 | exact ep0 hb | exact ep1 hb | exact ep3 hb | exact ep5 hb | exact ep7 hb | exact er25 | exact er34 | exact er181 | exact er182 | exact er196 | exact er199 | exact er156 | exact ep0 isB_13 | exact ep1 isB_13 | exact ep3 isB_13 | exact ep5 isB_13 | exact ep7 isB_13 | exact er26 | exact er27 | exact er28 | exact ep9 hb | exact ep10 hb | exact ep0 (isB_shelf _ (by omega))) rfl ?_
        refine eg_iload_n dX8_lend_78 rfl ?_
        refine eg_iconst dX8_lend_79 ?_
        refine eg_iload_n dX8_lend_80 rfl ?_
        refine eg_Vpv3 cs_X8_161 dX8_lend_81 (sh_raiseQ hb hp2 k1.1 (by omega) (by rw [e2]; omega) (by omega) (by omega)) (by first | exact er0 | exact ep0 hb | exact ep1 hb | exact ep3 hb | exact ep5 hb | exact ep7 hb | exact er25 | exact er34 | exact er181 | exact er182 | exact er196 | exact er199 | exact er156 | exact ep0 isB_13 | exact ep1 isB_13 | exact ep3 isB_13 | exact ep5 isB_13 | exact ep7 isB_13 | exact er26 | exact er27 | exact er28 | exact ep9 hb | exact ep10 hb | exact ep0 (isB_shelf _ (by omega))) rfl (Nat.le_of_ble_eq_true rfl) (by decide) ?_
        rintro y3 ⟨m3, l3, hp3⟩
        have hp3 : hP y3 1 (mvV s.1 a b 5 c) := hp3
        refine eg_iconst dX8_lend_84 ?_
        refine eg_ireturn dX8_lend_85 rfl rfl ?_
        have ok9 : okV (mvV s.1 a b 5 c) := okV_mv5 hV1.2.2 al.1 al.2.1 al.2.2.1 al.2.2.2 (by omega) (by omega)
        rw [show R_lend s a b c = (1, puS s (mvV s.1 a b 5 c)) from by unfold R_lend; rw [if_pos h7, if_neg (by omega), if_pos (by omega)]]
        exact ⟨rfl, rfl, y3, rfl, hI.push m1 g1 (m2.tr m3) ⟨hp3, hL_e (fun i hi => by unfold mvV; rw [va_up_n _ _ (by omega), va_up_n _ _ (by omega)]) (hL_k (l3.trans l2) hl1), ok9⟩⟩
      · refine eg_bipush dX8_lend_43 (by decide) ?_
        refine eg_ireturn dX8_lend_45 rfl rfl ?_
        rw [show R_lend s a b c = (-3, s) from by unfold R_lend; rw [if_pos h7, if_neg (by omega), if_neg (by omega)]]
        exact ⟨rfl, rfl, z, rfl, FC.rf, hI⟩
    · refine eg_bipush dX8_lend_28 (by decide) ?_
      refine eg_ireturn dX8_lend_30 rfl rfl ?_
      rw [show R_lend s a b c = (-2, s) from by unfold R_lend; rw [if_pos h7, if_pos (by omega)]]
      exact ⟨rfl, rfl, z, rfl, FC.rf, hI⟩
  · refine eg_iconst dX8_lend_10 ?_
    refine eg_ireturn dX8_lend_11 rfl rfl ?_
    rw [show R_lend s a b c = (-1, s) from by unfold R_lend; rw [if_neg h7]]
    exact ⟨rfl, rfl, z, rfl, FC.rf, hI⟩
theorem p_store {k : eg_K} {z : eg_Z} {X : eg_M} {n : Nat} {s : eg_S} (hI : IC z s) {a b : Int} (r_a : iR a) (r_b : iR b) : eg_P k gX8_store 4 0 0 [vR k 0, vI a, vI b] n (enc k z X) (eg_p k (some (vI (R_store s a b).1)) n X (fun z' => FC z z' ∧ IC z' (R_store s a b).2)) := by
  refine eg_P.of (by decide) (Nat.le_of_ble_eq_true rfl) ?_
  show eg_E k gX8_store 4 0 0 n (enc k z X) [vR k 0, vI a, vI b] [] 0 _
  obtain ⟨hV1, hHi, ⟨hkb, hsh⟩, hT, hTl, hTb⟩ := id hI
  have hb := isB_1
  have hp := hV1.1
  have hv := hV1.2.2.1
  have q := hv.r.2
  obtain ⟨⟨z0, z1, z2, z3⟩, ⟨c1, c3, c5, c7⟩, -⟩ := id hp
  have r_a1 := r_a.1; have r_a2 := r_a.2
  have r_b1 := r_b.1; have r_b2 := r_b.2
  refine eg_al_n dX8_store_0 rfl rfl ?_
  refine eg_get fl_X8_12 dX8_store_1 (by first | exact er0 | exact ep0 hb | exact ep1 hb | exact ep3 hb | exact ep5 hb | exact ep7 hb | exact er25 | exact er34 | exact er181 | exact er182 | exact er196 | exact er199 | exact er156 | exact ep0 isB_13 | exact ep1 isB_13 | exact ep3 isB_13 | exact ep5 isB_13 | exact ep7 isB_13 | exact er26 | exact er27 | exact er28 | exact ep9 hb | exact ep10 hb | exact ep0 (isB_shelf _ (by omega))) rfl ?_
  refine eg_get fl_X8_146 dX8_store_4 (by first | exact er0 | exact ep0 hb | exact ep1 hb | exact ep3 hb | exact ep5 hb | exact ep7 hb | exact er25 | exact er34 | exact er181 | exact er182 | exact er196 | exact er199 | exact er156 | exact ep0 isB_13 | exact ep1 isB_13 | exact ep3 isB_13 | exact ep5 isB_13 | exact ep7 isB_13 | exact er26 | exact er27 | exact er28 | exact ep9 hb | exact ep10 hb | exact ep0 (isB_shelf _ (by omega))) rfl ?_
  refine eg_iload_n dX8_store_7 rfl ?_
  refine eg_Vf1 cs_X8_121 dX8_store_8 (sh_has hb hp hv r_a) (by first | exact er0 | exact ep0 hb | exact ep1 hb | exact ep3 hb | exact ep5 hb | exact ep7 hb | exact er25 | exact er34 | exact er181 | exact er182 | exact er196 | exact er199 | exact er156 | exact ep0 isB_13 | exact ep1 isB_13 | exact ep3 isB_13 | exact ep5 isB_13 | exact ep7 isB_13 | exact er26 | exact er27 | exact er28 | exact ep9 hb | exact ep10 hb | exact ep0 (isB_shelf _ (by omega))) rfl (Nat.le_of_ble_eq_true rfl) (by decide) ?_
  refine eg_bi_eq 25 dX8_store_11 rfl (fun h11 => ?_) (fun h11 => ?_)
  · refine eg_iconst dX8_store_25 ?_
    refine eg_ireturn dX8_store_26 rfl rfl ?_
    rw [show R_store s a b = (-1, s) from by unfold R_store; (repeat (first | rw [if_pos (by first | assumption | omega)] | rw [if_neg (by first | assumption | omega)]))]
    exact ⟨rfl, rfl, z, rfl, FC.rf, hI⟩
  · refine eg_iload_n dX8_store_14 rfl ?_
    refine eg_iconst dX8_store_15 ?_
    refine eg_sipush dX8_store_16 (by decide) ?_
    refine eg_Sf3 cs_X8_79 dX8_store_19 (c_X8_within ⟨by omega, by omega⟩ ⟨by omega, by omega⟩ ⟨by omega, by omega⟩) (Nat.le_of_ble_eq_true rfl) (by decide) ?_
    refine eg_bi_ne 27 dX8_store_22 rfl (fun h22 => ?_) (fun h22 => ?_)
    · refine eg_al_n dX8_store_27 rfl rfl ?_
      have o1 := hv.H (s := a) (by omega) (by omega); unfold okH at o1
      refine eg_get fl_X8_12 dX8_store_28 (by first | exact er0 | exact ep0 hb | exact ep1 hb | exact ep3 hb | exact ep5 hb | exact ep7 hb | exact er25 | exact er34 | exact er181 | exact er182 | exact er196 | exact er199 | exact er156 | exact ep0 isB_13 | exact ep1 isB_13 | exact ep3 isB_13 | exact ep5 isB_13 | exact ep7 isB_13 | exact er26 | exact er27 | exact er28 | exact ep9 hb | exact ep10 hb | exact ep0 (isB_shelf _ (by omega))) rfl ?_
      refine eg_get fl_X8_146 dX8_store_31 (by first | exact er0 | exact ep0 hb | exact ep1 hb | exact ep3 hb | exact ep5 hb | exact ep7 hb | exact er25 | exact er34 | exact er181 | exact er182 | exact er196 | exact er199 | exact er156 | exact ep0 isB_13 | exact ep1 isB_13 | exact ep3 isB_13 | exact ep5 isB_13 | exact ep7 isB_13 | exact er26 | exact er27 | exact er28 | exact ep9 hb | exact ep10 hb | exact ep0 (isB_shelf _ (by omega))) rfl ?_
      refine eg_iload_n dX8_store_34 rfl ?_
      refine eg_iconst dX8_store_35 ?_
      refine eg_Vf2 cs_X8_125 dX8_store_36 (sh_at hb hp hv (by omega) (by omega) (by omega) (by omega)) (by first | exact er0 | exact ep0 hb | exact ep1 hb | exact ep3 hb | exact ep5 hb | exact ep7 hb | exact er25 | exact er34 | exact er181 | exact er182 | exact er196 | exact er199 | exact er156 | exact ep0 isB_13 | exact ep1 isB_13 | exact ep3 isB_13 | exact ep5 isB_13 | exact ep7 isB_13 | exact er26 | exact er27 | exact er28 | exact ep9 hb | exact ep10 hb | exact ep0 (isB_shelf _ (by omega))) rfl (Nat.le_of_ble_eq_true rfl) (by decide) ?_
      refine eg_iload_n dX8_store_39 rfl ?_
      refine eg_icmp_ge 46 dX8_store_40 ⟨by omega, by omega⟩ ⟨by omega, by omega⟩ rfl (fun h40 => ?_) (fun h40 => ?_)
      · refine eg_al_n dX8_store_46 rfl rfl ?_
        refine eg_get fl_X8_12 dX8_store_47 (by first | exact er0 | exact ep0 hb | exact ep1 hb | exact ep3 hb | exact ep5 hb | exact ep7 hb | exact er25 | exact er34 | exact er181 | exact er182 | exact er196 | exact er199 | exact er156 | exact ep0 isB_13 | exact ep1 isB_13 | exact ep3 isB_13 | exact ep5 isB_13 | exact ep7 isB_13 | exact er26 | exact er27 | exact er28 | exact ep9 hb | exact ep10 hb | exact ep0 (isB_shelf _ (by omega))) rfl ?_
        refine eg_iload_n dX8_store_50 rfl ?_
        refine eg_iload_n dX8_store_51 rfl ?_
        refine eg_Vf2 cs_X8_167 dX8_store_52 (c_X2_canPark hb hp hv (by omega) (by omega) (by omega) (by omega)) (by first | exact er0 | exact ep0 hb | exact ep1 hb | exact ep3 hb | exact ep5 hb | exact ep7 hb | exact er25 | exact er34 | exact er181 | exact er182 | exact er196 | exact er199 | exact er156 | exact ep0 isB_13 | exact ep1 isB_13 | exact ep3 isB_13 | exact ep5 isB_13 | exact ep7 isB_13 | exact er26 | exact er27 | exact er28 | exact ep9 hb | exact ep10 hb | exact ep0 (isB_shelf _ (by omega))) rfl (Nat.le_of_ble_eq_true rfl) (by decide) ?_
        refine eg_bi_ne 61 dX8_store_55 rfl (fun h55 => ?_) (fun h55 => ?_)
        · refine eg_al_n dX8_store_61 rfl rfl ?_
          refine eg_get fl_X8_29 dX8_store_62 (by first | exact er0 | exact ep0 hb | exact ep1 hb | exact ep3 hb | exact ep5 hb | exact ep7 hb | exact er25 | exact er34 | exact er181 | exact er182 | exact er196 | exact er199 | exact er156 | exact ep0 isB_13 | exact ep1 isB_13 | exact ep3 isB_13 | exact ep5 isB_13 | exact ep7 isB_13 | exact er26 | exact er27 | exact er28 | exact ep9 hb | exact ep10 hb | exact ep0 (isB_shelf _ (by omega))) rfl ?_
          refine eg_al_n dX8_store_65 rfl rfl ?_
          refine eg_get fl_X8_12 dX8_store_66 (by first | exact er0 | exact ep0 hb | exact ep1 hb | exact ep3 hb | exact ep5 hb | exact ep7 hb | exact er25 | exact er34 | exact er181 | exact er182 | exact er196 | exact er199 | exact er156 | exact ep0 isB_13 | exact ep1 isB_13 | exact ep3 isB_13 | exact ep5 isB_13 | exact ep7 isB_13 | exact er26 | exact er27 | exact er28 | exact ep9 hb | exact ep10 hb | exact ep0 (isB_shelf _ (by omega))) rfl ?_
          refine eg_Vpv1 cs_X8_114 dX8_store_69 (c_X0_remember hV1 hHi) (by first | exact er0 | exact ep0 hb | exact ep1 hb | exact ep3 hb | exact ep5 hb | exact ep7 hb | exact er25 | exact er34 | exact er181 | exact er182 | exact er196 | exact er199 | exact er156 | exact ep0 isB_13 | exact ep1 isB_13 | exact ep3 isB_13 | exact ep5 isB_13 | exact ep7 isB_13 | exact er26 | exact er27 | exact er28 | exact ep9 hb | exact ep10 hb | exact ep0 (isB_shelf _ (by omega))) rfl (Nat.le_of_ble_eq_true rfl) (by decide) ?_
          rintro y1 ⟨m1, g1⟩
          have hp1 : hP y1 1 s.1 := hP_k (fun j hj => m1 _ (by omega)) hp
          have hl1 : hL y1 1 s.1 := hL_k (m1 _ (by omega)) hV1.2.1
          refine eg_al_n dX8_store_72 rfl rfl ?_
          refine eg_get fl_X8_12 dX8_store_73 (by first | exact er0 | exact ep0 hb | exact ep1 hb | exact ep3 hb | exact ep5 hb | exact ep7 hb | exact er25 | exact er34 | exact er181 | exact er182 | exact er196 | exact er199 | exact er156 | exact ep0 isB_13 | exact ep1 isB_13 | exact ep3 isB_13 | exact ep5 isB_13 | exact ep7 isB_13 | exact er26 | exact er27 | exact er28 | exact ep9 hb | exact ep10 hb | exact ep0 (isB_shelf _ (by omega))) rfl ?_
          refine eg_get fl_X8_146 dX8_store_76 (by first | exact er0 | exact ep0 hb | exact ep1 hb | exact ep3 hb | exact ep5 hb | exact ep7 hb | exact er25 | exact er34 | exact er181 | exact er182 | exact er196 | exact er199 | exact er156 | exact ep0 isB_13 | exact ep1 isB_13 | exact ep3 isB_13 | exact ep5 isB_13 | exact ep7 isB_13 | exact er26 | exact er27 | exact er28 | exact ep9 hb | exact ep10 hb | exact ep0 (isB_shelf _ (by omega))) rfl ?_
          refine eg_iload_n dX8_store_79 rfl ?_
          refine eg_iconst dX8_store_80 ?_
          refine eg_iload_n dX8_store_81 rfl ?_
          refine eg_ineg dX8_store_82 ?_
          refine eg_Vpv3 cs_X8_161 dX8_store_83 (sh_raiseQ hb hp1 hv (by omega) (by omega) (by omega) (by omega)) (by first | exact er0 | exact ep0 hb | exact ep1 hb | exact ep3 hb | exact ep5 hb | exact ep7 hb | exact er25 | exact er34 | exact er181 | exact er182 | exact er196 | exact er199 | exact er156 | exact ep0 isB_13 | exact ep1 isB_13 | exact ep3 isB_13 | exact ep5 isB_13 | exact ep7 isB_13 | exact er26 | exact er27 | exact er28 | exact ep9 hb | exact ep10 hb | exact ep0 (isB_shelf _ (by omega))) rfl (Nat.le_of_ble_eq_true rfl) (by decide) ?_
          rintro y2 ⟨m2, l2, hp2⟩
          rw [← Int.sub_eq_add_neg] at hp2
          have k1 := okV_h (s := a) (c := 4) (x := gH s.1 a 4 - b) hv hV1.2.2.2.1 (by omega) (by omega) (by omega) (by omega) (by omega) (by omega) (by omega) (by omega)
          have e2 : va_up s.1 (66 + 7 * a + 4).toNat (gH s.1 a 4 - b) 2 = s.1 2 := va_up_n _ _ (by omega)
          refine eg_al_n dX8_store_86 rfl rfl ?_
          refine eg_get fl_X8_12 dX8_store_87 (by first | exact er0 | exact ep0 hb | exact ep1 hb | exact ep3 hb | exact ep5 hb | exact ep7 hb | exact er25 | exact er34 | exact er181 | exact er182 | exact er196 | exact er199 | exact er156 | exact ep0 isB_13 | exact ep1 isB_13 | exact ep3 isB_13 | exact ep5 isB_13 | exact ep7 isB_13 | exact er26 | exact er27 | exact er28 | exact ep9 hb | exact ep10 hb | exact ep0 (isB_shelf _ (by omega))) rfl ?_
          refine eg_get fl_X8_146 dX8_store_90 (by first | exact er0 | exact ep0 hb | exact ep1 hb | exact ep3 hb | exact ep5 hb | exact ep7 hb | exact er25 | exact er34 | exact er181 | exact er182 | exact er196 | exact er199 | exact er156 | exact ep0 isB_13 | exact ep1 isB_13 | exact ep3 isB_13 | exact ep5 isB_13 | exact ep7 isB_13 | exact er26 | exact er27 | exact er28 | exact ep9 hb | exact ep10 hb | exact ep0 (isB_shelf _ (by omega))) rfl ?_
          refine eg_iload_n dX8_store_93 rfl ?_
          refine eg_iconst dX8_store_94 ?_
          refine eg_iload_n dX8_store_95 rfl ?_
          refine eg_Vpv3 cs_X8_161 dX8_store_96 (sh_raiseQ hb hp2 k1.1 (by omega) (by rw [e2]; omega) (by omega) (by omega)) (by first | exact er0 | exact ep0 hb | exact ep1 hb | exact ep3 hb | exact ep5 hb | exact ep7 hb | exact er25 | exact er34 | exact er181 | exact er182 | exact er196 | exact er199 | exact er156 | exact ep0 isB_13 | exact ep1 isB_13 | exact ep3 isB_13 | exact ep5 isB_13 | exact ep7 isB_13 | exact er26 | exact er27 | exact er28 | exact ep9 hb | exact ep10 hb | exact ep0 (isB_shelf _ (by omega))) rfl (Nat.le_of_ble_eq_true rfl) (by decide) ?_
          rintro y3 ⟨m3, l3, hp3⟩
          have hp3 : hP y3 1 (stV s.1 a b) := hp3
          refine eg_iconst dX8_store_99 ?_
          refine eg_ireturn dX8_store_100 rfl rfl ?_
          have ok9 : okV (stV s.1 a b) := okV_st hV1.2.2 (by omega) (by omega) (by omega) (by omega)
          rw [show R_store s a b = (1, puS s (stV s.1 a b)) from by unfold R_store; (repeat (first | rw [if_pos (by first | assumption | omega)] | rw [if_neg (by first | assumption | omega)]))]
          exact ⟨rfl, rfl, y3, rfl, hI.push m1 g1 (m2.tr m3) ⟨hp3, hL_e (fun i hi => by unfold stV; rw [va_up_n _ _ (by omega), va_up_n _ _ (by omega)]) (hL_k (l3.trans l2) hl1), ok9⟩⟩
        · refine eg_bipush dX8_store_58 (by decide) ?_
          refine eg_ireturn dX8_store_60 rfl rfl ?_
          rw [show R_store s a b = (-3, s) from by unfold R_store; (repeat (first | rw [if_pos (by first | assumption | omega)] | rw [if_neg (by first | assumption | omega)]))]
          exact ⟨rfl, rfl, z, rfl, FC.rf, hI⟩
      · refine eg_bipush dX8_store_43 (by decide) ?_
        refine eg_ireturn dX8_store_45 rfl rfl ?_
        rw [show R_store s a b = (-2, s) from by unfold R_store; (repeat (first | rw [if_pos (by first | assumption | omega)] | rw [if_neg (by first | assumption | omega)]))]
        exact ⟨rfl, rfl, z, rfl, FC.rf, hI⟩
    · refine eg_iconst dX8_store_25 ?_
      refine eg_ireturn dX8_store_26 rfl rfl ?_
      rw [show R_store s a b = (-1, s) from by unfold R_store; (repeat (first | rw [if_pos (by first | assumption | omega)] | rw [if_neg (by first | assumption | omega)]))]
      exact ⟨rfl, rfl, z, rfl, FC.rf, hI⟩
theorem p_close {k : eg_K} {z : eg_Z} {X : eg_M} {n : Nat} {s : eg_S} (hI : IC z s) : eg_P k gX8_close 4 0 0 [vR k 0] n (enc k z X) (eg_p k (some (vI (R_close s).1)) n X (fun z' => FC z z' ∧ IC z' (R_close s).2)) := by
  refine eg_P.of (by decide) (Nat.le_of_ble_eq_true rfl) ?_
  show eg_E k gX8_close 4 0 0 n (enc k z X) [vR k 0, vU] [] 0 _
  obtain ⟨hV1, hHi, ⟨hkb, hsh⟩, hT, hTl, hTb⟩ := id hI
  have hb := isB_1
  have hp := hV1.1
  have hv := hV1.2.2.1
  have q := hv.r.2
  obtain ⟨⟨z0, z1, z2, z3⟩, ⟨c1, c3, c5, c7⟩, -⟩ := id hp
  refine eg_al_n dX8_close_0 rfl rfl ?_
  refine eg_get fl_X8_12 dX8_close_1 (by first | exact er0 | exact ep0 hb | exact ep1 hb | exact ep3 hb | exact ep5 hb | exact ep7 hb | exact er25 | exact er34 | exact er181 | exact er182 | exact er196 | exact er199 | exact er156 | exact ep0 isB_13 | exact ep1 isB_13 | exact ep3 isB_13 | exact ep5 isB_13 | exact ep7 isB_13 | exact er26 | exact er27 | exact er28 | exact ep9 hb | exact ep10 hb | exact ep0 (isB_shelf _ (by omega))) rfl ?_
  refine eg_Vf0 cs_X8_170 dX8_close_4 (c_X2_isThere hb hp hv) (by first | exact er0 | exact ep0 hb | exact ep1 hb | exact ep3 hb | exact ep5 hb | exact ep7 hb | exact er25 | exact er34 | exact er181 | exact er182 | exact er196 | exact er199 | exact er156 | exact ep0 isB_13 | exact ep1 isB_13 | exact ep3 isB_13 | exact ep5 isB_13 | exact ep7 isB_13 | exact er26 | exact er27 | exact er28 | exact ep9 hb | exact ep10 hb | exact ep0 (isB_shelf _ (by omega))) rfl (Nat.le_of_ble_eq_true rfl) (by decide) ?_
  refine eg_bi_ne 12 dX8_close_7 rfl (fun h7 => ?_) (fun h7 => ?_)
  · refine eg_al_n dX8_close_12 rfl rfl ?_
    refine eg_get fl_X8_12 dX8_close_13 (by first | exact er0 | exact ep0 hb | exact ep1 hb | exact ep3 hb | exact ep5 hb | exact ep7 hb | exact er25 | exact er34 | exact er181 | exact er182 | exact er196 | exact er199 | exact er156 | exact ep0 isB_13 | exact ep1 isB_13 | exact ep3 isB_13 | exact ep5 isB_13 | exact ep7 isB_13 | exact er26 | exact er27 | exact er28 | exact ep9 hb | exact ep10 hb | exact ep0 (isB_shelf _ (by omega))) rfl ?_
    refine eg_Vf0 cs_X8_186 dX8_close_16 (c_X2_howManyOver hb hp hv (by omega)) (by first | exact er0 | exact ep0 hb | exact ep1 hb | exact ep3 hb | exact ep5 hb | exact ep7 hb | exact er25 | exact er34 | exact er181 | exact er182 | exact er196 | exact er199 | exact er156 | exact ep0 isB_13 | exact ep1 isB_13 | exact ep3 isB_13 | exact ep5 isB_13 | exact ep7 isB_13 | exact er26 | exact er27 | exact er28 | exact ep9 hb | exact ep10 hb | exact ep0 (isB_shelf _ (by omega))) rfl (Nat.le_of_ble_eq_true rfl) (by decide) ?_
    refine eg_istore_n dX8_close_19 rfl rfl rfl ?_
    have ob := sm_b (f := ovF s.1) (K := 1) (n := (s.1 2).toNat) (fun i _ _ => by unfold ovF; split <;> omega)
    refine eg_iload_n dX8_close_20 rfl ?_
    refine eg_if_ne 27 dX8_close_21 ⟨by omega, by omega⟩ rfl (fun h21 => ?_) (fun h21 => ?_)
    · refine eg_al_n dX8_close_27 rfl rfl ?_
      refine eg_get fl_X8_29 dX8_close_28 (by first | exact er0 | exact ep0 hb | exact ep1 hb | exact ep3 hb | exact ep5 hb | exact ep7 hb | exact er25 | exact er34 | exact er181 | exact er182 | exact er196 | exact er199 | exact er156 | exact ep0 isB_13 | exact ep1 isB_13 | exact ep3 isB_13 | exact ep5 isB_13 | exact ep7 isB_13 | exact er26 | exact er27 | exact er28 | exact ep9 hb | exact ep10 hb | exact ep0 (isB_shelf _ (by omega))) rfl ?_
      refine eg_al_n dX8_close_31 rfl rfl ?_
      refine eg_get fl_X8_12 dX8_close_32 (by first | exact er0 | exact ep0 hb | exact ep1 hb | exact ep3 hb | exact ep5 hb | exact ep7 hb | exact er25 | exact er34 | exact er181 | exact er182 | exact er196 | exact er199 | exact er156 | exact ep0 isB_13 | exact ep1 isB_13 | exact ep3 isB_13 | exact ep5 isB_13 | exact ep7 isB_13 | exact er26 | exact er27 | exact er28 | exact ep9 hb | exact ep10 hb | exact ep0 (isB_shelf _ (by omega))) rfl ?_
      refine eg_Vpv1 cs_X8_114 dX8_close_35 (c_X0_remember hV1 hHi) (by first | exact er0 | exact ep0 hb | exact ep1 hb | exact ep3 hb | exact ep5 hb | exact ep7 hb | exact er25 | exact er34 | exact er181 | exact er182 | exact er196 | exact er199 | exact er156 | exact ep0 isB_13 | exact ep1 isB_13 | exact ep3 isB_13 | exact ep5 isB_13 | exact ep7 isB_13 | exact er26 | exact er27 | exact er28 | exact ep9 hb | exact ep10 hb | exact ep0 (isB_shelf _ (by omega))) rfl (Nat.le_of_ble_eq_true rfl) (by decide) ?_
      rintro y1 ⟨m1, g1⟩
      have hp1 : hP y1 1 s.1 := hP_k (fun j hj => m1 _ (by omega)) hp
      have hl1 : hL y1 1 s.1 := hL_k (m1 _ (by omega)) hV1.2.1
      refine eg_al_n dX8_close_38 rfl rfl ?_
      refine eg_get fl_X8_12 dX8_close_39 (by first | exact er0 | exact ep0 hb | exact ep1 hb | exact ep3 hb | exact ep5 hb | exact ep7 hb | exact er25 | exact er34 | exact er181 | exact er182 | exact er196 | exact er199 | exact er156 | exact ep0 isB_13 | exact ep1 isB_13 | exact ep3 isB_13 | exact ep5 isB_13 | exact ep7 isB_13 | exact er26 | exact er27 | exact er28 | exact ep9 hb | exact ep10 hb | exact ep0 (isB_shelf _ (by omega))) rfl ?_
      refine eg_Vpv0 cs_X8_189 dX8_close_42 (c_X2_cashAll hb hp1 hv (by omega)) (by first | exact er0 | exact ep0 hb | exact ep1 hb | exact ep3 hb | exact ep5 hb | exact ep7 hb | exact er25 | exact er34 | exact er181 | exact er182 | exact er196 | exact er199 | exact er156 | exact ep0 isB_13 | exact ep1 isB_13 | exact ep3 isB_13 | exact ep5 isB_13 | exact ep7 isB_13 | exact er26 | exact er27 | exact er28 | exact ep9 hb | exact ep10 hb | exact ep0 (isB_shelf _ (by omega))) rfl (Nat.le_of_ble_eq_true rfl) (by decide) ?_
      rintro y2 ⟨m2, l2, hp2⟩
      refine eg_iload_n dX8_close_45 rfl ?_
      refine eg_ireturn dX8_close_46 rfl rfl ?_
      rw [show R_close s = (sm (ovF s.1) (s.1 2).toNat, puS s (cashIt s.1 (s.1 2).toNat)) from by unfold R_close; (repeat (first | rw [if_pos (by first | assumption | omega)] | rw [if_neg (by first | assumption | omega)]))]
      exact ⟨rfl, rfl, y2, rfl, hI.push m1 g1 m2 ⟨hp2, hL_e (fun i hi => (cashIt_p hv (s.1 2).toNat (by omega)).2 i (by omega)) (hL_k l2 hl1), okV_cash hV1.2.2⟩⟩
    · refine eg_bipush dX8_close_24 (by decide) ?_
      refine eg_ireturn dX8_close_26 rfl rfl ?_
      rw [show R_close s = (-2, s) from by unfold R_close; (repeat (first | rw [if_pos (by first | assumption | omega)] | rw [if_neg (by first | assumption | omega)]))]
      exact ⟨rfl, rfl, z, rfl, FC.rf, hI⟩
  · refine eg_iconst dX8_close_10 ?_
    refine eg_ireturn dX8_close_11 rfl rfl ?_
    rw [show R_close s = (-1, s) from by unfold R_close; (repeat (first | rw [if_pos (by first | assumption | omega)] | rw [if_neg (by first | assumption | omega)]))]
    exact ⟨rfl, rfl, z, rfl, FC.rf, hI⟩
theorem p_undo {k : eg_K} {z : eg_Z} {X : eg_M} {n : Nat} {s : eg_S} (hI : IC z s) : eg_P k gX8_undo 4 0 0 [vR k 0] n (enc k z X) (eg_p k (some (vI (R_undo s).1)) n X (fun z' => FC z z' ∧ IC z' (R_undo s).2)) := by
  refine eg_P.of (by decide) (Nat.le_of_ble_eq_true rfl) ?_
  show eg_E k gX8_undo 4 0 0 n (enc k z X) [vR k 0] [] 0 _
  obtain ⟨hV1, hHi, ⟨hkb, hsh⟩, hT, hTl, hTb⟩ := id hI
  have hb := isB_1
  have hp := hV1.1
  have hv := hV1.2.2.1
  have q := hv.r.2
  obtain ⟨⟨z0, z1, z2, z3⟩, ⟨c1, c3, c5, c7⟩, -⟩ := id hp
  have hd0 := hHi.1.2.1
  have hd1 := hHi.1.1
  refine eg_al_n dX8_undo_0 rfl rfl ?_
  refine eg_get fl_X8_29 dX8_undo_1 (by first | exact er0 | exact ep0 hb | exact ep1 hb | exact ep3 hb | exact ep5 hb | exact ep7 hb | exact er25 | exact er34 | exact er181 | exact er182 | exact er196 | exact er199 | exact er156 | exact ep0 isB_13 | exact ep1 isB_13 | exact ep3 isB_13 | exact ep5 isB_13 | exact ep7 isB_13 | exact er26 | exact er27 | exact er28 | exact ep9 hb | exact ep10 hb | exact ep0 (isB_shelf _ (by omega))) rfl ?_
  refine eg_get fl_X8_192 dX8_undo_4 (by first | exact er0 | exact ep0 hb | exact ep1 hb | exact ep3 hb | exact ep5 hb | exact ep7 hb | exact er25 | exact er34 | exact er181 | exact er182 | exact er196 | exact er199 | exact er156 | exact ep0 isB_13 | exact ep1 isB_13 | exact ep3 isB_13 | exact ep5 isB_13 | exact ep7 isB_13 | exact er26 | exact er27 | exact er28 | exact ep9 hb | exact ep10 hb | exact ep0 (isB_shelf _ (by omega))) rfl ?_
  rw [hd0]
  refine eg_if_ne 12 dX8_undo_7 ⟨by omega, by omega⟩ rfl (fun h7 => ?_) (fun h7 => ?_)
  · refine eg_al_n dX8_undo_12 rfl rfl ?_
    refine eg_get fl_X8_29 dX8_undo_13 (by first | exact er0 | exact ep0 hb | exact ep1 hb | exact ep3 hb | exact ep5 hb | exact ep7 hb | exact er25 | exact er34 | exact er181 | exact er182 | exact er196 | exact er199 | exact er156 | exact ep0 isB_13 | exact ep1 isB_13 | exact ep3 isB_13 | exact ep5 isB_13 | exact ep7 isB_13 | exact er26 | exact er27 | exact er28 | exact ep9 hb | exact ep10 hb | exact ep0 (isB_shelf _ (by omega))) rfl ?_
    refine eg_al_n dX8_undo_16 rfl rfl ?_
    refine eg_get fl_X8_12 dX8_undo_17 (by first | exact er0 | exact ep0 hb | exact ep1 hb | exact ep3 hb | exact ep5 hb | exact ep7 hb | exact er25 | exact er34 | exact er181 | exact er182 | exact er196 | exact er199 | exact er156 | exact ep0 isB_13 | exact ep1 isB_13 | exact ep3 isB_13 | exact ep5 isB_13 | exact ep7 isB_13 | exact er26 | exact er27 | exact er28 | exact ep9 hb | exact ep10 hb | exact ep0 (isB_shelf _ (by omega))) rfl ?_
    refine eg_Vpv1 cs_X8_195 dX8_undo_20 (c_X0_restore (by omega) hHi) (by first | exact er0 | exact ep0 hb | exact ep1 hb | exact ep3 hb | exact ep5 hb | exact ep7 hb | exact er25 | exact er34 | exact er181 | exact er182 | exact er196 | exact er199 | exact er156 | exact ep0 isB_13 | exact ep1 isB_13 | exact ep3 isB_13 | exact ep5 isB_13 | exact ep7 isB_13 | exact er26 | exact er27 | exact er28 | exact ep9 hb | exact ep10 hb | exact ep0 (isB_shelf _ (by omega))) rfl (Nat.le_of_ble_eq_true rfl) (by decide) ?_
    rintro y1 ⟨m1, v1, g1⟩
    have d1 := g1.1.2.1
    refine eg_al_n dX8_undo_23 rfl rfl ?_
    refine eg_get fl_X8_29 dX8_undo_24 (by first | exact er0 | exact ep0 hb | exact ep1 hb | exact ep3 hb | exact ep5 hb | exact ep7 hb | exact er25 | exact er34 | exact er181 | exact er182 | exact er196 | exact er199 | exact er156 | exact ep0 isB_13 | exact ep1 isB_13 | exact ep3 isB_13 | exact ep5 isB_13 | exact ep7 isB_13 | exact er26 | exact er27 | exact er28 | exact ep9 hb | exact ep10 hb | exact ep0 (isB_shelf _ (by omega))) rfl ?_
    refine eg_get fl_X8_192 dX8_undo_27 (by first | exact er0 | exact ep0 hb | exact ep1 hb | exact ep3 hb | exact ep5 hb | exact ep7 hb | exact er25 | exact er34 | exact er181 | exact er182 | exact er196 | exact er199 | exact er156 | exact ep0 isB_13 | exact ep1 isB_13 | exact ep3 isB_13 | exact ep5 isB_13 | exact ep7 isB_13 | exact er26 | exact er27 | exact er28 | exact ep9 hb | exact ep10 hb | exact ep0 (isB_shelf _ (by omega))) rfl ?_
    refine eg_ireturn dX8_undo_30 rfl rfl ?_
    rw [d1]
    rw [show R_undo s = ((s.2.1 : Int) - 1, (s.2.2.1 (s.2.1 - 1), s.2.1 - 1, s.2.2)) from by unfold R_undo; (repeat (first | rw [if_pos (by first | assumption | omega)] | rw [if_neg (by first | assumption | omega)]))]
    refine ⟨congrArg (fun q => some (vI q)) (by omega), rfl, y1, rfl, fun c hc => m1 c (by omega) (by omega), v1, g1, ⟨by rw [m1 0 (by omega) (by omega)]; exact hkb, fun j hj hk => hV_c (fun i hi => m1 _ (by omega) (by omega)) (hsh j hj hk)⟩, hT, by rw [m1 182 (by omega) (by omega)]; exact hTl, fun i hi => by rw [m1 183 (by omega) (by omega)]; exact hTb i hi⟩
  · refine eg_iconst dX8_undo_10 ?_
    refine eg_ireturn dX8_undo_11 rfl rfl ?_
    rw [show R_undo s = (-1, s) from by unfold R_undo; (repeat (first | rw [if_pos (by first | assumption | omega)] | rw [if_neg (by first | assumption | omega)]))]
    exact ⟨rfl, rfl, z, rfl, FC.rf, hI⟩
theorem p_keep {k : eg_K} {z : eg_Z} {X : eg_M} {n : Nat} {s : eg_S} (hI : IC z s) {a : Int} (r_a : iR a) : eg_P k gX8_keep 3 0 0 [vR k 0, vI a] n (enc k z X) (eg_p k (some (vI (R_keep s a).1)) n X (fun z' => FC z z' ∧ IC z' (R_keep s a).2)) := by
  refine eg_P.of (by decide) (Nat.le_of_ble_eq_true rfl) ?_
  show eg_E k gX8_keep 3 0 0 n (enc k z X) [vR k 0, vI a] [] 0 _
  obtain ⟨hV1, hHi, ⟨hkb, hsh⟩, hT, hTl, hTb⟩ := id hI
  have hb := isB_1
  have hp := hV1.1
  have hv := hV1.2.2.1
  have q := hv.r.2
  obtain ⟨⟨z0, z1, z2, z3⟩, ⟨c1, c3, c5, c7⟩, -⟩ := id hp
  have r_a1 := r_a.1; have r_a2 := r_a.2
  refine eg_iload_n dX8_keep_0 rfl ?_
  refine eg_iconst dX8_keep_1 ?_
  refine eg_iconst dX8_keep_2 ?_
  refine eg_Sf3 cs_X8_79 dX8_keep_3 (c_X8_within ⟨by omega, by omega⟩ ⟨by omega, by omega⟩ ⟨by omega, by omega⟩) (Nat.le_of_ble_eq_true rfl) (by decide) ?_
  refine eg_bi_ne 11 dX8_keep_6 rfl (fun h6 => ?_) (fun h6 => ?_)
  · refine eg_al_n dX8_keep_11 rfl rfl ?_
    refine eg_get fl_X8_33 dX8_keep_12 (by first | exact er0 | exact ep0 hb | exact ep1 hb | exact ep3 hb | exact ep5 hb | exact ep7 hb | exact er25 | exact er34 | exact er181 | exact er182 | exact er196 | exact er199 | exact er156 | exact ep0 isB_13 | exact ep1 isB_13 | exact ep3 isB_13 | exact ep5 isB_13 | exact ep7 isB_13 | exact er26 | exact er27 | exact er28 | exact ep9 hb | exact ep10 hb | exact ep0 (isB_shelf _ (by omega))) rfl ?_
    refine eg_iload_n dX8_keep_15 rfl ?_
    refine eg_aald dX8_keep_16 (by first | exact er0 | exact ep0 hb | exact ep1 hb | exact ep3 hb | exact ep5 hb | exact ep7 hb | exact er25 | exact er34 | exact er181 | exact er182 | exact er196 | exact er199 | exact er156 | exact ep0 isB_13 | exact ep1 isB_13 | exact ep3 isB_13 | exact ep5 isB_13 | exact ep7 isB_13 | exact er26 | exact er27 | exact er28 | exact ep9 hb | exact ep10 hb | exact ep0 (isB_shelf _ (by omega))) (by omega) (by omega) (by decide) (by rfl) ?_
    refine eg_al_n dX8_keep_17 rfl rfl ?_
    refine eg_get fl_X8_12 dX8_keep_18 (by first | exact er0 | exact ep0 hb | exact ep1 hb | exact ep3 hb | exact ep5 hb | exact ep7 hb | exact er25 | exact er34 | exact er181 | exact er182 | exact er196 | exact er199 | exact er156 | exact ep0 isB_13 | exact ep1 isB_13 | exact ep3 isB_13 | exact ep5 isB_13 | exact ep7 isB_13 | exact er26 | exact er27 | exact er28 | exact ep9 hb | exact ep10 hb | exact ep0 (isB_shelf _ (by omega))) rfl ?_
    refine eg_Vpv1 cs_X8_88 dX8_keep_21 (bec (b := 157 + 12 * a.toNat) (isB_shelf _ (by omega)) hb (by omega) hV1) (by first | exact er0 | exact ep0 hb | exact ep1 hb | exact ep3 hb | exact ep5 hb | exact ep7 hb | exact er25 | exact er34 | exact er181 | exact er182 | exact er196 | exact er199 | exact er156 | exact ep0 isB_13 | exact ep1 isB_13 | exact ep3 isB_13 | exact ep5 isB_13 | exact ep7 isB_13 | exact er26 | exact er27 | exact er28 | exact ep9 hb | exact ep10 hb | exact ep0 (isB_shelf _ (by omega))) rfl (Nat.le_of_ble_eq_true rfl) (by decide) ?_
    rintro y1 ⟨m1, v1⟩
    have e0 : y1 0 = z 0 := m1 0 (by omega)
    have e1 : y1 4 = z 4 := m1 4 (by omega)
    refine eg_al_n dX8_keep_24 rfl rfl ?_
    refine eg_dup dX8_keep_25 rfl ?_
    refine eg_get fl_X8_37 dX8_keep_26 (by first | exact er0 | exact ep0 hb | exact ep1 hb | exact ep3 hb | exact ep5 hb | exact ep7 hb | exact er25 | exact er34 | exact er181 | exact er182 | exact er196 | exact er199 | exact er156 | exact ep0 isB_13 | exact ep1 isB_13 | exact ep3 isB_13 | exact ep5 isB_13 | exact ep7 isB_13 | exact er26 | exact er27 | exact er28 | exact ep9 hb | exact ep10 hb | exact ep0 (isB_shelf _ (by omega))) rfl ?_
    rw [e0, hkb, kpN_e]
    refine eg_iconst dX8_keep_29 ?_
    refine eg_iload_n dX8_keep_30 rfl ?_
    obtain ⟨j9, ej⟩ : ∃ j9 : Nat, a = (j9 : Int) := ⟨a.toNat, by omega⟩
    rw [show vI a = vI (j9 : Int) by rw [ej]]
    refine eg_ishl dX8_keep_31 (by omega) ?_
    rw [Int.one_mul, ← pw j9]
    have kb := kpN_b s.2.2.2.1
    have p2 := pw_lt (q := j9) (by omega)
    refine eg_orN dX8_keep_32 (by omega) (by omega) ?_
    refine eg_put fl_X8_37 dX8_keep_33 (by first | exact er0 | exact ep0 hb | exact ep1 hb | exact ep3 hb | exact ep5 hb | exact ep7 hb | exact er25 | exact er34 | exact er181 | exact er182 | exact er196 | exact er199 | exact er156 | exact ep0 isB_13 | exact ep1 isB_13 | exact ep3 isB_13 | exact ep5 isB_13 | exact ep7 isB_13 | exact er26 | exact er27 | exact er28 | exact ep9 hb | exact ep10 hb | exact ep0 (isB_shelf _ (by omega))) rfl rfl rfl rfl ?_
    refine eg_eqM es0_5 ?_
    refine eg_al_n dX8_keep_36 rfl rfl ?_
    refine eg_get fl_X8_12 dX8_keep_37 (by first | exact er0 | exact ep0 hb | exact ep1 hb | exact ep3 hb | exact ep5 hb | exact ep7 hb | exact er25 | exact er34 | exact er181 | exact er182 | exact er196 | exact er199 | exact er156 | exact ep0 isB_13 | exact ep1 isB_13 | exact ep3 isB_13 | exact ep5 isB_13 | exact ep7 isB_13 | exact er26 | exact er27 | exact er28 | exact ep9 hb | exact ep10 hb | exact ep0 (isB_shelf _ (by omega))) rfl ?_
    refine eg_get fl_X8_95 dX8_keep_40 (by first | exact er0 | exact ep0 hb | exact ep1 hb | exact ep3 hb | exact ep5 hb | exact ep7 hb | exact er25 | exact er34 | exact er181 | exact er182 | exact er196 | exact er199 | exact er156 | exact ep0 isB_13 | exact ep1 isB_13 | exact ep3 isB_13 | exact ep5 isB_13 | exact ep7 isB_13 | exact er26 | exact er27 | exact er28 | exact ep9 hb | exact ep10 hb | exact ep0 (isB_shelf _ (by omega))) rfl ?_
    refine eg_get fl_X8_99 dX8_keep_43 (by first | exact er0 | exact ep0 hb | exact ep1 hb | exact ep3 hb | exact ep5 hb | exact ep7 hb | exact er25 | exact er34 | exact er181 | exact er182 | exact er196 | exact er199 | exact er156 | exact ep0 isB_13 | exact ep1 isB_13 | exact ep3 isB_13 | exact ep5 isB_13 | exact ep7 isB_13 | exact er26 | exact er27 | exact er28 | exact ep9 hb | exact ep10 hb | exact ep0 (isB_shelf _ (by omega))) rfl ?_
    refine eg_ireturn dX8_keep_46 rfl rfl ?_
    rw [va_up_n _ _ (show (1 + 3 : Nat) ≠ 0 by decide), show y1 (1 + 3) 3 = s.1 1 by rw [show (1 + 3 : Nat) = 4 from rfl, e1]; exact c3]
    rw [show R_keep s a = (s.1 1, (s.1, s.2.1, s.2.2.1, va_up s.2.2.2.1 a.toNat true, va_up s.2.2.2.2.1 a.toNat s.1, s.2.2.2.2.2)) from by unfold R_keep; (repeat (first | rw [if_pos (by first | assumption | omega)] | rw [if_neg (by first | assumption | omega)]))]
    refine ⟨rfl, rfl, _, rfl, fun c hc => by rw [va_up_n _ _ (by omega)]; exact m1 c (by omega), hV_c (fun j hj => by rw [va_up_n _ _ (by omega)]; exact m1 _ (by omega)) hV1, hH_c hHi (fun c g1 g2 => by rw [va_up_n _ _ (by omega)]; exact m1 c (by omega)), ⟨?_, fun j hj hk => ?_⟩, hT, by rw [va_up_n _ _ (by decide), m1 182 (by omega)]; exact hTl, fun i hi => by rw [va_up_n _ _ (by decide), m1 183 (by omega)]; exact hTb i hi⟩
    · rw [va_up_s, va_up_s]; show _ = kpB (va_up s.2.2.2.1 a.toNat true); rw [kpN_e, ← kpN_or _ (by omega), show j9 = a.toNat by omega]
    · have hk : va_up s.2.2.2.1 a.toNat true j = true := hk
      show hV _ _ (va_up s.2.2.2.2.1 a.toNat s.1 j)
      by_cases e : j = a.toNat
      · subst e; rw [va_up_s]; exact hV_c (fun i hi => va_up_n _ _ (by omega)) v1
      · rw [va_up_n _ _ e] at hk ⊢
        exact hV_c (fun i hi => by rw [va_up_n _ _ (by omega)]; exact m1 _ (by omega)) (hsh j hj hk)
  · refine eg_iconst dX8_keep_9 ?_
    refine eg_ireturn dX8_keep_10 rfl rfl ?_
    rw [show R_keep s a = (-1, s) from by unfold R_keep; (repeat (first | rw [if_pos (by first | assumption | omega)] | rw [if_neg (by first | assumption | omega)]))]
    exact ⟨rfl, rfl, z, rfl, FC.rf, hI⟩
theorem p_back {k : eg_K} {z : eg_Z} {X : eg_M} {n : Nat} {s : eg_S} (hI : IC z s) {a : Int} (r_a : iR a) : eg_P k gX8_back 3 0 0 [vR k 0, vI a] n (enc k z X) (eg_p k (some (vI (R_back s a).1)) n X (fun z' => FC z z' ∧ IC z' (R_back s a).2)) := by
  refine eg_P.of (by decide) (Nat.le_of_ble_eq_true rfl) ?_
  show eg_E k gX8_back 3 0 0 n (enc k z X) [vR k 0, vI a] [] 0 _
  obtain ⟨hV1, hHi, ⟨hkb, hsh⟩, hT, hTl, hTb⟩ := id hI
  have hb := isB_1
  have hp := hV1.1
  have hv := hV1.2.2.1
  have q := hv.r.2
  obtain ⟨⟨z0, z1, z2, z3⟩, ⟨c1, c3, c5, c7⟩, -⟩ := id hp
  have r_a1 := r_a.1; have r_a2 := r_a.2
  refine eg_iload_n dX8_back_0 rfl ?_
  refine eg_iconst dX8_back_1 ?_
  refine eg_iconst dX8_back_2 ?_
  refine eg_Sf3 cs_X8_79 dX8_back_3 (c_X8_within ⟨by omega, by omega⟩ ⟨by omega, by omega⟩ ⟨by omega, by omega⟩) (Nat.le_of_ble_eq_true rfl) (by decide) ?_
  refine eg_bi_ne 11 dX8_back_6 rfl (fun h6 => ?_) (fun h6 => ?_)
  · refine eg_al_n dX8_back_11 rfl rfl ?_
    refine eg_get fl_X8_37 dX8_back_12 (by first | exact er0 | exact ep0 hb | exact ep1 hb | exact ep3 hb | exact ep5 hb | exact ep7 hb | exact er25 | exact er34 | exact er181 | exact er182 | exact er196 | exact er199 | exact er156 | exact ep0 isB_13 | exact ep1 isB_13 | exact ep3 isB_13 | exact ep5 isB_13 | exact ep7 isB_13 | exact er26 | exact er27 | exact er28 | exact ep9 hb | exact ep10 hb | exact ep0 (isB_shelf _ (by omega))) rfl ?_
    rw [hkb, kpN_e]
    refine eg_iconst dX8_back_15 ?_
    refine eg_iload_n dX8_back_16 rfl ?_
    obtain ⟨j9, ej⟩ : ∃ j9 : Nat, a = (j9 : Int) := ⟨a.toNat, by omega⟩
    have ea : j9 = a.toNat := by omega
    rw [show vI a = vI (j9 : Int) by rw [ej]]
    refine eg_ishl dX8_back_17 (by omega) ?_
    rw [Int.one_mul, ← pw j9]
    have kb := kpN_b s.2.2.2.1
    have p2 := pw_lt (q := j9) (by omega)
    have p3 : 0 < (2 : Nat) ^ j9 := Nat.pow_pos (by decide)
    refine eg_andN dX8_back_18 (by omega) (by omega) ?_
    rw [kpN_and _ (show j9 < 2 by omega)]
    have ib : (if s.2.2.2.1 j9 = true then 2 ^ j9 else 0 : Nat) ≤ 32768 := by split <;> omega
    refine eg_if_ne 25 dX8_back_19 ⟨by omega, by omega⟩ rfl (fun h19 => ?_) (fun h19 => ?_)
    · refine eg_al_n dX8_back_25 rfl rfl ?_
      refine eg_get fl_X8_12 dX8_back_26 (by first | exact er0 | exact ep0 hb | exact ep1 hb | exact ep3 hb | exact ep5 hb | exact ep7 hb | exact er25 | exact er34 | exact er181 | exact er182 | exact er196 | exact er199 | exact er156 | exact ep0 isB_13 | exact ep1 isB_13 | exact ep3 isB_13 | exact ep5 isB_13 | exact ep7 isB_13 | exact er26 | exact er27 | exact er28 | exact ep9 hb | exact ep10 hb | exact ep0 (isB_shelf _ (by omega))) rfl ?_
      rw [← ej]
      have hk9 : s.2.2.2.1 j9 = true := Decidable.byContradiction (fun hh => by rw [if_neg hh] at h19; exact h19 rfl)
      refine eg_al_n dX8_back_29 rfl rfl ?_
      refine eg_get fl_X8_33 dX8_back_30 (by first | exact er0 | exact ep0 hb | exact ep1 hb | exact ep3 hb | exact ep5 hb | exact ep7 hb | exact er25 | exact er34 | exact er181 | exact er182 | exact er196 | exact er199 | exact er156 | exact ep0 isB_13 | exact ep1 isB_13 | exact ep3 isB_13 | exact ep5 isB_13 | exact ep7 isB_13 | exact er26 | exact er27 | exact er28 | exact ep9 hb | exact ep10 hb | exact ep0 (isB_shelf _ (by omega))) rfl ?_
      refine eg_iload_n dX8_back_33 rfl ?_
      refine eg_aald dX8_back_34 (by first | exact er0 | exact ep0 hb | exact ep1 hb | exact ep3 hb | exact ep5 hb | exact ep7 hb | exact er25 | exact er34 | exact er181 | exact er182 | exact er196 | exact er199 | exact er156 | exact ep0 isB_13 | exact ep1 isB_13 | exact ep3 isB_13 | exact ep5 isB_13 | exact ep7 isB_13 | exact er26 | exact er27 | exact er28 | exact ep9 hb | exact ep10 hb | exact ep0 (isB_shelf _ (by omega))) (by omega) (by omega) (by decide) (by rfl) ?_
      refine eg_Vpv1 cs_X8_88 dX8_back_35 (bec (b2 := 157 + 12 * a.toNat) hb (isB_shelf _ (by omega)) (by omega) (hsh a.toNat (by omega) (by rw [← ea]; exact hk9))) (by first | exact er0 | exact ep0 hb | exact ep1 hb | exact ep3 hb | exact ep5 hb | exact ep7 hb | exact er25 | exact er34 | exact er181 | exact er182 | exact er196 | exact er199 | exact er156 | exact ep0 isB_13 | exact ep1 isB_13 | exact ep3 isB_13 | exact ep5 isB_13 | exact ep7 isB_13 | exact er26 | exact er27 | exact er28 | exact ep9 hb | exact ep10 hb | exact ep0 (isB_shelf _ (by omega))) rfl (Nat.le_of_ble_eq_true rfl) (by decide) ?_
      rintro y1 ⟨m1, v1⟩
      have c3b := v1.1.2.1.2.1
      refine eg_al_n dX8_back_38 rfl rfl ?_
      refine eg_get fl_X8_29 dX8_back_39 (by first | exact er0 | exact ep0 hb | exact ep1 hb | exact ep3 hb | exact ep5 hb | exact ep7 hb | exact er25 | exact er34 | exact er181 | exact er182 | exact er196 | exact er199 | exact er156 | exact ep0 isB_13 | exact ep1 isB_13 | exact ep3 isB_13 | exact ep5 isB_13 | exact ep7 isB_13 | exact er26 | exact er27 | exact er28 | exact ep9 hb | exact ep10 hb | exact ep0 (isB_shelf _ (by omega))) rfl ?_
      refine eg_Vv0 cs_X8_92 dX8_back_42 (c_X0_forget) (by first | exact er0 | exact ep0 hb | exact ep1 hb | exact ep3 hb | exact ep5 hb | exact ep7 hb | exact er25 | exact er34 | exact er181 | exact er182 | exact er196 | exact er199 | exact er156 | exact ep0 isB_13 | exact ep1 isB_13 | exact ep3 isB_13 | exact ep5 isB_13 | exact ep7 isB_13 | exact er26 | exact er27 | exact er28 | exact ep9 hb | exact ep10 hb | exact ep0 (isB_shelf _ (by omega))) rfl (Nat.le_of_ble_eq_true rfl) (by decide) ?_
      refine eg_al_n dX8_back_45 rfl rfl ?_
      refine eg_get fl_X8_12 dX8_back_46 (by first | exact er0 | exact ep0 hb | exact ep1 hb | exact ep3 hb | exact ep5 hb | exact ep7 hb | exact er25 | exact er34 | exact er181 | exact er182 | exact er196 | exact er199 | exact er156 | exact ep0 isB_13 | exact ep1 isB_13 | exact ep3 isB_13 | exact ep5 isB_13 | exact ep7 isB_13 | exact er26 | exact er27 | exact er28 | exact ep9 hb | exact ep10 hb | exact ep0 (isB_shelf _ (by omega))) rfl ?_
      refine eg_get fl_X8_95 dX8_back_49 (by first | exact er0 | exact ep0 hb | exact ep1 hb | exact ep3 hb | exact ep5 hb | exact ep7 hb | exact er25 | exact er34 | exact er181 | exact er182 | exact er196 | exact er199 | exact er156 | exact ep0 isB_13 | exact ep1 isB_13 | exact ep3 isB_13 | exact ep5 isB_13 | exact ep7 isB_13 | exact er26 | exact er27 | exact er28 | exact ep9 hb | exact ep10 hb | exact ep0 (isB_shelf _ (by omega))) rfl ?_
      refine eg_get fl_X8_99 dX8_back_52 (by first | exact er0 | exact ep0 hb | exact ep1 hb | exact ep3 hb | exact ep5 hb | exact ep7 hb | exact er25 | exact er34 | exact er181 | exact er182 | exact er196 | exact er199 | exact er156 | exact ep0 isB_13 | exact ep1 isB_13 | exact ep3 isB_13 | exact ep5 isB_13 | exact ep7 isB_13 | exact er26 | exact er27 | exact er28 | exact ep9 hb | exact ep10 hb | exact ep0 (isB_shelf _ (by omega))) rfl ?_
      refine eg_ireturn dX8_back_55 rfl rfl ?_
      rw [va_up_n _ _ (show (1 + 3 : Nat) ≠ 34 by decide), c3b]
      rw [show R_back s a = (s.2.2.2.2.1 a.toNat 1, (s.2.2.2.2.1 a.toNat, 0, s.2.2)) from by unfold R_back; rw [if_pos (by omega), if_pos (by rw [← ea]; exact hk9)]]
      refine ⟨rfl, rfl, _, rfl, fun c hc => by rw [va_up_n _ _ (by omega)]; exact m1 c (by omega), hV_c (fun j hj => va_up_n _ _ (by omega)) v1, ⟨⟨by show (0 : Nat) ≤ 10; decide, by rw [va_up_s, va_up_s]; rfl, ?_, ?_⟩, fun j hj => absurd hj (Nat.not_lt_zero j)⟩, ⟨by rw [va_up_n _ _ (by decide), m1 0 (by omega)]; exact hkb, fun j hj hk => hV_c (fun i hi => by rw [va_up_n _ _ (by omega)]; exact m1 _ (by omega)) (hsh j hj hk)⟩, hT, by rw [va_up_n _ _ (by decide), m1 182 (by omega)]; exact hTl, fun i hi => by rw [va_up_n _ _ (by decide), m1 183 (by omega)]; exact hTb i hi⟩
      · rw [va_up_s, va_up_n _ _ (by decide), m1 34 (by omega)]; exact hHi.1.2.2.1
      · rw [va_up_s, va_up_n _ _ (by decide), m1 34 (by omega)]; exact hHi.1.2.2.2
    · refine eg_bipush dX8_back_22 (by decide) ?_
      refine eg_ireturn dX8_back_24 rfl rfl ?_
      have hk9 : ¬ s.2.2.2.1 j9 = true := fun hh => by rw [if_pos hh] at h19; omega
      rw [show R_back s a = (-2, s) from by unfold R_back; rw [if_pos (by omega), if_neg (by rw [← ea]; exact hk9)]]
      exact ⟨rfl, rfl, z, rfl, FC.rf, hI⟩
  · refine eg_iconst dX8_back_9 ?_
    refine eg_ireturn dX8_back_10 rfl rfl ?_
    rw [show R_back s a = (-1, s) from by unfold R_back; (repeat (first | rw [if_pos (by first | assumption | omega)] | rw [if_neg (by first | assumption | omega)]))]
    exact ⟨rfl, rfl, z, rfl, FC.rf, hI⟩
theorem p_feed {k : eg_K} {z : eg_Z} {X : eg_M} {n : Nat} {s : eg_S} (hI : IC z s) {a b c d e : Int} (r_a : iR a) (r_b : iR b) (r_c : iR c) (r_d : iR d) (r_e : iR e) : eg_P k gX8_feed 1 0 0 [vR k 0, vI a, vI b, vI c, vI d, vI e] n (enc k z X) (eg_p k (some (vI (R_feed s a b c d e).1)) n X (fun z' => FC z z' ∧ IC z' (R_feed s a b c d e).2)) := by
  refine eg_P.of (by decide) (Nat.le_of_ble_eq_true rfl) ?_
  show eg_E k gX8_feed 1 0 0 n (enc k z X) [vR k 0, vI a, vI b, vI c, vI d, vI e, vU] [] 0 _
  obtain ⟨hV1, hHi, ⟨hkb, hsh⟩, hT, hTl, hTb⟩ := id hI
  have hb := isB_1
  have hp := hV1.1
  have hv := hV1.2.2.1
  have q := hv.r.2
  obtain ⟨⟨z0, z1, z2, z3⟩, ⟨c1, c3, c5, c7⟩, -⟩ := id hp
  have r_a1 := r_a.1; have r_a2 := r_a.2
  have r_b1 := r_b.1; have r_b2 := r_b.2
  have r_c1 := r_c.1; have r_c2 := r_c.2
  have r_d1 := r_d.1; have r_d2 := r_d.2
  have r_e1 := r_e.1; have r_e2 := r_e.2
  have hT1 := hT.1
  refine eg_al_n dX8_feed_0 rfl rfl ?_
  refine eg_get fl_X8_44 dX8_feed_1 (by first | exact er0 | exact ep0 hb | exact ep1 hb | exact ep3 hb | exact ep5 hb | exact ep7 hb | exact er25 | exact er34 | exact er181 | exact er182 | exact er196 | exact er199 | exact er156 | exact ep0 isB_13 | exact ep1 isB_13 | exact ep3 isB_13 | exact ep5 isB_13 | exact ep7 isB_13 | exact er26 | exact er27 | exact er28 | exact ep9 hb | exact ep10 hb | exact ep0 (isB_shelf _ (by omega))) rfl ?_
  refine eg_get fl_X8_62 dX8_feed_4 (by first | exact er0 | exact ep0 hb | exact ep1 hb | exact ep3 hb | exact ep5 hb | exact ep7 hb | exact er25 | exact er34 | exact er181 | exact er182 | exact er196 | exact er199 | exact er156 | exact ep0 isB_13 | exact ep1 isB_13 | exact ep3 isB_13 | exact ep5 isB_13 | exact ep7 isB_13 | exact er26 | exact er27 | exact er28 | exact ep9 hb | exact ep10 hb | exact ep0 (isB_shelf _ (by omega))) rfl ?_
  refine eg_as dX8_feed_7 rfl rfl rfl rfl ?_
  refine eg_al dX8_feed_9 rfl rfl ?_
  refine eg_Vf0 cs_X8_66 dX8_feed_11 (c_X6_hasRoom hT.1 hTl) (by first | exact er0 | exact ep0 hb | exact ep1 hb | exact ep3 hb | exact ep5 hb | exact ep7 hb | exact er25 | exact er34 | exact er181 | exact er182 | exact er196 | exact er199 | exact er156 | exact ep0 isB_13 | exact ep1 isB_13 | exact ep3 isB_13 | exact ep5 isB_13 | exact ep7 isB_13 | exact er26 | exact er27 | exact er28 | exact ep9 hb | exact ep10 hb | exact ep0 (isB_shelf _ (by omega))) rfl (Nat.le_of_ble_eq_true rfl) (by decide) ?_
  refine eg_bi_ne 19 dX8_feed_14 rfl (fun h14 => ?_) (fun h14 => ?_)
  · refine eg_al dX8_feed_19 rfl rfl ?_
    refine eg_iload_n dX8_feed_21 rfl ?_
    refine eg_Vpv1 cs_X8_72 dX8_feed_22 (c_X6_append (L := s.2.2.2.2.2.1) (by omega) (by exact hTl) r_a) (by first | exact er0 | exact ep0 hb | exact ep1 hb | exact ep3 hb | exact ep5 hb | exact ep7 hb | exact er25 | exact er34 | exact er181 | exact er182 | exact er196 | exact er199 | exact er156 | exact ep0 isB_13 | exact ep1 isB_13 | exact ep3 isB_13 | exact ep5 isB_13 | exact ep7 isB_13 | exact er26 | exact er27 | exact er28 | exact ep9 hb | exact ep10 hb | exact ep0 (isB_shelf _ (by omega))) rfl (Nat.le_of_ble_eq_true rfl) (by decide) ?_
    rintro y1 ⟨m1, l1, k1⟩
    refine eg_al dX8_feed_25 rfl rfl ?_
    refine eg_iload_n dX8_feed_27 rfl ?_
    refine eg_Vpv1 cs_X8_72 dX8_feed_28 (c_X6_append (L := s.2.2.2.2.2.1 + 4) (by omega) (by rw [l1]; omega) r_b) (by first | exact er0 | exact ep0 hb | exact ep1 hb | exact ep3 hb | exact ep5 hb | exact ep7 hb | exact er25 | exact er34 | exact er181 | exact er182 | exact er196 | exact er199 | exact er156 | exact ep0 isB_13 | exact ep1 isB_13 | exact ep3 isB_13 | exact ep5 isB_13 | exact ep7 isB_13 | exact er26 | exact er27 | exact er28 | exact ep9 hb | exact ep10 hb | exact ep0 (isB_shelf _ (by omega))) rfl (Nat.le_of_ble_eq_true rfl) (by decide) ?_
    rintro y2 ⟨m2, l2, k2⟩
    refine eg_al dX8_feed_31 rfl rfl ?_
    refine eg_iload_n dX8_feed_33 rfl ?_
    refine eg_Vpv1 cs_X8_72 dX8_feed_34 (c_X6_append (L := s.2.2.2.2.2.1 + 8) (by omega) (by rw [l2]; omega) r_c) (by first | exact er0 | exact ep0 hb | exact ep1 hb | exact ep3 hb | exact ep5 hb | exact ep7 hb | exact er25 | exact er34 | exact er181 | exact er182 | exact er196 | exact er199 | exact er156 | exact ep0 isB_13 | exact ep1 isB_13 | exact ep3 isB_13 | exact ep5 isB_13 | exact ep7 isB_13 | exact er26 | exact er27 | exact er28 | exact ep9 hb | exact ep10 hb | exact ep0 (isB_shelf _ (by omega))) rfl (Nat.le_of_ble_eq_true rfl) (by decide) ?_
    rintro y3 ⟨m3, l3, k3⟩
    refine eg_al dX8_feed_37 rfl rfl ?_
    refine eg_iload dX8_feed_39 rfl ?_
    refine eg_Vpv1 cs_X8_72 dX8_feed_41 (c_X6_append (L := s.2.2.2.2.2.1 + 12) (by omega) (by rw [l3]; omega) r_d) (by first | exact er0 | exact ep0 hb | exact ep1 hb | exact ep3 hb | exact ep5 hb | exact ep7 hb | exact er25 | exact er34 | exact er181 | exact er182 | exact er196 | exact er199 | exact er156 | exact ep0 isB_13 | exact ep1 isB_13 | exact ep3 isB_13 | exact ep5 isB_13 | exact ep7 isB_13 | exact er26 | exact er27 | exact er28 | exact ep9 hb | exact ep10 hb | exact ep0 (isB_shelf _ (by omega))) rfl (Nat.le_of_ble_eq_true rfl) (by decide) ?_
    rintro y4 ⟨m4, l4, k4⟩
    refine eg_al dX8_feed_44 rfl rfl ?_
    refine eg_iload dX8_feed_46 rfl ?_
    refine eg_Vpv1 cs_X8_72 dX8_feed_48 (c_X6_append (L := s.2.2.2.2.2.1 + 16) (by omega) (by rw [l4]; omega) r_e) (by first | exact er0 | exact ep0 hb | exact ep1 hb | exact ep3 hb | exact ep5 hb | exact ep7 hb | exact er25 | exact er34 | exact er181 | exact er182 | exact er196 | exact er199 | exact er156 | exact ep0 isB_13 | exact ep1 isB_13 | exact ep3 isB_13 | exact ep5 isB_13 | exact ep7 isB_13 | exact er26 | exact er27 | exact er28 | exact ep9 hb | exact ep10 hb | exact ep0 (isB_shelf _ (by omega))) rfl (Nat.le_of_ble_eq_true rfl) (by decide) ?_
    rintro y5 ⟨m5, l5, k5⟩
    refine eg_al dX8_feed_51 rfl rfl ?_
    refine eg_get fl_X8_76 dX8_feed_53 (by first | exact er0 | exact ep0 hb | exact ep1 hb | exact ep3 hb | exact ep5 hb | exact ep7 hb | exact er25 | exact er34 | exact er181 | exact er182 | exact er196 | exact er199 | exact er156 | exact ep0 isB_13 | exact ep1 isB_13 | exact ep3 isB_13 | exact ep5 isB_13 | exact ep7 isB_13 | exact er26 | exact er27 | exact er28 | exact ep9 hb | exact ep10 hb | exact ep0 (isB_shelf _ (by omega))) rfl ?_
    refine eg_ireturn dX8_feed_56 rfl rfl ?_
    rw [show R_feed s a b c d e = ((s.2.2.2.2.2.1 : Int) + 20, tpS s (s.2.2.2.2.2.1 + 20) (ap5 s.2.2.2.2.2.2 s.2.2.2.2.2.1 a b c d e)) from by unfold R_feed; (repeat (first | rw [if_pos (by first | assumption | omega)] | rw [if_neg (by first | assumption | omega)]))]
    have ee : ∀ cc, cc ≠ 182 → cc ≠ 183 → y5 cc = z cc := fun cc h1 h2 => by rw [m5 cc h1 h2, m4 cc h1 h2, m3 cc h1 h2, m2 cc h1 h2, m1 cc h1 h2]
    refine ⟨congrArg (fun q => some (vI q)) (by rw [l5]; omega), rfl, y5, rfl, fun cc hc => ee cc (by omega) (by omega), hV_c (fun j hj => ee _ (by omega) (by omega)) hV1, hH_c hHi (fun cc g1 g2 => ee cc (by omega) (by omega)), ⟨by rw [ee 0 (by omega) (by omega)]; exact hkb, fun j hj hk => hV_c (fun i hi => ee _ (by omega) (by omega)) (hsh j hj hk)⟩, ⟨by show s.2.2.2.2.2.1 + 20 ≤ 400; omega, ?_⟩, by rw [l5]; show _ = ((s.2.2.2.2.2.1 + 20 : Nat) : Int); omega, ?_⟩
    · exact apN_b (apN_b (apN_b (apN_b (apN_b hT.2 4) 4) 4) 4) 4
    · intro i hi
      show y5 183 i = ap5 s.2.2.2.2.2.2 s.2.2.2.2.2.1 a b c d e i
      rw [k5, k4, k3, k2, k1]
      exact apN_c (apN_c (apN_c (apN_c (apN_c hTb 4) 4) 4) 4) 4 i hi
  · refine eg_iconst dX8_feed_17 ?_
    refine eg_ireturn dX8_feed_18 rfl rfl ?_
    rw [show R_feed s a b c d e = (-1, s) from by unfold R_feed; (repeat (first | rw [if_pos (by first | assumption | omega)] | rw [if_neg (by first | assumption | omega)]))]
    exact ⟨rfl, rfl, z, rfl, FC.rf, hI⟩
