theorem FB_PL {L : Nat} {t : Nat → Int} (hL : L ≤ 400) : ∀ (m i : Nat) (v : eg_v), i ≤ L → tv v → FB (PL L t m i v) ∧ ∀ v', PL L t m i v = .inr v' → tv v'
  | 0, i, v, hi, ht => ⟨FB_r, fun v' h => by injection h with h; subst h; exact ht⟩
  | m + 1, i, v, hi, ht => by
    have s1 := sk_b (t := t) hi
    by_cases c : L ≤ sk L t i
    · rw [PL_e c]; exact ⟨FB_r, fun v' h => by injection h with h; subst h; exact ht⟩
    · by_cases d : tc L t (sk L t i) = 59
      · rw [PL_59 c d]
        refine ⟨FB_bd (FB_PT hL (by omega)) (fun a ha => ?_), fun v' h => ?_⟩
        · have p := PT_t ht (show sk L t i + 1 ≤ L by omega) ha
          exact (FB_PL hL m a.1 a.2 p.2.1 p.2.2).1
        · obtain ⟨a, ha, h⟩ := bd_i h
          have p := PT_t ht (show sk L t i + 1 ≤ L by omega) ha
          exact (FB_PL hL m a.1 a.2 p.2.1 p.2.2).2 v' h
      · rw [PL_no c d]; exact ⟨FB_l (by omega), fun v' h => by cases h⟩
theorem FB_TL {L : Nat} {t : Nat → Int} (hL : L ≤ 400) : FB (TL L t) ∧ ∀ v, TL L t = .inr v → tv v := by
  unfold TL
  refine ⟨FB_bd (FB_hb hL) (fun a ha => (FB_PL hL _ _ _ (hb_t ha).1 (hb_t ha).2).1), fun v h => ?_⟩
  obtain ⟨a, ha, h⟩ := bd_i h
  exact (FB_PL hL _ _ _ (hb_t ha).1 (hb_t ha).2).2 v h
theorem ft_TL {L : Nat} {t : Nat → Int} (hL : L ≤ 400) : 0 ≤ ftR (TL L t) ∧ ftR (TL L t) ≤ 4000 := by
  cases h : TL L t with
  | inl e => have := (FB_TL (t := t) hL).1 e h; rw [ft_l]; omega
  | inr v => rw [ft_r]; omega
theorem p_tell {k : eg_K} {z : eg_Z} {X : eg_M} {n : Nat} {s : eg_S} (hI : IC z s) : eg_P k gX8_tell 9 0 0 [vR k 0] n (enc k z X) (eg_p k (some (vI (R_tell s).1)) n X (fun z' => FC z z' ∧ IC z' (R_tell s).2)) := by
  refine eg_P.of (by decide) (Nat.le_of_ble_eq_true rfl) ?_
  show eg_E k gX8_tell 9 0 0 n (enc k z X) [vR k 0, vU] [] 0 _
  obtain ⟨hV1, hHi, ⟨hkb, hsh⟩, hT, hTl, hTb⟩ := id hI
  have hb := isB_1
  have hp := hV1.1
  have hv := hV1.2.2.1
  have q := hv.r.2
  obtain ⟨⟨z0, z1, z2, z3⟩, ⟨c1, c3, c5, c7⟩, -⟩ := id hp
  refine eg_al_n dX8_tell_0 rfl rfl ?_
  refine eg_get fl_X8_44 dX8_tell_1 (by first | exact er0 | exact ep0 hb | exact ep1 hb | exact ep3 hb | exact ep5 hb | exact ep7 hb | exact er25 | exact er34 | exact er181 | exact er182 | exact er196 | exact er199 | exact er156 | exact ep0 isB_13 | exact ep1 isB_13 | exact ep3 isB_13 | exact ep5 isB_13 | exact ep7 isB_13 | exact er26 | exact er27 | exact er28 | exact ep9 hb | exact ep10 hb | exact ep0 (isB_shelf _ (by omega))) rfl ?_
  refine eg_Vpf0 cs_X8_83 dX8_tell_4 (c_read (L := s.2.2.2.2.2.1) (t := s.2.2.2.2.2.2) ⟨hT.1, hTl, hTb⟩) (by first | exact er0 | exact ep0 hb | exact ep1 hb | exact ep3 hb | exact ep5 hb | exact ep7 hb | exact er25 | exact er34 | exact er181 | exact er182 | exact er196 | exact er199 | exact er156 | exact ep0 isB_13 | exact ep1 isB_13 | exact ep3 isB_13 | exact ep5 isB_13 | exact ep7 isB_13 | exact er26 | exact er27 | exact er28 | exact ep9 hb | exact ep10 hb | exact ep0 (isB_shelf _ (by omega))) rfl (Nat.le_of_ble_eq_true rfl) (by decide) ?_
  rintro y1 ⟨d3, d6⟩
  have fb := ft_TL (t := s.2.2.2.2.2.2) hT.1
  refine eg_istore_n dX8_tell_7 rfl rfl rfl ?_
  refine eg_al_n dX8_tell_8 rfl rfl ?_
  refine eg_get fl_X8_44 dX8_tell_9 (by first | exact er0 | exact ep0 hb | exact ep1 hb | exact ep3 hb | exact ep5 hb | exact ep7 hb | exact er25 | exact er34 | exact er181 | exact er182 | exact er196 | exact er199 | exact er156 | exact ep0 isB_13 | exact ep1 isB_13 | exact ep3 isB_13 | exact ep5 isB_13 | exact ep7 isB_13 | exact er26 | exact er27 | exact er28 | exact ep9 hb | exact ep10 hb | exact ep0 (isB_shelf _ (by omega))) rfl ?_
  refine eg_get fl_X8_62 dX8_tell_12 (by first | exact er0 | exact ep0 hb | exact ep1 hb | exact ep3 hb | exact ep5 hb | exact ep7 hb | exact er25 | exact er34 | exact er181 | exact er182 | exact er196 | exact er199 | exact er156 | exact ep0 isB_13 | exact ep1 isB_13 | exact ep3 isB_13 | exact ep5 isB_13 | exact ep7 isB_13 | exact er26 | exact er27 | exact er28 | exact ep9 hb | exact ep10 hb | exact ep0 (isB_shelf _ (by omega))) rfl ?_
  refine eg_iconst dX8_tell_15 ?_
  refine eg_put fl_X8_76 dX8_tell_16 (by first | exact er0 | exact ep0 hb | exact ep1 hb | exact ep3 hb | exact ep5 hb | exact ep7 hb | exact er25 | exact er34 | exact er181 | exact er182 | exact er196 | exact er199 | exact er156 | exact ep0 isB_13 | exact ep1 isB_13 | exact ep3 isB_13 | exact ep5 isB_13 | exact ep7 isB_13 | exact er26 | exact er27 | exact er28 | exact ep9 hb | exact ep10 hb | exact ep0 (isB_shelf _ (by omega))) rfl rfl rfl rfl ?_
  refine eg_eqM es182_1 ?_
  have i1 : va_up y1 182 (va_up (y1 182) 1 0) 182 1 = 0 := by rw [va_up_s, va_up_s]
  have i3 : ∀ c, c ≠ 182 → va_up y1 182 (va_up (y1 182) 1 0) c = y1 c := fun c hc => va_up_n _ _ hc
  generalize va_up y1 182 (va_up (y1 182) 1 0) = y2 at i1 i3 ⊢
  have f2 : ∀ c, c ≠ 181 → c ≠ 182 → (c < 184 ∨ 196 ≤ c) → y2 c = z c := fun c h1 h2 h3 => (i3 c h2).trans (d3 c h1 h3)
  refine eg_iload_n dX8_tell_19 rfl ?_
  refine eg_if_eq 28 dX8_tell_20 ⟨by omega, by omega⟩ rfl (fun h20 => ?_) (fun h20 => ?_)
  · obtain ⟨v9, hE⟩ : ∃ v9, TL s.2.2.2.2.2.1 s.2.2.2.2.2.2 = .inr v9 := by
      cases hE : TL s.2.2.2.2.2.1 s.2.2.2.2.2.2 with
      | inl e => have := (FB_TL (t := s.2.2.2.2.2.2) hT.1).1 e hE; rw [hE, ft_l] at h20; omega
      | inr v => exact ⟨v, rfl⟩
    have pv := d6 v9 hE
    have hV2 : hV y2 184 v9 := ⟨hP_k (fun j hj => i3 _ (by omega)) pv.1, hL_t pv.2, okV_t pv.2⟩
    refine eg_al_n dX8_tell_28 rfl rfl ?_
    refine eg_get fl_X8_12 dX8_tell_29 (by first | exact er0 | exact ep0 hb | exact ep1 hb | exact ep3 hb | exact ep5 hb | exact ep7 hb | exact er25 | exact er34 | exact er181 | exact er182 | exact er196 | exact er199 | exact er156 | exact ep0 isB_13 | exact ep1 isB_13 | exact ep3 isB_13 | exact ep5 isB_13 | exact ep7 isB_13 | exact er26 | exact er27 | exact er28 | exact ep9 hb | exact ep10 hb | exact ep0 (isB_shelf _ (by omega))) rfl ?_
    refine eg_al_n dX8_tell_32 rfl rfl ?_
    refine eg_get fl_X8_44 dX8_tell_33 (by first | exact er0 | exact ep0 hb | exact ep1 hb | exact ep3 hb | exact ep5 hb | exact ep7 hb | exact er25 | exact er34 | exact er181 | exact er182 | exact er196 | exact er199 | exact er156 | exact ep0 isB_13 | exact ep1 isB_13 | exact ep3 isB_13 | exact ep5 isB_13 | exact ep7 isB_13 | exact er26 | exact er27 | exact er28 | exact ep9 hb | exact ep10 hb | exact ep0 (isB_shelf _ (by omega))) rfl ?_
    refine eg_get fl_X8_87 dX8_tell_36 (by first | exact er0 | exact ep0 hb | exact ep1 hb | exact ep3 hb | exact ep5 hb | exact ep7 hb | exact er25 | exact er34 | exact er181 | exact er182 | exact er196 | exact er199 | exact er156 | exact ep0 isB_13 | exact ep1 isB_13 | exact ep3 isB_13 | exact ep5 isB_13 | exact ep7 isB_13 | exact er26 | exact er27 | exact er28 | exact ep9 hb | exact ep10 hb | exact ep0 (isB_shelf _ (by omega))) rfl ?_
    refine eg_Vpv1 cs_X8_88 dX8_tell_39 (bec hb isB_184 (by decide) hV2) (by first | exact er0 | exact ep0 hb | exact ep1 hb | exact ep3 hb | exact ep5 hb | exact ep7 hb | exact er25 | exact er34 | exact er181 | exact er182 | exact er196 | exact er199 | exact er156 | exact ep0 isB_13 | exact ep1 isB_13 | exact ep3 isB_13 | exact ep5 isB_13 | exact ep7 isB_13 | exact er26 | exact er27 | exact er28 | exact ep9 hb | exact ep10 hb | exact ep0 (isB_shelf _ (by omega))) rfl (Nat.le_of_ble_eq_true rfl) (by decide) ?_
    rintro y3 ⟨m3, v3⟩
    refine eg_al_n dX8_tell_42 rfl rfl ?_
    refine eg_get fl_X8_29 dX8_tell_43 (by first | exact er0 | exact ep0 hb | exact ep1 hb | exact ep3 hb | exact ep5 hb | exact ep7 hb | exact er25 | exact er34 | exact er181 | exact er182 | exact er196 | exact er199 | exact er156 | exact ep0 isB_13 | exact ep1 isB_13 | exact ep3 isB_13 | exact ep5 isB_13 | exact ep7 isB_13 | exact er26 | exact er27 | exact er28 | exact ep9 hb | exact ep10 hb | exact ep0 (isB_shelf _ (by omega))) rfl ?_
    refine eg_Vv0 cs_X8_92 dX8_tell_46 (c_X0_forget) (by first | exact er0 | exact ep0 hb | exact ep1 hb | exact ep3 hb | exact ep5 hb | exact ep7 hb | exact er25 | exact er34 | exact er181 | exact er182 | exact er196 | exact er199 | exact er156 | exact ep0 isB_13 | exact ep1 isB_13 | exact ep3 isB_13 | exact ep5 isB_13 | exact ep7 isB_13 | exact er26 | exact er27 | exact er28 | exact ep9 hb | exact ep10 hb | exact ep0 (isB_shelf _ (by omega))) rfl (Nat.le_of_ble_eq_true rfl) (by decide) ?_
    refine eg_al_n dX8_tell_49 rfl rfl ?_
    refine eg_get fl_X8_12 dX8_tell_50 (by first | exact er0 | exact ep0 hb | exact ep1 hb | exact ep3 hb | exact ep5 hb | exact ep7 hb | exact er25 | exact er34 | exact er181 | exact er182 | exact er196 | exact er199 | exact er156 | exact ep0 isB_13 | exact ep1 isB_13 | exact ep3 isB_13 | exact ep5 isB_13 | exact ep7 isB_13 | exact er26 | exact er27 | exact er28 | exact ep9 hb | exact ep10 hb | exact ep0 (isB_shelf _ (by omega))) rfl ?_
    refine eg_get fl_X8_95 dX8_tell_53 (by first | exact er0 | exact ep0 hb | exact ep1 hb | exact ep3 hb | exact ep5 hb | exact ep7 hb | exact er25 | exact er34 | exact er181 | exact er182 | exact er196 | exact er199 | exact er156 | exact ep0 isB_13 | exact ep1 isB_13 | exact ep3 isB_13 | exact ep5 isB_13 | exact ep7 isB_13 | exact er26 | exact er27 | exact er28 | exact ep9 hb | exact ep10 hb | exact ep0 (isB_shelf _ (by omega))) rfl ?_
    refine eg_get fl_X8_99 dX8_tell_56 (by first | exact er0 | exact ep0 hb | exact ep1 hb | exact ep3 hb | exact ep5 hb | exact ep7 hb | exact er25 | exact er34 | exact er181 | exact er182 | exact er196 | exact er199 | exact er156 | exact ep0 isB_13 | exact ep1 isB_13 | exact ep3 isB_13 | exact ep5 isB_13 | exact ep7 isB_13 | exact er26 | exact er27 | exact er28 | exact ep9 hb | exact ep10 hb | exact ep0 (isB_shelf _ (by omega))) rfl ?_
    refine eg_ireturn dX8_tell_59 rfl rfl ?_
    rw [show R_tell s = (v9 1, (v9, 0, s.2.2.1, s.2.2.2.1, s.2.2.2.2.1, 0, s.2.2.2.2.2.2)) from by unfold R_tell; rw [hE]]
    have f3 : ∀ c, c ≠ 181 → c ≠ 182 → (c < 1 ∨ 13 ≤ c) → (c < 184 ∨ 196 ≤ c) → y3 c = z c := fun c h1 h2 h3 h4 => (m3 c (by omega)).trans (f2 c h1 h2 h4)
    refine ⟨congrArg (fun q => some (vI q)) (by rw [va_up_n _ _ (by decide)]; exact v3.1.2.1.2.1), rfl, _, rfl, fun c hc => by rw [va_up_n _ _ (by omega)]; exact f3 c (by omega) (by omega) (by omega) (by omega), hV_c (fun j hj => va_up_n _ _ (by omega)) v3, ⟨⟨by show (0 : Nat) ≤ 10; decide, by rw [va_up_s, va_up_s]; rfl, ?_, ?_⟩, fun j hj => absurd hj (Nat.not_lt_zero j)⟩, ⟨by rw [va_up_n _ _ (by decide), f3 0 (by omega) (by omega) (by omega) (by omega)]; exact hkb, fun j hj hk => hV_c (fun i hi => by rw [va_up_n _ _ (by omega)]; exact f3 _ (by omega) (by omega) (by omega) (by omega)) (hsh j hj hk)⟩, ⟨by show (0 : Nat) ≤ 400; omega, fun i hi => absurd hi (Nat.not_lt_zero i)⟩, by rw [va_up_n _ _ (by decide), m3 182 (by omega)]; exact i1, fun i hi => absurd hi (Nat.not_lt_zero i)⟩
    · rw [va_up_s, va_up_n _ _ (by decide), f3 34 (by omega) (by omega) (by omega) (by omega)]; exact hHi.1.2.2.1
    · rw [va_up_s, va_up_n _ _ (by decide), f3 34 (by omega) (by omega) (by omega) (by omega)]; exact hHi.1.2.2.2
  · refine eg_bipush dX8_tell_23 (by decide) ?_
    refine eg_iload_n dX8_tell_25 rfl ?_
    refine eg_isub dX8_tell_26 ?_
    refine eg_ireturn dX8_tell_27 rfl rfl ?_
    cases hE : TL s.2.2.2.2.2.1 s.2.2.2.2.2.2 with
    | inr v9 => rw [hE, ft_r] at h20; exact absurd rfl h20
    | inl e9 =>
      rw [show R_tell s = (-2 - e9, tpS s 0 s.2.2.2.2.2.2) from by unfold R_tell; rw [hE]]
      refine ⟨by rw [ft_l], rfl, y2, rfl, fun c hc => f2 c (by omega) (by omega) (by omega), hV_c (fun j hj => f2 _ (by omega) (by omega) (by omega)) hV1, hH_c hHi (fun c g1 g2 => f2 c (by omega) (by omega) (by omega)), ⟨by rw [f2 0 (by omega) (by omega) (by omega)]; exact hkb, fun j hj hk => hV_c (fun i hi => f2 _ (by omega) (by omega) (by omega)) (hsh j hj hk)⟩, ⟨by show (0 : Nat) ≤ 400; omega, fun i hi => absurd hi (Nat.not_lt_zero i)⟩, i1, fun i hi => absurd hi (Nat.not_lt_zero i)⟩
