theorem c_readHubs {k : eg_K} {z : eg_Z} {X : eg_M} {n : Nat} {L : Nat} {t : Nat → Int} (hT : TP z L t) (hat : z 181 2 = 0) (hF : z 181 5 = 0) (hc0 : (∀ q, q ≤ 3 → z 184 q = 0) ∧ z (184 + 1) 3 = 0 ∧ z (184 + 3) 3 = 0 ∧ z (184 + 5) 3 = 0 ∧ z (184 + 7) 3 = 0 ∧ ∀ q, q < 4 → z (184 + 10) q = 0) : eg_P k gX3_readHubs 7 0 0 [vR k 181] n (enc k z X) (eg_p k none n X (fun z' => (∃ j : Nat, j ≤ L ∧ z' 181 2 = (j : Int)) ∧ z' 181 5 = ftR (hbR L t) ∧ (∀ c, c ≠ 181 → (c < 184 ∨ 196 ≤ c) → z' c = z c) ∧ (z' 181 5 ≠ 0 → ∀ c, c ≠ 181 → z' c = z c) ∧ z' 193 = z 193 ∧ ∀ a, (hbR L t) = .inr a → z' 181 2 = (a.1 : Int) ∧ hP z' 184 a.2)) := by
  refine eg_P.of (by decide) (Nat.le_of_ble_eq_true rfl) ?_
  show eg_E k gX3_readHubs 7 0 0 n (enc k z X) [vR k 181, vU, vU] [] 0 _
  have hb := isB_184
  have sb := sk_b (t := t) (Nat.zero_le L)
  have wb := we_b (t := t) (Nat.zero_le L)
  have L4 := hT.1
  have KK : ∀ (h : Int) (y4 : eg_Z), (2 ≤ h ∧ h ≤ 8) → y4 184 0 = h → ((∀ q, q ≤ 3 → q ≠ 0 → y4 184 q = 0) ∧ y4 (184 + 1) 3 = 0 ∧ y4 (184 + 3) 3 = 0 ∧ y4 (184 + 5) 3 = 0 ∧ y4 (184 + 7) 3 = 0 ∧ ∀ q, q < 4 → y4 (184 + 10) q = 0) → (∀ y : eg_Z, (∀ c, c ≠ 184 + 1 → c ≠ 184 + 2 → y c = y4 c) → hP y 184 (hbV h) → (eg_p k none n X (fun z' => (∃ j : Nat, j ≤ L ∧ z' 181 2 = (j : Int)) ∧ z' 181 5 = ftR (hbR L t) ∧ (∀ c, c ≠ 181 → (c < 184 ∨ 196 ≤ c) → z' c = z c) ∧ (z' 181 5 ≠ 0 → ∀ c, c ≠ 181 → z' c = z c) ∧ z' 193 = z 193 ∧ ∀ a, (hbR L t) = .inr a → z' 181 2 = (a.1 : Int) ∧ hP z' 184 a.2)) none n (enc k y X)) → eg_E k gX3_readHubs 7 0 0 n (enc k y4 X) [vR k 181, vI h, vI 0] [] 48 (eg_p k none n X (fun z' => (∃ j : Nat, j ≤ L ∧ z' 181 2 = (j : Int)) ∧ z' 181 5 = ftR (hbR L t) ∧ (∀ c, c ≠ 181 → (c < 184 ∨ 196 ≤ c) → z' c = z c) ∧ (z' 181 5 ≠ 0 → ∀ c, c ≠ 181 → z' c = z c) ∧ z' 193 = z 193 ∧ ∀ a, (hbR L t) = .inr a → z' 181 2 = (a.1 : Int) ∧ hP z' 184 a.2)) := by
    intro h y4 hh h40 hc4 KE
    have LL : ∀ (mm : Nat) (i : Int) (y : eg_Z), (0 ≤ i) → (i ≤ h - 1) → (∀ c, c ≠ 184 + 1 → c ≠ 184 + 2 → y c = y4 c) → (y (184 + 1) 3 = i) → (∀ j : Int, 0 ≤ j → j < i → y (184 + 2) (j * 2 + 0).toNat = 9999 ∧ y (184 + 2) (j * 2 + 1).toNat = 0) → h - i < (mm : Int) → eg_E k gX3_readHubs 7 0 0 n (enc k y X) [vR k 181, vI h, vI i] [] 48 (eg_p k none n X (fun z' => (∃ j : Nat, j ≤ L ∧ z' 181 2 = (j : Int)) ∧ z' 181 5 = ftR (hbR L t) ∧ (∀ c, c ≠ 181 → (c < 184 ∨ 196 ≤ c) → z' c = z c) ∧ (z' 181 5 ≠ 0 → ∀ c, c ≠ 181 → z' c = z c) ∧ z' 193 = z 193 ∧ ∀ a, (hbR L t) = .inr a → z' 181 2 = (a.1 : Int) ∧ hP z' 184 a.2)) := by
      intro mm
      induction mm with
      | zero => intro i y h0 h1 hf hcn hr hmm; exfalso; omega
      | succ mm ih =>
        intro i y h0 h1 hf hcn hr hmm
        refine eg_iload_n dX3_readHubs_48 rfl ?_
        refine eg_iload_n dX3_readHubs_49 rfl ?_
        refine eg_iconst dX3_readHubs_50 ?_
        refine eg_isub dX3_readHubs_51 ?_
        refine eg_icmp_ge 85 dX3_readHubs_52 ⟨by omega, by omega⟩ ⟨by omega, by omega⟩ rfl (fun h52 => ?_) (fun h52 => ?_)
        · refine eg_return dX3_readHubs_85 rfl ?_
          have ei : i = h - 1 := by omega
          subst ei
          have hpE : hP y 184 (hbV h) := by
            obtain ⟨c0, c1, c3, c5, c7, c10⟩ := hc4
            have sg : segs (hbV h) = h - 1 := by unfold segs; rw [hb_0, if_neg (by omega)]
            have zz : ∀ i : Nat, i ≠ 0 → (i < 12 ∨ 26 ≤ i) → hbV h i = 0 := fun i a b => hb_z a b
            unfold hP
            rw [sg, hb_0, zz 1 (by decide) (by decide), zz 2 (by decide) (by decide), zz 3 (by decide) (by decide), zz 4 (by decide) (by decide), zz 5 (by decide) (by decide), zz 6 (by decide) (by decide), zz 7 (by decide) (by decide), zz 8 (by decide) (by decide), zz 9 (by decide) (by decide), zz 10 (by decide) (by decide), hf 184 (by decide) (by decide), hf (184 + 3) (by decide) (by decide), hf (184 + 5) (by decide) (by decide), hf (184 + 7) (by decide) (by decide), hf (184 + 10) (by decide) (by decide)]
            refine ⟨⟨h40, c0 1 (by decide) (by decide), c0 2 (by decide) (by decide), c0 3 (by decide) (by decide)⟩, ⟨hcn, c3, c5, c7⟩, fun j c9 g0 g1 g2 g3 => ?_, fun p c9 g0 g1 => absurd g1 (by omega), fun p c9 g0 g1 => absurd g1 (by omega), fun p g0 g1 => absurd g1 (by omega), fun p c9 g0 g1 => absurd g1 (by omega), ⟨c10 0 (by decide), c10 1 (by decide), c10 2 (by decide), c10 3 (by decide)⟩⟩
            have r9 := hr j g0 g1
            have b9 := hb_S (h := h) g0 (show j < 7 by omega)
            rcases (show c9 = 0 ∨ c9 = 1 by omega) with rfl | rfl
            · rw [r9.1, b9.1]
            · rw [r9.2, b9.2]
          exact KE y hf hpE
        · refine eg_al_n dX3_readHubs_55 rfl rfl ?_
          refine eg_get fl_X3_21 dX3_readHubs_56 (by first | exact er181 | exact er182 | exact er183 | exact ep0 hb | exact ep1 hb | exact ep3 hb | exact ep5 hb | exact ep7 hb) rfl ?_
          refine eg_get fl_X3_105 dX3_readHubs_59 (by first | exact er181 | exact er182 | exact er183 | exact ep0 hb | exact ep1 hb | exact ep3 hb | exact ep5 hb | exact ep7 hb) rfl ?_
          refine eg_al_n dX3_readHubs_62 rfl rfl ?_
          refine eg_get fl_X3_21 dX3_readHubs_63 (by first | exact er181 | exact er182 | exact er183 | exact ep0 hb | exact ep1 hb | exact ep3 hb | exact ep5 hb | exact ep7 hb) rfl ?_
          refine eg_get fl_X3_105 dX3_readHubs_66 (by first | exact er181 | exact er182 | exact er183 | exact ep0 hb | exact ep1 hb | exact ep3 hb | exact ep5 hb | exact ep7 hb) rfl ?_
          refine eg_Vpf0 cs_X3_109 dX3_readHubs_69 (add_1 hb (cnt := i) hcn h0 (by omega)) (by first | exact er181 | exact er182 | exact er183 | exact ep0 hb | exact ep1 hb | exact ep3 hb | exact ep5 hb | exact ep7 hb) rfl (Nat.le_of_ble_eq_true rfl) (by decide) ?_
          rintro y5 ⟨m5, n5, kr5, zr5⟩
          refine eg_iconst dX3_readHubs_72 ?_
          refine eg_sipush dX3_readHubs_73 (by decide) ?_
          refine eg_Vv3 cs_X3_114 dX3_readHubs_76 (sg_raw hb (cnt := i + 1) n5 (by omega) (by omega) (by omega) (by omega) (by omega)) (by first | exact er181 | exact er182 | exact er183 | exact ep0 hb | exact ep1 hb | exact ep3 hb | exact ep5 hb | exact ep7 hb) rfl (Nat.le_of_ble_eq_true rfl) (by decide) ?_
          have h6 : va_up y5 (184 + 2) (va_up (y5 (184 + 2)) (i * 2 + 0).toNat 9999) (184 + 2) = va_up (y5 (184 + 2)) (i * 2 + 0).toNat 9999 := va_up_s _ _ _
          have g6 : ∀ c, c ≠ 184 + 2 → va_up y5 (184 + 2) (va_up (y5 (184 + 2)) (i * 2 + 0).toNat 9999) c = y5 c := fun c hc => va_up_n _ _ hc
          generalize va_up y5 (184 + 2) (va_up (y5 (184 + 2)) (i * 2 + 0).toNat 9999) = y6 at h6 g6 ⊢
          refine eg_iinc dX3_readHubs_79 rfl rfl rfl ?_
          refine eg_goto 48 dX3_readHubs_82 rfl ?_
          refine ih (i + 1) y6 (by omega) (by omega) (fun c c1 c2 => (g6 c c2).trans ((m5 c c1 c2).trans (hf c c1 c2))) (by rw [g6 _ (by decide)]; exact n5) (fun j g0 g1 => ?_) (by omega)
          rw [h6]
          by_cases e : j = i
          · subst e; rw [va_up_s, va_up_n _ _ (by omega), zr5 _ (by omega) (by omega)]; exact ⟨rfl, rfl⟩
          · rw [va_up_n _ _ (by omega), va_up_n _ _ (by omega), kr5 _ (by omega), kr5 _ (by omega)]; exact hr j g0 (by omega)
    exact LL 9 0 y4 (by omega) (by omega) (fun _ _ _ => rfl) hc4.2.1 (fun j g0 g1 => absurd g1 (by omega)) (by omega)
  have K22 : ∀ (w : Bool) (y1 : eg_Z), (w = true ↔ wis L t (sk L t 0) (we L t 0) wHub = true) → (∀ c, c ≠ 181 → y1 c = z c) → y1 181 2 = (we L t 0 : Int) → y1 181 5 = (if w = true then 0 else 8 * (sk L t 0 : Int) + 1) → eg_E k gX3_readHubs 7 0 0 n (enc k y1 X) [vR k 181, vU, vU] [] 22 (eg_p k none n X (fun z' => (∃ j : Nat, j ≤ L ∧ z' 181 2 = (j : Int)) ∧ z' 181 5 = ftR (hbR L t) ∧ (∀ c, c ≠ 181 → (c < 184 ∨ 196 ≤ c) → z' c = z c) ∧ (z' 181 5 ≠ 0 → ∀ c, c ≠ 181 → z' c = z c) ∧ z' 193 = z 193 ∧ ∀ a, (hbR L t) = .inr a → z' 181 2 = (a.1 : Int) ∧ hP z' 184 a.2)) := by
    intro w y1 hw f1 a1 e0
    have hT1 : TP y1 L t := hT.c (f1 182 (by decide)) (f1 183 (by decide))
    have rF0 : 0 ≤ (if w = true then (0 : Int) else 8 * (sk L t 0 : Int) + 1) ∧ (if w = true then (0 : Int) else 8 * (sk L t 0 : Int) + 1) ≤ 4000 := by split <;> omega
    refine eg_al_n dX3_readHubs_22 rfl rfl ?_
    refine eg_iconst dX3_readHubs_23 ?_
    refine eg_bipush dX3_readHubs_24 (by decide) ?_
    refine eg_Vr2 cs_X3_100 dX3_readHubs_26 (c_rn (lo := 2) (hi := 8) hT1 wb.2 a1 e0 rF0 ⟨by decide, by decide⟩ ⟨by omega, by omega⟩) (by first | exact er181 | exact er182 | exact er183 | exact ep0 hb | exact ep1 hb | exact ep3 hb | exact ep5 hb | exact ep7 hb) rfl (Nat.le_of_ble_eq_true rfl) (by decide) ?_
    rintro r1 y2 ⟨q1, f2, w2, ⟨j1, l1, p1⟩, e1, s1⟩
    have rF1 := fnx_b rF0 (ft_b (t := t) (lo := 2) (hi := 8) hT.1 wb.2)
    have eS : ftR (hbR L t) = fnx (if w = true then 0 else 8 * (sk L t 0 : Int) + 1) (ftR (nmR L t (we L t 0) 2 8)) := by
      unfold hbR
      cases w with
      | true => rw [if_pos (hw.mp rfl), if_pos rfl, fnx_0]; exact ft_in
      | false => rw [if_neg (fun hh => by have := hw.mpr hh; cases this), if_neg (by decide), fnx_n (by omega), ft_l]
    refine eg_istore_n dX3_readHubs_29 rfl rfl rfl ?_
    refine eg_al_n dX3_readHubs_30 rfl rfl ?_
    refine eg_get fl_X3_35 dX3_readHubs_31 (by first | exact er181 | exact er182 | exact er183 | exact ep0 hb | exact ep1 hb | exact ep3 hb | exact ep5 hb | exact ep7 hb) rfl ?_
    refine eg_eqI e1 ?_
    refine eg_if_eq 38 dX3_readHubs_34 ⟨by omega, by omega⟩ rfl (fun h34 => ?_) (fun h34 => ?_)
    · have h0 := (fx_0 nm_ne h34)
      obtain ⟨F00, A1, h1⟩ := h0
      obtain ⟨v1, u1, -⟩ := s1 A1 h1
      have b1 := nmR_r wb.2 h1
      have wt : w = true := by cases w with
        | true => rfl
        | false => rw [if_neg (by decide)] at F00; omega
      refine eg_al_n dX3_readHubs_38 rfl rfl ?_
      refine eg_get fl_X3_21 dX3_readHubs_39 (by first | exact er181 | exact er182 | exact er183 | exact ep0 hb | exact ep1 hb | exact ep3 hb | exact ep5 hb | exact ep7 hb) rfl ?_
      refine eg_iload_n dX3_readHubs_42 rfl ?_
      refine eg_put fl_X3_103 dX3_readHubs_43 (by first | exact er181 | exact er182 | exact er183 | exact ep0 hb | exact ep1 hb | exact ep3 hb | exact ep5 hb | exact ep7 hb) rfl rfl rfl rfl ?_
      refine eg_eqM (es0_0 hb) ?_
      have h3 : va_up y2 184 (va_up (y2 184) 0 r1) 184 0 = r1 := by rw [va_up_s, va_up_s]
      have h3b : ∀ q, q ≠ 0 → va_up y2 184 (va_up (y2 184) 0 r1) 184 q = y2 184 q := fun q hq => by rw [va_up_s, va_up_n _ _ hq]
      have g3 : ∀ c, c ≠ 184 → va_up y2 184 (va_up (y2 184) 0 r1) c = y2 c := fun c hc => va_up_n _ _ hc
      generalize va_up y2 184 (va_up (y2 184) 0 r1) = y3 at h3 h3b g3 ⊢
      refine eg_iconst dX3_readHubs_46 ?_
      refine eg_istore_n dX3_readHubs_47 rfl rfl rfl ?_
      have fr3 : ∀ c, c ≠ 181 → c ≠ 184 → y3 c = z c := fun c h181 h184 => (g3 c h184).trans ((f2 c h181).trans (f1 c h181))
      obtain ⟨c0, c1, c3, c5, c7, c10⟩ := hc0
      refine KK r1 y3 ⟨by omega, by omega⟩ h3 ⟨fun q hq hq0 => by rw [h3b q hq0, f2 184 (by decide), f1 184 (by decide)]; exact c0 q hq, by rw [fr3 _ (by decide) (by decide)]; exact c1, by rw [fr3 _ (by decide) (by decide)]; exact c3, by rw [fr3 _ (by decide) (by decide)]; exact c5, by rw [fr3 _ (by decide) (by decide)]; exact c7, fun q hq => by rw [fr3 _ (by decide) (by decide)]; exact c10 q hq⟩ (fun y hy hpy => ?_)
      have eR : hbR L t = .inr (A1.1, hbV r1) := by unfold hbR; rw [if_pos (hw.mp wt), h1, bd_r, ← v1]
      have e181 : y 181 = y2 181 := (hy 181 (by decide) (by decide)).trans (g3 181 (by decide))
      refine ⟨rfl, rfl, y, rfl, ⟨A1.1, b1.1, by rw [e181]; exact u1⟩, by rw [e181, e1, h34, eR]; rfl, fun c9 h9 h8 => (hy c9 (by omega) (by omega)).trans (fr3 c9 h9 (by omega)), fun hh => absurd (by rw [e181, e1]; exact h34) hh, (hy 193 (by decide) (by decide)).trans (fr3 193 (by decide) (by decide)), fun a9 h8 => ?_⟩
      rw [eR] at h8; injection h8 with h8; subst h8; exact ⟨by rw [e181]; exact u1, hpy⟩
    · refine eg_return dX3_readHubs_37 rfl ?_
      refine ⟨rfl, rfl, y2, rfl, ⟨j1, l1, p1⟩, by rw [eS]; exact e1, fun c9 h9 _ => (f2 c9 h9).trans (f1 c9 h9), fun _ c9 h9 => (f2 c9 h9).trans (f1 c9 h9), (f2 193 (by decide)).trans (f1 193 (by decide)), fun a9 h8 => ?_⟩
      rw [h8] at eS
      exact absurd eS.symm h34
  refine eg_al_n dX3_readHubs_0 rfl rfl ?_
  refine eg_Vpv0 cs_X3_91 dX3_readHubs_1 (c_readWord hT (Nat.zero_le L) hat) (by first | exact er181 | exact er182 | exact er183 | exact ep0 hb | exact ep1 hb | exact ep3 hb | exact ep5 hb | exact ep7 hb) rfl (Nat.le_of_ble_eq_true rfl) (by decide) ?_
  rintro y1 ⟨f1, g1, w1, a1⟩
  have hT1 : TP y1 L t := hT.c (f1 182 (by decide)) (f1 183 (by decide))
  have F5 : y1 181 5 = 0 := by rw [g1 5 (by decide) (by decide)]; exact hF
  refine eg_al_n dX3_readHubs_4 rfl rfl ?_
  refine eg_ldcS (i := 0) rfl dX3_readHubs_5 ?_
  refine eg_Vf1 cs_X3_96 dX3_readHubs_7 (c_wordIs (q := 0) hT1 w1 a1 wb.1 wb.2 (by decide)) (by first | exact er181 | exact er182 | exact er183 | exact ep0 hb | exact ep1 hb | exact ep3 hb | exact ep5 hb | exact ep7 hb) rfl (Nat.le_of_ble_eq_true rfl) (by decide) ?_
  refine eg_bi_ne 22 dX3_readHubs_10 rfl (fun h10 => ?_) (fun h10 => ?_)
  · exact K22 true y1 ⟨fun _ => h10, fun _ => rfl⟩ f1 a1 (by rw [if_pos rfl]; exact F5)
  · refine eg_al_n dX3_readHubs_13 rfl rfl ?_
    refine eg_al_n dX3_readHubs_14 rfl rfl ?_
    refine eg_get fl_X3_29 dX3_readHubs_15 (by first | exact er181 | exact er182 | exact er183 | exact ep0 hb | exact ep1 hb | exact ep3 hb | exact ep5 hb | exact ep7 hb) rfl ?_
    refine eg_eqI w1 ?_
    refine eg_iconst dX3_readHubs_18 ?_
    refine eg_Vpv2 cs_X3_72 dX3_readHubs_19 (c_fail F5 ⟨by omega, by omega⟩) (by first | exact er181 | exact er182 | exact er183 | exact ep0 hb | exact ep1 hb | exact ep3 hb | exact ep5 hb | exact ep7 hb) rfl (Nat.le_of_ble_eq_true rfl) (by decide) ?_
    rintro y2 ⟨f2, g2, e2⟩
    exact K22 false y2 ⟨fun hh => absurd hh (by decide), fun hh => absurd hh h10⟩ (fun c9 h9 => (f2 c9 h9).trans (f1 c9 h9)) (by rw [g2 2 (by decide)]; exact a1) (by rw [if_neg (by decide), e2, fnx_0])
