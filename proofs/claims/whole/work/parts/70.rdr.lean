theorem bd_i {α β : Type} {x : Int ⊕ α} {f : α → Int ⊕ β} {b : β} (h : bd x f = .inr b) : ∃ a, x = .inr a ∧ f a = .inr b := by
  cases x with
  | inl e => cases h
  | inr a => exact ⟨a, rfl, h⟩
theorem sk_b {L : Nat} {t : Nat → Int} {i : Nat} (h : i ≤ L) : i ≤ sk L t i ∧ sk L t i ≤ L := rn_b h
theorem we_b {L : Nat} {t : Nat → Int} {i : Nat} (h : i ≤ L) : sk L t i ≤ we L t i ∧ we L t i ≤ L := rn_b (sk_b h).2
theorem sk_sk {L : Nat} {t : Nat → Int} {i : Nat} (h : i ≤ L) : sk L t (sk L t i) = sk L t i := by
  have key : ∀ d i : Nat, L - i ≤ d → rn bB L t (rn bB L t i) = rn bB L t i := by
    intro d
    induction d with
    | zero => intro i hd; rw [rn_n (P := bB) (i := i) (fun hh => by omega)]; exact rn_n (fun hh => by omega)
    | succ d ih =>
      intro i hd
      by_cases c : i < L ∧ bB (tc L t i) = true
      · rw [rn_y c.1 c.2]; exact ih (i + 1) (by omega)
      · have e : rn bB L t i = i := rn_n (fun h1 h2 => c ⟨h1, h2⟩)
        rw [e, e]
  exact key L i (by omega)
theorem sg_t {L : Nat} {t : Nat → Int} {i : Nat} {v : eg_v} {a : Nat × eg_v} (ht : tv v) (hi : i ≤ L) (h : sgR L t i v = .inr a) : i ≤ a.1 ∧ a.1 ≤ L ∧ tv a.2 := by
  unfold sgR at h
  obtain ⟨x, hx, h⟩ := bd_i h
  obtain ⟨y, hy, h⟩ := bd_i h
  obtain ⟨w, hw, h⟩ := bd_i h
  have b1 := nmR_r hi hx
  have b2 := nmR_r b1.1 hy
  have b3 := nmR_r b2.1 hw
  injection h with h
  subst h
  have q := ht.1.r.2
  refine ⟨by show i ≤ w.1; omega, b3.1, tv_e ht (VV_s2 ht.1 b1.2.2.1 (by omega) b2.2.2 b3.2.2) (fun j hj => ?_)⟩
  dsimp only
  rw [va_up_n _ _ (by omega), va_up_n _ _ (by omega)]
theorem pt_t {L : Nat} {t : Nat → Int} {i : Nat} {v : eg_v} {w : Int} {a : Nat × eg_v} (ht : tv v) (h1 : v 1 < 10) (hw : 0 ≤ w ∧ w ≤ 1) (hi : i ≤ L) (h : ptR L t i v w = .inr a) : i ≤ a.1 ∧ a.1 ≤ L ∧ tv a.2 := by
  unfold ptR at h
  obtain ⟨x, hx, h⟩ := bd_i h
  obtain ⟨y, hy, h⟩ := bd_i h
  have b1 := nmR_r hi hx
  have b2 := nmR_r b1.1 hy
  injection h with h
  subst h
  exact ⟨by show i ≤ y.1; omega, b2.1, tv_pt ht h1 ⟨b1.2.2.1, by omega⟩ hw b2.2.2⟩
theorem sh_t {L : Nat} {t : Nat → Int} {i : Nat} {v : eg_v} {a : Nat × eg_v} (ht : tv v) (h1 : v 2 < 6) (hi : i ≤ L) (h : shR_ L t i v = .inr a) : i ≤ a.1 ∧ a.1 ≤ L ∧ tv a.2 := by
  unfold shR_ at h
  obtain ⟨x, hx, h⟩ := bd_i h
  obtain ⟨y, hy, h⟩ := bd_i h
  obtain ⟨w, hw, h⟩ := bd_i h
  obtain ⟨u, hu, h⟩ := bd_i h
  have b1 := nmR_r hi hx
  have b2 := nmR_r b1.1 hy
  have b3 := nmR_r b2.1 hw
  have b4 := nmR_r b3.1 hu
  injection h with h
  subst h
  exact ⟨by show i ≤ u.1; omega, b4.1, tv_sh ht h1 b1.2.2 b2.2.2 b3.2.2 b4.2.2⟩
theorem pr_t {L : Nat} {t : Nat → Int} {i : Nat} {v : eg_v} {a : Nat × eg_v} (ht : tv v) (hi : i ≤ L) (h : prR L t i v = .inr a) : i ≤ a.1 ∧ a.1 ≤ L ∧ tv a.2 := by
  unfold prR at h
  obtain ⟨x, hx, h⟩ := bd_i h
  obtain ⟨y, hy, h⟩ := bd_i h
  have b1 := nmR_r hi hx
  have b2 := nmR_r b1.1 hy
  injection h with h
  subst h
  refine ⟨by show i ≤ y.1; omega, b2.1, tv_e ht (k_6 b2.2.2 (k_5 b1.2.2 ht.1 (Int.le_refl _)) (Int.le_refl _)) (fun j hj => ?_)⟩
  dsimp only
  rw [va_up_n _ _ (by omega), va_up_n _ _ (by omega)]
theorem no_t {L : Nat} {t : Nat → Int} {i : Nat} {v : eg_v} {b c : Bool} {a : Nat × eg_v} (hbc : b = true ∨ c = true) (ht : tv v) (h3 : v 3 < 16) (hi : i ≤ L) (h : noR L t i v b c = .inr a) : i ≤ a.1 ∧ a.1 ≤ L ∧ tv a.2 := by
  unfold noR at h
  obtain ⟨x, hx, h⟩ := bd_i h
  obtain ⟨y, hy, h⟩ := bd_i h
  obtain ⟨w, hw, h⟩ := bd_i h
  obtain ⟨u, hu, h⟩ := bd_i h
  have q := ht.1.r.2
  have b1 := nmR_r hi hx
  have b2 : y.1 ≤ L ∧ x.1 ≤ y.1 ∧ (y.2 = -1 ∨ isIn v y.2) ∧ (b = true → y.2 ≠ -1) := by
    by_cases e : b = true
    · rw [if_pos e] at hy
      have p := (po_r b1.1 hy).2
      exact ⟨p.1, p.2.1, Or.inr ⟨p.2.2.1, p.2.2.2.1, p.2.2.2.2⟩, fun _ => by omega⟩
    · rw [if_neg e] at hy; injection hy with hy; subst hy; exact ⟨b1.1, Nat.le_refl _, Or.inl rfl, fun h => absurd h e⟩
  have b3 : w.1 ≤ L ∧ y.1 ≤ w.1 ∧ (w.2 = -1 ∨ isOut v w.2) ∧ (c = true → w.2 ≠ -1) := by
    by_cases e : c = true
    · rw [if_pos e] at hw
      have p := (po_r b2.1 hw).2
      exact ⟨p.1, p.2.1, Or.inr ⟨p.2.2.1, p.2.2.2.1, p.2.2.2.2⟩, fun _ => by omega⟩
    · rw [if_neg e] at hw; injection hw with hw; subst hw; exact ⟨b2.1, Nat.le_refl _, Or.inl rfl, fun h => absurd h e⟩
  have b4 := nmR_r b3.1 hu
  injection h with h
  subst h
  refine ⟨by show i ≤ u.1; omega, b4.1, tv_e ht (VV_add ht.1 ht.2.1 h3 ⟨b1.2.2.1, by omega⟩ b2.2.2.1 b3.2.2.1 (hbc.imp b2.2.2.2 b3.2.2.2) b4.2.2) (fun j hj => addV_o ⟨by omega, h3⟩ (by omega) (by omega))⟩
theorem fu_t {L : Nat} {t : Nat → Int} {i : Nat} {full : Bool} {r : Int ⊕ (Nat × eg_v)} {a : Nat × eg_v} (h : fuR L t i full r = .inr a) : full = false ∧ r = .inr a := by
  unfold fuR at h
  cases full with
  | true => rw [if_pos rfl] at h; cases h
  | false => exact ⟨rfl, h⟩
theorem PT_t {L : Nat} {t : Nat → Int} {i : Nat} {v : eg_v} {a : Nat × eg_v} (ht : tv v) (hi : i ≤ L) (h : PT L t i v = .inr a) : i ≤ a.1 ∧ a.1 ≤ L ∧ tv a.2 := by
  have s1 := sk_b (t := t) hi
  have s2 := we_b (t := t) hi
  have up : ∀ {x : Nat × eg_v}, we L t i ≤ x.1 ∧ x.1 ≤ L ∧ tv x.2 → i ≤ x.1 ∧ x.1 ≤ L ∧ tv x.2 := fun p => ⟨by omega, p.2⟩
  unfold PT at h
  split at h
  · exact up (sg_t ht s2.2 h)
  split at h
  · have f := fu_t h; exact up (pt_t ht (by have := of_decide_eq_false f.1; omega) (by omega) s2.2 f.2)
  split at h
  · have f := fu_t h; exact up (pt_t ht (by have := of_decide_eq_false f.1; omega) (by omega) s2.2 f.2)
  split at h
  · have f := fu_t h; exact up (sh_t ht (by have := of_decide_eq_false f.1; omega) s2.2 f.2)
  split at h
  · have f := fu_t h; exact up (no_t (Or.inl rfl) ht (by have := of_decide_eq_false f.1; omega) s2.2 f.2)
  split at h
  · have f := fu_t h; exact up (no_t (Or.inl rfl) ht (by have := of_decide_eq_false f.1; omega) s2.2 f.2)
  split at h
  · have f := fu_t h; exact up (no_t (Or.inr rfl) ht (by have := of_decide_eq_false f.1; omega) s2.2 f.2)
  split at h
  · exact up (pr_t ht s2.2 h)
  · cases h
theorem hb_S {h i : Int} (h0 : 0 ≤ i) (h1 : i < 7) : gS (hbV h) i 0 = 9999 ∧ gS (hbV h) i 1 = 0 := by
  constructor
  · unfold gS hbV; rw [if_neg (by omega), if_pos (by omega)]
  · unfold gS hbV; rw [if_neg (by omega), if_neg (by omega)]
theorem hb_z {h : Int} {i : Nat} (h0 : i ≠ 0) (h1 : i < 12 ∨ 26 ≤ i) : hbV h i = 0 := by unfold hbV; rw [if_neg h0, if_neg (by omega)]
theorem hb_0 {h : Int} : hbV h 0 = h := rfl
theorem tv_hb {h : Int} (hh : 2 ≤ h ∧ h ≤ 8) : tv (hbV h) := by
  have z1 : hbV h 1 = 0 := hb_z (by decide) (by decide)
  have z2 : hbV h 2 = 0 := hb_z (by decide) (by decide)
  have z3 : hbV h 3 = 0 := hb_z (by decide) (by decide)
  have z4 : hbV h 4 = 0 := hb_z (by decide) (by decide)
  have z5 : hbV h 5 = 0 := hb_z (by decide) (by decide)
  have z6 : hbV h 6 = 0 := hb_z (by decide) (by decide)
  refine ⟨?_, by rw [hb_0]; exact hh.1, z4, hb_z (by decide) (by decide), fun i a b => hb_z (by omega) (by omega), fun i a b => hb_z (by omega) (by omega), fun i a b => hb_z (by omega) (by omega)⟩
  unfold VV
  rw [hb_0, z1, z2, z3, z4, z5, z6]
  refine ⟨Or.inr hh, by omega, by omega, by omega, by omega, by omega, by omega, fun i a b => ?_, fun p a b => absurd b (by omega), fun p a b => absurd b (by omega), fun p a b => absurd b (by omega)⟩
  unfold okS
  rw [(hb_S a b).1, (hb_S a b).2]
  omega
theorem hb_t {L : Nat} {t : Nat → Int} {a : Nat × eg_v} (h : hbR L t = .inr a) : a.1 ≤ L ∧ tv a.2 := by
  unfold hbR at h
  split at h
  · obtain ⟨x, hx, h⟩ := bd_i h
    have b := nmR_r (we_b (t := t) (Nat.zero_le L)).2 hx
    injection h with h
    subst h
    exact ⟨b.1, tv_hb b.2.2⟩
  · cases h
theorem fu_x {L : Nat} {t : Nat → Int} {i : Nat} {full : Bool} {r : Int ⊕ (Nat × eg_v)} : fuR L t i full r = fuX full (sk L t i) r := rfl
theorem okV_t {v : eg_v} (h : tv v) : okV v := by
  refine ⟨VV_w (by omega) h.1, fun s h0 h1 => ?_, by rw [h.2.2.1]; omega⟩
  have o := h.1.H h0 h1
  unfold okH at o
  omega
theorem hL_t {z : eg_Z} {b : Nat} {v : eg_v} (h : tv v) : hL z b v := by
  refine ⟨fun i s a1 a2 a3 a4 a5 => ?_, ?_⟩
  · rw [h.2.2.1] at a3; omega
  · rw [h.2.2.2.1, h.2.2.1]; rfl
theorem c_readMark {k : eg_K} {z : eg_Z} {X : eg_M} {n : Nat} {L : Nat} {t : Nat → Int} (hT : TP z L t) {i : Nat} {F : Int} (hi9 : i ≤ L) (hat : z 181 2 = (i : Int)) (hF : z 181 5 = F) (rF : 0 ≤ F ∧ F ≤ 4000) : eg_P k gX3_readMark 1 0 0 [vR k 181] n (enc k z X) (eg_p k none n X (fun z' => (∀ c, c ≠ 181 → z' c = z c) ∧ z' 181 3 = z 181 3 ∧ (∃ j : Nat, j ≤ L ∧ z' 181 2 = (j : Int) ∧ (tc L t i = 59 → j = i + 1)) ∧ z' 181 5 = if tc L t i = 59 then F else fnx F (8 * (i : Int) + 1))) := by
  refine eg_P.of (by decide) (Nat.le_of_ble_eq_true rfl) ?_
  show eg_E k gX3_readMark 1 0 0 n (enc k z X) [vR k 181] [] 0 _
  have tb := tc_b (L := L) (t := t) (i := i)
  have L4 := hT.1
  refine eg_al_n dX3_readMark_0 rfl rfl ?_
  refine eg_get fl_X3_12 dX3_readMark_1 (by first | exact er181 | exact er182 | exact er183 | exact ep0 hb | exact ep1 hb | exact ep3 hb | exact ep5 hb | exact ep7 hb) rfl ?_
  refine eg_al_n dX3_readMark_4 rfl rfl ?_
  refine eg_get fl_X3_25 dX3_readMark_5 (by first | exact er181 | exact er182 | exact er183 | exact ep0 hb | exact ep1 hb | exact ep3 hb | exact ep5 hb | exact ep7 hb) rfl ?_
  refine eg_eqI hat ?_
  refine eg_Vf1 cs_X3_56 dX3_readMark_8 (c_tat hT (by omega)) (by first | exact er181 | exact er182 | exact er183 | exact ep0 hb | exact ep1 hb | exact ep3 hb | exact ep5 hb | exact ep7 hb) rfl (Nat.le_of_ble_eq_true rfl) (by decide) ?_
  refine eg_bipush dX3_readMark_11 (by decide) ?_
  refine eg_icmp_ne 29 dX3_readMark_13 ⟨by omega, by omega⟩ ⟨by omega, by omega⟩ rfl (fun h13 => ?_) (fun h13 => ?_)
  · refine eg_al_n dX3_readMark_29 rfl rfl ?_
    refine eg_al_n dX3_readMark_30 rfl rfl ?_
    refine eg_get fl_X3_25 dX3_readMark_31 (by first | exact er181 | exact er182 | exact er183 | exact ep0 hb | exact ep1 hb | exact ep3 hb | exact ep5 hb | exact ep7 hb) rfl ?_
    refine eg_eqI hat ?_
    refine eg_iconst dX3_readMark_34 ?_
    refine eg_Vpv2 cs_X3_72 dX3_readMark_35 (c_fail hF ⟨by omega, by omega⟩) (by first | exact er181 | exact er182 | exact er183 | exact ep0 hb | exact ep1 hb | exact ep3 hb | exact ep5 hb | exact ep7 hb) rfl (Nat.le_of_ble_eq_true rfl) (by decide) ?_
    rintro y1 ⟨f1, g1, e1⟩
    refine eg_return dX3_readMark_38 rfl ?_
    exact ⟨rfl, rfl, y1, rfl, f1, g1 3 (by decide), ⟨i, hi9, by rw [g1 2 (by decide)]; exact hat, fun hh => absurd hh (by omega)⟩, by rw [if_neg (by omega)]; exact e1⟩
  · refine eg_al_n dX3_readMark_16 rfl rfl ?_
    refine eg_dup dX3_readMark_17 rfl ?_
    refine eg_get fl_X3_25 dX3_readMark_18 (by first | exact er181 | exact er182 | exact er183 | exact ep0 hb | exact ep1 hb | exact ep3 hb | exact ep5 hb | exact ep7 hb) rfl ?_
    refine eg_eqI hat ?_
    refine eg_iconst dX3_readMark_21 ?_
    refine eg_iadd dX3_readMark_22 ?_
    refine eg_put fl_X3_25 dX3_readMark_23 (by first | exact er181 | exact er182 | exact er183 | exact ep0 hb | exact ep1 hb | exact ep3 hb | exact ep5 hb | exact ep7 hb) rfl rfl rfl rfl ?_
    refine eg_eqM es181_2 ?_
    refine eg_goto 38 dX3_readMark_26 rfl ?_
    refine eg_return dX3_readMark_38 rfl ?_
    have iL : i < L := tc_n (t := t) (by omega)
    exact ⟨rfl, rfl, _, rfl, fun c hc => va_up_n _ _ hc, by rw [va_up_s, va_up_n _ _ (by decide)], ⟨i + 1, iL, by rw [va_up_s, va_up_s]; omega, fun _ => rfl⟩, by rw [va_up_s, va_up_n _ _ (by decide), if_pos (by omega)]; exact hF⟩
theorem c_readPart {k : eg_K} {z : eg_Z} {X : eg_M} {n : Nat} {L : Nat} {t : Nat → Int} (hT : TP z L t) {v : eg_v} {i : Nat} {F : Int} (hp : hP z 184 v) (ht : tv v) (hi9 : i ≤ L) (hat : z 181 2 = (i : Int)) (hF : z 181 5 = F) (rF : 0 ≤ F ∧ F ≤ 4000) (how : ∀ q, q < 6 → z 193 q = 0) : eg_P k gX3_readPart 7 0 0 [vR k 181] n (enc k z X) (eg_p k none n X (fun z' => (∃ j : Nat, j ≤ L ∧ z' 181 2 = (j : Int)) ∧ z' 181 5 = fnx F (ftR (PT L t i v)) ∧ (∀ c, c ≠ 181 → (c < 184 ∨ 196 ≤ c) → z' c = z c) ∧ (z' 181 5 ≠ 0 → ∀ c, c ≠ 181 → z' c = z c) ∧ z' 193 = z 193 ∧ ∀ a, F = 0 → (PT L t i v) = .inr a → z' 181 2 = (a.1 : Int) ∧ hP z' 184 a.2)) := by
  refine eg_P.of (by decide) (Nat.le_of_ble_eq_true rfl) ?_
  show eg_E k gX3_readPart 7 0 0 n (enc k z X) [vR k 181] [] 0 _
  have hb := isB_184
  have hv := ht.1
  have q := hv.r.2
  have v02 := ht.2.1
  have sb := sk_b (t := t) hi9
  have wb := we_b (t := t) hi9
  have L4 := hT.1
  refine eg_al_n dX3_readPart_0 rfl rfl ?_
  refine eg_Vpv0 cs_X3_91 dX3_readPart_1 (c_readWord hT hi9 hat) (by first | exact er181 | exact er182 | exact er183 | exact ep0 hb | exact ep1 hb | exact ep3 hb | exact ep5 hb | exact ep7 hb) rfl (Nat.le_of_ble_eq_true rfl) (by decide) ?_
  rintro y1 ⟨f1, g1, w1, a1⟩
  have hT1 : TP y1 L t := hT.c (f1 182 (by decide)) (f1 183 (by decide))
  have hp1 : hP y1 184 v := hP_k (fun j hj => f1 _ (by omega)) hp
  have F5 : y1 181 5 = F := by rw [g1 5 (by decide) (by decide)]; exact hF
  refine eg_al_n dX3_readPart_4 rfl rfl ?_
  refine eg_ldcS (i := 1) rfl dX3_readPart_5 ?_
  refine eg_Vf1 cs_X3_96 dX3_readPart_7 (c_wordIs (q := 1) hT1 w1 a1 wb.1 wb.2 (by decide)) (by first | exact er181 | exact er182 | exact er183 | exact ep0 hb | exact ep1 hb | exact ep3 hb | exact ep5 hb | exact ep7 hb) rfl (Nat.le_of_ble_eq_true rfl) (by decide) ?_
  refine eg_bi_eq 20 dX3_readPart_10 rfl (fun h10 => ?_) (fun h10 => ?_)
  · refine eg_al_n dX3_readPart_20 rfl rfl ?_
    refine eg_ldcS (i := 2) rfl dX3_readPart_21 ?_
    refine eg_Vf1 cs_X3_96 dX3_readPart_23 (c_wordIs (q := 2) hT1 w1 a1 wb.1 wb.2 (by decide)) (by first | exact er181 | exact er182 | exact er183 | exact ep0 hb | exact ep1 hb | exact ep3 hb | exact ep5 hb | exact ep7 hb) rfl (Nat.le_of_ble_eq_true rfl) (by decide) ?_
    refine eg_bi_eq 37 dX3_readPart_26 rfl (fun h26 => ?_) (fun h26 => ?_)
    · refine eg_al_n dX3_readPart_37 rfl rfl ?_
      refine eg_ldcS (i := 3) rfl dX3_readPart_38 ?_
      refine eg_Vf1 cs_X3_96 dX3_readPart_40 (c_wordIs (q := 3) hT1 w1 a1 wb.1 wb.2 (by decide)) (by first | exact er181 | exact er182 | exact er183 | exact ep0 hb | exact ep1 hb | exact ep3 hb | exact ep5 hb | exact ep7 hb) rfl (Nat.le_of_ble_eq_true rfl) (by decide) ?_
      refine eg_bi_eq 54 dX3_readPart_43 rfl (fun h43 => ?_) (fun h43 => ?_)
      · refine eg_al_n dX3_readPart_54 rfl rfl ?_
        refine eg_ldcS (i := 4) rfl dX3_readPart_55 ?_
        refine eg_Vf1 cs_X3_96 dX3_readPart_57 (c_wordIs (q := 4) hT1 w1 a1 wb.1 wb.2 (by decide)) (by first | exact er181 | exact er182 | exact er183 | exact ep0 hb | exact ep1 hb | exact ep3 hb | exact ep5 hb | exact ep7 hb) rfl (Nat.le_of_ble_eq_true rfl) (by decide) ?_
        refine eg_bi_eq 70 dX3_readPart_60 rfl (fun h60 => ?_) (fun h60 => ?_)
        · refine eg_al_n dX3_readPart_70 rfl rfl ?_
          refine eg_ldcS (i := 5) rfl dX3_readPart_71 ?_
          refine eg_Vf1 cs_X3_96 dX3_readPart_73 (c_wordIs (q := 5) hT1 w1 a1 wb.1 wb.2 (by decide)) (by first | exact er181 | exact er182 | exact er183 | exact ep0 hb | exact ep1 hb | exact ep3 hb | exact ep5 hb | exact ep7 hb) rfl (Nat.le_of_ble_eq_true rfl) (by decide) ?_
          refine eg_bi_eq 88 dX3_readPart_76 rfl (fun h76 => ?_) (fun h76 => ?_)
          · refine eg_al_n dX3_readPart_88 rfl rfl ?_
            refine eg_ldcS (i := 6) rfl dX3_readPart_89 ?_
            refine eg_Vf1 cs_X3_96 dX3_readPart_91 (c_wordIs (q := 6) hT1 w1 a1 wb.1 wb.2 (by decide)) (by first | exact er181 | exact er182 | exact er183 | exact ep0 hb | exact ep1 hb | exact ep3 hb | exact ep5 hb | exact ep7 hb) rfl (Nat.le_of_ble_eq_true rfl) (by decide) ?_
            refine eg_bi_eq 106 dX3_readPart_94 rfl (fun h94 => ?_) (fun h94 => ?_)
            · refine eg_al_n dX3_readPart_106 rfl rfl ?_
              refine eg_ldcS (i := 7) rfl dX3_readPart_107 ?_
              refine eg_Vf1 cs_X3_96 dX3_readPart_109 (c_wordIs (q := 7) hT1 w1 a1 wb.1 wb.2 (by decide)) (by first | exact er181 | exact er182 | exact er183 | exact ep0 hb | exact ep1 hb | exact ep3 hb | exact ep5 hb | exact ep7 hb) rfl (Nat.le_of_ble_eq_true rfl) (by decide) ?_
              refine eg_bi_eq 124 dX3_readPart_112 rfl (fun h112 => ?_) (fun h112 => ?_)
              · refine eg_al_n dX3_readPart_124 rfl rfl ?_
                refine eg_ldcS (i := 8) rfl dX3_readPart_125 ?_
                refine eg_Vf1 cs_X3_96 dX3_readPart_127 (c_wordIs (q := 8) hT1 w1 a1 wb.1 wb.2 (by decide)) (by first | exact er181 | exact er182 | exact er183 | exact ep0 hb | exact ep1 hb | exact ep3 hb | exact ep5 hb | exact ep7 hb) rfl (Nat.le_of_ble_eq_true rfl) (by decide) ?_
                refine eg_bi_eq 140 dX3_readPart_130 rfl (fun h130 => ?_) (fun h130 => ?_)
                · refine eg_al_n dX3_readPart_140 rfl rfl ?_
                  refine eg_al_n dX3_readPart_141 rfl rfl ?_
                  refine eg_get fl_X3_29 dX3_readPart_142 (by first | exact er181 | exact er182 | exact er183 | exact ep0 hb | exact ep1 hb | exact ep3 hb | exact ep5 hb | exact ep7 hb) rfl ?_
                  refine eg_eqI w1 ?_
                  refine eg_iconst dX3_readPart_145 ?_
                  refine eg_Vpv2 cs_X3_72 dX3_readPart_146 (c_fail F5 ⟨by omega, by omega⟩) (by first | exact er181 | exact er182 | exact er183 | exact ep0 hb | exact ep1 hb | exact ep3 hb | exact ep5 hb | exact ep7 hb) rfl (Nat.le_of_ble_eq_true rfl) (by decide) ?_
                  rintro y2 ⟨f2, g2, e2⟩
                  refine eg_return dX3_readPart_149 rfl ?_
                  have eP : PT L t i v = .inl (8 * (sk L t i : Int) + 1) := by unfold PT; rw [if_neg (show ¬ wis L t (sk L t i) (we L t i) wSeg = true from h10), if_neg (show ¬ wis L t (sk L t i) (we L t i) wIn = true from h26), if_neg (show ¬ wis L t (sk L t i) (we L t i) wOut = true from h43), if_neg (show ¬ wis L t (sk L t i) (we L t i) wShp = true from h60), if_neg (show ¬ wis L t (sk L t i) (we L t i) wNom = true from h76), if_neg (show ¬ wis L t (sk L t i) (we L t i) wPrk = true from h94), if_neg (show ¬ wis L t (sk L t i) (we L t i) wLon = true from h112), if_neg (show ¬ wis L t (sk L t i) (we L t i) wPrc = true from h130)]
                  refine ⟨rfl, rfl, y2, rfl, ⟨we L t i, wb.2, by rw [g2 2 (by decide)]; exact a1⟩, by rw [eP]; exact e2, fun c9 h9 _ => (f2 c9 h9).trans (f1 c9 h9), fun _ c9 h9 => (f2 c9 h9).trans (f1 c9 h9), (f2 193 (by decide)).trans (f1 193 (by decide)), fun a9 _ h8 => ?_⟩
                  rw [eP] at h8; cases h8
                · refine eg_al_n dX3_readPart_133 rfl rfl ?_
                  refine eg_Vpv0 cs_X3_148 dX3_readPart_134 (c_readPrice (F := F) hT1 hp1 ht wb.2 a1 F5 rF) (by first | exact er181 | exact er182 | exact er183 | exact ep0 hb | exact ep1 hb | exact ep3 hb | exact ep5 hb | exact ep7 hb) rfl (Nat.le_of_ble_eq_true rfl) (by decide) ?_
                  rintro y2 ⟨d1, d2, d3, d4, d5, d6⟩
                  refine eg_goto 149 dX3_readPart_137 rfl ?_
                  refine eg_return dX3_readPart_149 rfl ?_
                  have eP : PT L t i v = prR L t (we L t i) v := by unfold PT; rw [if_neg (show ¬ wis L t (sk L t i) (we L t i) wSeg = true from h10), if_neg (show ¬ wis L t (sk L t i) (we L t i) wIn = true from h26), if_neg (show ¬ wis L t (sk L t i) (we L t i) wOut = true from h43), if_neg (show ¬ wis L t (sk L t i) (we L t i) wShp = true from h60), if_neg (show ¬ wis L t (sk L t i) (we L t i) wNom = true from h76), if_neg (show ¬ wis L t (sk L t i) (we L t i) wPrk = true from h94), if_neg (show ¬ wis L t (sk L t i) (we L t i) wLon = true from h112), if_pos (show wis L t (sk L t i) (we L t i) wPrc = true from h130)]
                  rw [← eP] at d2
                  refine ⟨rfl, rfl, y2, rfl, d1, d2, fun c9 h9 h8 => (d3 c9 h9 h8).trans (f1 c9 h9), fun hh c9 h9 => (d4 hh c9 h9).trans (f1 c9 h9), d5.trans (f1 193 (by decide)), fun a9 hF0 h8 => ?_⟩
                  rw [eP] at h8
                  exact d6 a9 hF0 h8
              · refine eg_al_n dX3_readPart_115 rfl rfl ?_
                refine eg_iconst dX3_readPart_116 ?_
                refine eg_iconst dX3_readPart_117 ?_
                refine eg_Vpv2 cs_X3_138 dX3_readPart_118 (c_readNomL (F := F) hT1 hp1 ht wb.2 a1 F5 rF w1 (by omega)) (by first | exact er181 | exact er182 | exact er183 | exact ep0 hb | exact ep1 hb | exact ep3 hb | exact ep5 hb | exact ep7 hb) rfl (Nat.le_of_ble_eq_true rfl) (by decide) ?_
                rintro y2 ⟨d1, d2, d3, d4, d5, d6⟩
                refine eg_goto 149 dX3_readPart_121 rfl ?_
                refine eg_return dX3_readPart_149 rfl ?_
                have eP : PT L t i v = fuX (decide (16 ≤ v 3)) (sk L t i) (noR L t (we L t i) v false true) := by unfold PT; rw [if_neg (show ¬ wis L t (sk L t i) (we L t i) wSeg = true from h10), if_neg (show ¬ wis L t (sk L t i) (we L t i) wIn = true from h26), if_neg (show ¬ wis L t (sk L t i) (we L t i) wOut = true from h43), if_neg (show ¬ wis L t (sk L t i) (we L t i) wShp = true from h60), if_neg (show ¬ wis L t (sk L t i) (we L t i) wNom = true from h76), if_neg (show ¬ wis L t (sk L t i) (we L t i) wPrk = true from h94), if_pos (show wis L t (sk L t i) (we L t i) wLon = true from h112), fu_x]
                rw [← eP] at d2
                refine ⟨rfl, rfl, y2, rfl, d1, d2, fun c9 h9 h8 => (d3 c9 h9 h8).trans (f1 c9 h9), fun hh c9 h9 => (d4 hh c9 h9).trans (f1 c9 h9), d5.trans (f1 193 (by decide)), fun a9 hF0 h8 => ?_⟩
                rw [eP] at h8
                exact d6 a9 hF0 h8
            · refine eg_al_n dX3_readPart_97 rfl rfl ?_
              refine eg_iconst dX3_readPart_98 ?_
              refine eg_iconst dX3_readPart_99 ?_
              refine eg_Vpv2 cs_X3_138 dX3_readPart_100 (c_readNomP (F := F) hT1 hp1 ht wb.2 a1 F5 rF w1 (by omega)) (by first | exact er181 | exact er182 | exact er183 | exact ep0 hb | exact ep1 hb | exact ep3 hb | exact ep5 hb | exact ep7 hb) rfl (Nat.le_of_ble_eq_true rfl) (by decide) ?_
              rintro y2 ⟨d1, d2, d3, d4, d5, d6⟩
              refine eg_goto 149 dX3_readPart_103 rfl ?_
              refine eg_return dX3_readPart_149 rfl ?_
              have eP : PT L t i v = fuX (decide (16 ≤ v 3)) (sk L t i) (noR L t (we L t i) v true false) := by unfold PT; rw [if_neg (show ¬ wis L t (sk L t i) (we L t i) wSeg = true from h10), if_neg (show ¬ wis L t (sk L t i) (we L t i) wIn = true from h26), if_neg (show ¬ wis L t (sk L t i) (we L t i) wOut = true from h43), if_neg (show ¬ wis L t (sk L t i) (we L t i) wShp = true from h60), if_neg (show ¬ wis L t (sk L t i) (we L t i) wNom = true from h76), if_pos (show wis L t (sk L t i) (we L t i) wPrk = true from h94), fu_x]
              rw [← eP] at d2
              refine ⟨rfl, rfl, y2, rfl, d1, d2, fun c9 h9 h8 => (d3 c9 h9 h8).trans (f1 c9 h9), fun hh c9 h9 => (d4 hh c9 h9).trans (f1 c9 h9), d5.trans (f1 193 (by decide)), fun a9 hF0 h8 => ?_⟩
              rw [eP] at h8
              exact d6 a9 hF0 h8
          · refine eg_al_n dX3_readPart_79 rfl rfl ?_
            refine eg_iconst dX3_readPart_80 ?_
            refine eg_iconst dX3_readPart_81 ?_
            refine eg_Vpv2 cs_X3_138 dX3_readPart_82 (c_readNomA (F := F) hT1 hp1 ht wb.2 a1 F5 rF w1 (by omega)) (by first | exact er181 | exact er182 | exact er183 | exact ep0 hb | exact ep1 hb | exact ep3 hb | exact ep5 hb | exact ep7 hb) rfl (Nat.le_of_ble_eq_true rfl) (by decide) ?_
            rintro y2 ⟨d1, d2, d3, d4, d5, d6⟩
            refine eg_goto 149 dX3_readPart_85 rfl ?_
            refine eg_return dX3_readPart_149 rfl ?_
            have eP : PT L t i v = fuX (decide (16 ≤ v 3)) (sk L t i) (noR L t (we L t i) v true true) := by unfold PT; rw [if_neg (show ¬ wis L t (sk L t i) (we L t i) wSeg = true from h10), if_neg (show ¬ wis L t (sk L t i) (we L t i) wIn = true from h26), if_neg (show ¬ wis L t (sk L t i) (we L t i) wOut = true from h43), if_neg (show ¬ wis L t (sk L t i) (we L t i) wShp = true from h60), if_pos (show wis L t (sk L t i) (we L t i) wNom = true from h76), fu_x]
            rw [← eP] at d2
            refine ⟨rfl, rfl, y2, rfl, d1, d2, fun c9 h9 h8 => (d3 c9 h9 h8).trans (f1 c9 h9), fun hh c9 h9 => (d4 hh c9 h9).trans (f1 c9 h9), d5.trans (f1 193 (by decide)), fun a9 hF0 h8 => ?_⟩
            rw [eP] at h8
            exact d6 a9 hF0 h8
        · refine eg_al_n dX3_readPart_63 rfl rfl ?_
          refine eg_Vpv0 cs_X3_133 dX3_readPart_64 (c_readShipper (F := F) hT1 hp1 ht wb.2 a1 F5 rF w1 (by omega) (by rw [f1 193 (by decide)]; exact how)) (by first | exact er181 | exact er182 | exact er183 | exact ep0 hb | exact ep1 hb | exact ep3 hb | exact ep5 hb | exact ep7 hb) rfl (Nat.le_of_ble_eq_true rfl) (by decide) ?_
          rintro y2 ⟨d1, d2, d3, d4, d5, d6⟩
          refine eg_goto 149 dX3_readPart_67 rfl ?_
          refine eg_return dX3_readPart_149 rfl ?_
          have eP : PT L t i v = fuX (decide (6 ≤ v 2)) (sk L t i) (shR_ L t (we L t i) v) := by unfold PT; rw [if_neg (show ¬ wis L t (sk L t i) (we L t i) wSeg = true from h10), if_neg (show ¬ wis L t (sk L t i) (we L t i) wIn = true from h26), if_neg (show ¬ wis L t (sk L t i) (we L t i) wOut = true from h43), if_pos (show wis L t (sk L t i) (we L t i) wShp = true from h60), fu_x]
          rw [← eP] at d2
          refine ⟨rfl, rfl, y2, rfl, d1, d2, fun c9 h9 h8 => (d3 c9 h9 h8).trans (f1 c9 h9), fun hh c9 h9 => (d4 hh c9 h9).trans (f1 c9 h9), d5.trans (f1 193 (by decide)), fun a9 hF0 h8 => ?_⟩
          rw [eP] at h8
          exact d6 a9 hF0 h8
      · refine eg_al_n dX3_readPart_46 rfl rfl ?_
        refine eg_iconst dX3_readPart_47 ?_
        refine eg_Vpv1 cs_X3_125 dX3_readPart_48 (c_readPoint (F := F) hT1 hp1 ht wb.2 a1 F5 rF w1 (by omega)) (by first | exact er181 | exact er182 | exact er183 | exact ep0 hb | exact ep1 hb | exact ep3 hb | exact ep5 hb | exact ep7 hb) rfl (Nat.le_of_ble_eq_true rfl) (by decide) ?_
        rintro y2 ⟨d1, d2, d3, d4, d5, d6⟩
        refine eg_goto 149 dX3_readPart_51 rfl ?_
        refine eg_return dX3_readPart_149 rfl ?_
        have eP : PT L t i v = fuX (decide (10 ≤ v 1)) (sk L t i) (ptR L t (we L t i) v 0) := by unfold PT; rw [if_neg (show ¬ wis L t (sk L t i) (we L t i) wSeg = true from h10), if_neg (show ¬ wis L t (sk L t i) (we L t i) wIn = true from h26), if_pos (show wis L t (sk L t i) (we L t i) wOut = true from h43), fu_x]
        rw [← eP] at d2
        refine ⟨rfl, rfl, y2, rfl, d1, d2, fun c9 h9 h8 => (d3 c9 h9 h8).trans (f1 c9 h9), fun hh c9 h9 => (d4 hh c9 h9).trans (f1 c9 h9), d5.trans (f1 193 (by decide)), fun a9 hF0 h8 => ?_⟩
        rw [eP] at h8
        exact d6 a9 hF0 h8
    · refine eg_al_n dX3_readPart_29 rfl rfl ?_
      refine eg_iconst dX3_readPart_30 ?_
      refine eg_Vpv1 cs_X3_125 dX3_readPart_31 (c_readPoint (F := F) hT1 hp1 ht wb.2 a1 F5 rF w1 (by omega)) (by first | exact er181 | exact er182 | exact er183 | exact ep0 hb | exact ep1 hb | exact ep3 hb | exact ep5 hb | exact ep7 hb) rfl (Nat.le_of_ble_eq_true rfl) (by decide) ?_
      rintro y2 ⟨d1, d2, d3, d4, d5, d6⟩
      refine eg_goto 149 dX3_readPart_34 rfl ?_
      refine eg_return dX3_readPart_149 rfl ?_
      have eP : PT L t i v = fuX (decide (10 ≤ v 1)) (sk L t i) (ptR L t (we L t i) v 1) := by unfold PT; rw [if_neg (show ¬ wis L t (sk L t i) (we L t i) wSeg = true from h10), if_pos (show wis L t (sk L t i) (we L t i) wIn = true from h26), fu_x]
      rw [← eP] at d2
      refine ⟨rfl, rfl, y2, rfl, d1, d2, fun c9 h9 h8 => (d3 c9 h9 h8).trans (f1 c9 h9), fun hh c9 h9 => (d4 hh c9 h9).trans (f1 c9 h9), d5.trans (f1 193 (by decide)), fun a9 hF0 h8 => ?_⟩
      rw [eP] at h8
      exact d6 a9 hF0 h8
  · refine eg_al_n dX3_readPart_13 rfl rfl ?_
    refine eg_Vpv0 cs_X3_120 dX3_readPart_14 (c_readSegment (F := F) hT1 hp1 ht wb.2 a1 F5 rF) (by first | exact er181 | exact er182 | exact er183 | exact ep0 hb | exact ep1 hb | exact ep3 hb | exact ep5 hb | exact ep7 hb) rfl (Nat.le_of_ble_eq_true rfl) (by decide) ?_
    rintro y2 ⟨d1, d2, d3, d4, d5, d6⟩
    refine eg_goto 149 dX3_readPart_17 rfl ?_
    refine eg_return dX3_readPart_149 rfl ?_
    have eP : PT L t i v = sgR L t (we L t i) v := by unfold PT; rw [if_pos (show wis L t (sk L t i) (we L t i) wSeg = true from h10)]
    rw [← eP] at d2
    refine ⟨rfl, rfl, y2, rfl, d1, d2, fun c9 h9 h8 => (d3 c9 h9 h8).trans (f1 c9 h9), fun hh c9 h9 => (d4 hh c9 h9).trans (f1 c9 h9), d5.trans (f1 193 (by decide)), fun a9 hF0 h8 => ?_⟩
    rw [eP] at h8
    exact d6 a9 hF0 h8
