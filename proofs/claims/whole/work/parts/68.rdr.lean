def fuX (full : Bool) (wa : Nat) (r : Int ⊕ (Nat × eg_v)) : Int ⊕ (Nat × eg_v) := if full = true then .inl (8 * (wa : Int) + 3) else r
theorem bd_l {α β : Type} {e : Int} {f : α → Int ⊕ β} : bd (.inl e : Int ⊕ α) f = .inl e := rfl
theorem bd_r {α β : Type} {a : α} {f : α → Int ⊕ β} : bd (.inr a : Int ⊕ α) f = f a := rfl
theorem ft_l {α : Type} {e : Int} : ftR (.inl e : Int ⊕ α) = e := rfl
theorem ft_r {α : Type} {a : α} : ftR (.inr a : Int ⊕ α) = 0 := rfl
theorem fnx_k {F e y : Int} (h : e ≠ 0) : fnx (fnx F e) y = fnx F e := by
  by_cases f : F = 0
  · rw [f, fnx_0, fnx_n h]
  · rw [fnx_n f, fnx_n f]
theorem VV_s1 {v : eg_v} {B x c : Int} (h : VV B v) (h0 : 0 ≤ x) (h1 : x < 7) (hc : 0 ≤ c ∧ c ≤ 9999) : VV B (va_up v (12 + 2 * x + 0).toNat c) := by
  have o := h.S h0 h1
  unfold okS at o
  refine k_S ⟨h0, h1⟩ ⟨by omega, by omega⟩ ?_ h (Int.le_refl _)
  unfold okS
  rw [gS_i h0 (by omega) (by omega) h0 (by omega) (by omega), if_pos (by omega), gS_i h0 (by omega) (by omega) h0 (by omega) (by omega), if_neg (by omega)]
  exact ⟨hc, o.2⟩
theorem sg_raw {k : eg_K} {z : eg_Z} {X : eg_M} {n b : Nat} {cnt r c x : Int} (hb : isB b = true) (hc : z (b + 1) 3 = cnt) (hm : cnt ≤ 7) (h0 : 0 ≤ r) (h1 : r < cnt) (h2 : 0 ≤ c) (h3 : c < 2) : eg_P k gX5_put 0 0 0 [vR k (b + 1), vI r, vI c, vI x] n (enc k z X) (eg_f none n (enc k (va_up z (b + 2) (va_up (z (b + 2)) (r * 2 + c).toNat x)) X)) := by
  have s := c_X5_put (k := k) (M := enc k z X) (n := n) (t := b + 1) (a := b + 2) (len := 14) (cols := 2) (most := 7) (cnt := cnt) (f := z (b + 2)) (r := r) (c := c) (x := x) (by rw [ep1 hb, hc]) (ep2 hb) ⟨h0, h1⟩ ⟨h2, h3⟩ (by omega) (by omega) (by decide)
  rw [es2 hb] at s
  exact s
theorem pt_raw {k : eg_K} {z : eg_Z} {X : eg_M} {n b : Nat} {cnt r c x : Int} (hb : isB b = true) (hc : z (b + 3) 3 = cnt) (hm : cnt ≤ 10) (h0 : 0 ≤ r) (h1 : r < cnt) (h2 : 0 ≤ c) (h3 : c < 4) : eg_P k gX5_put 0 0 0 [vR k (b + 3), vI r, vI c, vI x] n (enc k z X) (eg_f none n (enc k (va_up z (b + 4) (va_up (z (b + 4)) (r * 4 + c).toNat x)) X)) := by
  have s := c_X5_put (k := k) (M := enc k z X) (n := n) (t := b + 3) (a := b + 4) (len := 40) (cols := 4) (most := 10) (cnt := cnt) (f := z (b + 4)) (r := r) (c := c) (x := x) (by rw [ep3 hb, hc]) (ep4 hb) ⟨h0, h1⟩ ⟨h2, h3⟩ (by omega) (by omega) (by decide)
  rw [es4 hb] at s
  exact s
theorem sh_raw {k : eg_K} {z : eg_Z} {X : eg_M} {n b : Nat} {cnt r c x : Int} (hb : isB b = true) (hc : z (b + 5) 3 = cnt) (hm : cnt ≤ 6) (h0 : 0 ≤ r) (h1 : r < cnt) (h2 : 0 ≤ c) (h3 : c < 6) : eg_P k gX5_put 0 0 0 [vR k (b + 5), vI r, vI c, vI x] n (enc k z X) (eg_f none n (enc k (va_up z (b + 6) (va_up (z (b + 6)) (r * 6 + c).toNat x)) X)) := by
  have s := c_X5_put (k := k) (M := enc k z X) (n := n) (t := b + 5) (a := b + 6) (len := 36) (cols := 6) (most := 6) (cnt := cnt) (f := z (b + 6)) (r := r) (c := c) (x := x) (by rw [ep5 hb, hc]) (ep6 hb) ⟨h0, h1⟩ ⟨h2, h3⟩ (by omega) (by omega) (by decide)
  rw [es6 hb] at s
  exact s
theorem c_failIfFull {k : eg_K} {z : eg_Z} {X : eg_M} {n tb : Nat} {F : Int} {wa : Nat} {full : Bool} {fs : List Value} (hM : enc k z X tb = some (oO 6 fs)) (hh : eg_P k gX5_isFull 0 0 0 [vR k tb] n (enc k z X) (eg_f (some (vI (bi (full = true)))) n (enc k z X))) (hF : z 181 5 = F) (rF : 0 ≤ F ∧ F ≤ 4000) (hw : z 181 3 = (wa : Int)) : eg_P k gX3_failIfFull 1 0 0 [vR k 181, vR k tb] n (enc k z X) (eg_p k none n X (fun z' => (∀ c, c ≠ 181 → z' c = z c) ∧ (∀ j, j ≠ 5 → z' 181 j = z 181 j) ∧ z' 181 5 = if full = true then fnx F (8 * (wa : Int) + 3) else F)) := by
  refine eg_P.of (by decide) (Nat.le_of_ble_eq_true rfl) ?_
  show eg_E k gX3_failIfFull 1 0 0 n (enc k z X) [vR k 181, vR k tb] [] 0 _
  refine eg_al_n dX3_failIfFull_0 rfl rfl ?_
  refine eg_Vf0 cs_X3_182 dX3_failIfFull_1 (hh) (by first | exact hM | exact er181) rfl (Nat.le_of_ble_eq_true rfl) (by decide) ?_
  refine eg_bi_eq 16 dX3_failIfFull_4 rfl (fun h4 => ?_) (fun h4 => ?_)
  · refine eg_return dX3_failIfFull_16 rfl ?_
    exact ⟨rfl, rfl, z, rfl, fun _ _ => rfl, fun _ _ => rfl, by rw [if_neg h4]; exact hF⟩
  · refine eg_al_n dX3_failIfFull_7 rfl rfl ?_
    refine eg_al_n dX3_failIfFull_8 rfl rfl ?_
    refine eg_get fl_X3_29 dX3_failIfFull_9 (by first | exact hM | exact er181) rfl ?_
    refine eg_eqI hw ?_
    refine eg_iconst dX3_failIfFull_12 ?_
    refine eg_Vpv2 cs_X3_72 dX3_failIfFull_13 (c_fail hF ⟨by omega, by omega⟩) (by first | exact hM | exact er181) rfl (Nat.le_of_ble_eq_true rfl) (by decide) ?_
    rintro y1 ⟨f1, g1, e1⟩
    refine eg_return dX3_failIfFull_16 rfl ?_
    exact ⟨rfl, rfl, y1, rfl, f1, g1, by rw [if_pos h4]; exact e1⟩
theorem c_readSegment {k : eg_K} {z : eg_Z} {X : eg_M} {n : Nat} {L : Nat} {t : Nat → Int} (hT : TP z L t) {v : eg_v} {i : Nat} {F : Int} (hp : hP z 184 v) (ht : tv v) (hi9 : i ≤ L) (hat : z 181 2 = (i : Int)) (hF : z 181 5 = F) (rF : 0 ≤ F ∧ F ≤ 4000) : eg_P k gX3_readSegment 3 0 0 [vR k 181] n (enc k z X) (eg_p k none n X (fun z' => (∃ j : Nat, j ≤ L ∧ z' 181 2 = (j : Int)) ∧ z' 181 5 = fnx F (ftR (sgR L t i v)) ∧ (∀ c, c ≠ 181 → (c < 184 ∨ 196 ≤ c) → z' c = z c) ∧ (z' 181 5 ≠ 0 → ∀ c, c ≠ 181 → z' c = z c) ∧ z' 193 = z 193 ∧ ∀ a, F = 0 → (sgR L t i v) = .inr a → z' 181 2 = (a.1 : Int) ∧ hP z' 184 a.2)) := by
  refine eg_P.of (by decide) (Nat.le_of_ble_eq_true rfl) ?_
  show eg_E k gX3_readSegment 3 0 0 n (enc k z X) [vR k 181, vU, vU, vU] [] 0 _
  have hb := isB_184
  have hv := ht.1
  have q := hv.r.2
  have v02 := ht.2.1
  refine eg_al_n dX3_readSegment_0 rfl rfl ?_
  refine eg_iconst dX3_readSegment_1 ?_
  refine eg_al_n dX3_readSegment_2 rfl rfl ?_
  refine eg_get fl_X3_21 dX3_readSegment_3 (by first | exact er181 | exact er182 | exact er183 | exact ep0 hb | exact ep1 hb | exact ep3 hb | exact ep5 hb | exact ep7 hb) rfl ?_
  refine eg_get fl_X3_105 dX3_readSegment_6 (by first | exact er181 | exact er182 | exact er183 | exact ep0 hb | exact ep1 hb | exact ep3 hb | exact ep5 hb | exact ep7 hb) rfl ?_
  refine eg_get fl_X3_151 dX3_readSegment_9 (by first | exact er181 | exact er182 | exact er183 | exact ep0 hb | exact ep1 hb | exact ep3 hb | exact ep5 hb | exact ep7 hb) rfl ?_
  refine eg_eqI hp.2.1.1 ?_
  refine eg_iconst dX3_readSegment_12 ?_
  refine eg_isub dX3_readSegment_13 ?_
  refine eg_eqI (y := v 0 - 2) (by omega) ?_
  refine eg_Vr2 cs_X3_100 dX3_readSegment_14 (c_rn (lo := 0) (hi := (v 0 - 2)) hT hi9 hat hF rF ⟨by decide, by decide⟩ ⟨by omega, by omega⟩) (by first | exact er181 | exact er182 | exact er183 | exact ep0 hb | exact ep1 hb | exact ep3 hb | exact ep5 hb | exact ep7 hb) rfl (Nat.le_of_ble_eq_true rfl) (by decide) ?_
  rintro r1 y1 ⟨q1, f1, w1, ⟨j1, l1, p1⟩, e1, s1⟩
  have hT1 : TP y1 L t := hT.c (f1 182 (by decide)) (f1 183 (by decide))
  have rF1 := fnx_b rF (ft_b (t := t) (lo := 0) (hi := (v 0 - 2)) hT.1 hi9)
  refine eg_istore_n dX3_readSegment_17 rfl rfl rfl ?_
  refine eg_al_n dX3_readSegment_18 rfl rfl ?_
  refine eg_iconst dX3_readSegment_19 ?_
  refine eg_sipush dX3_readSegment_20 (by decide) ?_
  refine eg_Vr2 cs_X3_100 dX3_readSegment_23 (c_rn (lo := 0) (hi := 9999) hT1 l1 p1 e1 rF1 ⟨by decide, by decide⟩ ⟨by omega, by omega⟩) (by first | exact er181 | exact er182 | exact er183 | exact ep0 hb | exact ep1 hb | exact ep3 hb | exact ep5 hb | exact ep7 hb) rfl (Nat.le_of_ble_eq_true rfl) (by decide) ?_
  rintro r2 y2 ⟨q2, f2, w2, ⟨j2, l2, p2⟩, e2, s2⟩
  have hT2 : TP y2 L t := hT1.c (f2 182 (by decide)) (f2 183 (by decide))
  have rF2 := fnx_b rF1 (ft_b (t := t) (lo := 0) (hi := 9999) hT.1 l1)
  refine eg_istore_n dX3_readSegment_26 rfl rfl rfl ?_
  refine eg_al_n dX3_readSegment_27 rfl rfl ?_
  refine eg_iconst dX3_readSegment_28 ?_
  refine eg_bipush dX3_readSegment_29 (by decide) ?_
  refine eg_Vr2 cs_X3_100 dX3_readSegment_31 (c_rn (lo := 0) (hi := 50) hT2 l2 p2 e2 rF2 ⟨by decide, by decide⟩ ⟨by omega, by omega⟩) (by first | exact er181 | exact er182 | exact er183 | exact ep0 hb | exact ep1 hb | exact ep3 hb | exact ep5 hb | exact ep7 hb) rfl (Nat.le_of_ble_eq_true rfl) (by decide) ?_
  rintro r3 y3 ⟨q3, f3, w3, ⟨j3, l3, p3⟩, e3, s3⟩
  have hT3 : TP y3 L t := hT2.c (f3 182 (by decide)) (f3 183 (by decide))
  have rF3 := fnx_b rF2 (ft_b (t := t) (lo := 0) (hi := 50) hT.1 l2)
  refine eg_istore_n dX3_readSegment_34 rfl rfl rfl ?_
  refine eg_al_n dX3_readSegment_35 rfl rfl ?_
  refine eg_get fl_X3_35 dX3_readSegment_36 (by first | exact er181 | exact er182 | exact er183 | exact ep0 hb | exact ep1 hb | exact ep3 hb | exact ep5 hb | exact ep7 hb) rfl ?_
  refine eg_eqI e3 ?_
  refine eg_if_ne 68 dX3_readSegment_39 ⟨by omega, by omega⟩ rfl (fun h39 => ?_) (fun h39 => ?_)
  · have hbad := h39
    refine eg_return dX3_readSegment_68 rfl ?_
    have eS : fnx F (ftR (sgR L t i v)) = fnx (fnx (fnx (F) (ftR (nmR L t i 0 (v 0 - 2)))) (ftR (nmR L t j1 0 9999))) (ftR (nmR L t j2 0 50)) := by
      unfold sgR
      cases hx1 : nmR L t i 0 (v 0 - 2) with
      | inl e =>
        have ne := nm_ne e hx1
        rw [bd_l, ft_l, ft_l, fnx_k ne, fnx_k ne]
      | inr a1 =>
        have k1 : j1 = a1.1 := by have := (s1 a1 hx1).2.1; omega
        subst k1
        rw [bd_r, ft_r, fnx_z]
        cases hx2 : nmR L t a1.1 0 9999 with
        | inl e =>
          have ne := nm_ne e hx2
          rw [bd_l, ft_l, ft_l, fnx_k ne]
        | inr a2 =>
          have k2 : j2 = a2.1 := by have := (s2 a2 hx2).2.1; omega
          subst k2
          rw [bd_r, ft_r, fnx_z]
          cases hx3 : nmR L t a2.1 0 50 with
          | inl e =>
            have ne := nm_ne e hx3
            rw [bd_l, ft_l, ft_l]
          | inr a3 =>
            have k3 : j3 = a3.1 := by have := (s3 a3 hx3).2.1; omega
            subst k3
            rw [bd_r, ft_r, ft_r]
    refine ⟨rfl, rfl, y3, rfl, ⟨j3, l3, p3⟩, by rw [eS]; exact e3, fun c9 h9 _ => (fun c9 h9 => (((f3 c9 h9).trans (f2 c9 h9)).trans (f1 c9 h9))) c9 h9, fun _ => fun c9 h9 => (((f3 c9 h9).trans (f2 c9 h9)).trans (f1 c9 h9)), (fun c9 h9 => (((f3 c9 h9).trans (f2 c9 h9)).trans (f1 c9 h9))) 193 (by decide), fun a9 hF0 h8 => ?_⟩
    have e0 : fnx F (ftR (sgR L t i v)) = 0 := by rw [h8, hF0]; rfl
    exact absurd (eS.symm.trans e0) hbad
  · obtain ⟨F20, A3, h3⟩ := fx_0 nm_ne h39
    obtain ⟨F10, A2, h2⟩ := fx_0 nm_ne F20
    obtain ⟨F00, A1, h1⟩ := fx_0 nm_ne F10
    obtain ⟨v1, u1, -⟩ := s1 A1 h1
    obtain ⟨v2, u2, -⟩ := s2 A2 h2
    obtain ⟨v3, u3, -⟩ := s3 A3 h3
    have b1 := nmR_r hi9 h1
    have b2 := nmR_r l1 h2
    have b3 := nmR_r l2 h3
    have fr3 : ∀ c, c ≠ 181 → y3 c = z c := fun c9 h9 => (((f3 c9 h9).trans (f2 c9 h9)).trans (f1 c9 h9))
    have hp3 : hP y3 184 v := hP_k (fun j hj => fr3 _ (by omega)) hp
    refine eg_al_n dX3_readSegment_42 rfl rfl ?_
    refine eg_get fl_X3_21 dX3_readSegment_43 (by first | exact er181 | exact er182 | exact er183 | exact ep0 hb | exact ep1 hb | exact ep3 hb | exact ep5 hb | exact ep7 hb) rfl ?_
    refine eg_get fl_X3_105 dX3_readSegment_46 (by first | exact er181 | exact er182 | exact er183 | exact ep0 hb | exact ep1 hb | exact ep3 hb | exact ep5 hb | exact ep7 hb) rfl ?_
    refine eg_iload_n dX3_readSegment_49 rfl ?_
    refine eg_iconst dX3_readSegment_50 ?_
    refine eg_iload_n dX3_readSegment_51 rfl ?_
    refine eg_Vv3 cs_X3_114 dX3_readSegment_52 (sg_raw hb (cnt := segs v) hp3.2.1.1 (by omega) (by omega) (by omega) (by omega) (by omega)) (by first | exact er181 | exact er182 | exact er183 | exact ep0 hb | exact ep1 hb | exact ep3 hb | exact ep5 hb | exact ep7 hb) rfl (Nat.le_of_ble_eq_true rfl) (by decide) ?_
    have hy4 := uS (s := r1) (c0 := 0) (x := r2) ⟨by omega, by omega⟩ ⟨by omega, by omega⟩ hv hp3
    have gy4 : ∀ c, c ≠ 184 + 2 → va_up y3 (184 + 2) (va_up (y3 (184 + 2)) (r1 * 2 + 0).toNat r2) c = y3 c := fun c hc => va_up_n _ _ hc
    generalize va_up y3 (184 + 2) (va_up (y3 (184 + 2)) (r1 * 2 + 0).toNat r2) = y4 at hy4 gy4 ⊢
    have hv4 := VV_s1 (x := r1) (c := r2) hv (by omega) (by omega) (by omega)
    have sg4 : segs (va_up v (12 + 2 * r1 + 0).toNat r2) = segs v := by unfold segs; rw [va_up_n _ _ (by omega)]
    refine eg_al_n dX3_readSegment_55 rfl rfl ?_
    refine eg_get fl_X3_21 dX3_readSegment_56 (by first | exact er181 | exact er182 | exact er183 | exact ep0 hb | exact ep1 hb | exact ep3 hb | exact ep5 hb | exact ep7 hb) rfl ?_
    refine eg_get fl_X3_105 dX3_readSegment_59 (by first | exact er181 | exact er182 | exact er183 | exact ep0 hb | exact ep1 hb | exact ep3 hb | exact ep5 hb | exact ep7 hb) rfl ?_
    refine eg_iload_n dX3_readSegment_62 rfl ?_
    refine eg_iconst dX3_readSegment_63 ?_
    refine eg_iload_n dX3_readSegment_64 rfl ?_
    refine eg_Vv3 cs_X3_114 dX3_readSegment_65 (sg_raw hb (cnt := segs v) (by rw [gy4 (184 + 1) (by decide)]; exact hp3.2.1.1) (by omega) (by omega) (by omega) (by omega) (by omega)) (by first | exact er181 | exact er182 | exact er183 | exact ep0 hb | exact ep1 hb | exact ep3 hb | exact ep5 hb | exact ep7 hb) rfl (Nat.le_of_ble_eq_true rfl) (by decide) ?_
    have hy5 := uS (s := r1) (c0 := 1) (x := r3) ⟨by omega, by rw [sg4]; omega⟩ ⟨by omega, by omega⟩ hv4 hy4
    have gy5 : ∀ c, c ≠ 184 + 2 → va_up y4 (184 + 2) (va_up (y4 (184 + 2)) (r1 * 2 + 1).toNat r3) c = y4 c := fun c hc => va_up_n _ _ hc
    generalize va_up y4 (184 + 2) (va_up (y4 (184 + 2)) (r1 * 2 + 1).toNat r3) = y5 at hy5 gy5 ⊢
    refine eg_return dX3_readSegment_68 rfl ?_
    have k1 : j1 = A1.1 := by omega
    have k2 : j2 = A2.1 := by omega
    subst k1; subst k2
    have eR : sgR L t i v = .inr (A3.1, va_up (va_up v (12 + 2 * r1 + 0).toNat r2) (12 + 2 * r1 + 1).toNat r3) := by unfold sgR; rw [h1, bd_r, h2, bd_r, h3, bd_r, ← v1, ← v2, ← v3, Int.add_zero]
    have e181 : y5 181 = y3 181 := (gy5 181 (by decide)).trans (gy4 181 (by decide))
    refine ⟨rfl, rfl, y5, rfl, ⟨A3.1, b3.1, by rw [e181]; exact u3⟩, by rw [e181, e3, h39, eR, F00]; rfl, fun c9 h9 h8 => (gy5 c9 (by omega)).trans ((gy4 c9 (by omega)).trans (fr3 c9 h9)), fun hh => absurd (by rw [e181, e3]; exact h39) hh, (gy5 193 (by decide)).trans ((gy4 193 (by decide)).trans (fr3 193 (by decide))), fun a9 _ h8 => ?_⟩
    rw [eR] at h8; injection h8 with h8; subst h8; exact ⟨by rw [e181]; exact u3, hy5⟩
theorem c_readPrice {k : eg_K} {z : eg_Z} {X : eg_M} {n : Nat} {L : Nat} {t : Nat → Int} (hT : TP z L t) {v : eg_v} {i : Nat} {F : Int} (hp : hP z 184 v) (ht : tv v) (hi9 : i ≤ L) (hat : z 181 2 = (i : Int)) (hF : z 181 5 = F) (rF : 0 ≤ F ∧ F ≤ 4000) : eg_P k gX3_readPrice 3 0 0 [vR k 181] n (enc k z X) (eg_p k none n X (fun z' => (∃ j : Nat, j ≤ L ∧ z' 181 2 = (j : Int)) ∧ z' 181 5 = fnx F (ftR (prR L t i v)) ∧ (∀ c, c ≠ 181 → (c < 184 ∨ 196 ≤ c) → z' c = z c) ∧ (z' 181 5 ≠ 0 → ∀ c, c ≠ 181 → z' c = z c) ∧ z' 193 = z 193 ∧ ∀ a, F = 0 → (prR L t i v) = .inr a → z' 181 2 = (a.1 : Int) ∧ hP z' 184 a.2)) := by
  refine eg_P.of (by decide) (Nat.le_of_ble_eq_true rfl) ?_
  show eg_E k gX3_readPrice 3 0 0 n (enc k z X) [vR k 181, vU, vU] [] 0 _
  have hb := isB_184
  have hv := ht.1
  have q := hv.r.2
  have v02 := ht.2.1
  refine eg_al_n dX3_readPrice_0 rfl rfl ?_
  refine eg_iconst dX3_readPrice_1 ?_
  refine eg_sipush dX3_readPrice_2 (by decide) ?_
  refine eg_Vr2 cs_X3_100 dX3_readPrice_5 (c_rn (lo := 0) (hi := 999) hT hi9 hat hF rF ⟨by decide, by decide⟩ ⟨by omega, by omega⟩) (by first | exact er181 | exact er182 | exact er183 | exact ep0 hb | exact ep1 hb | exact ep3 hb | exact ep5 hb | exact ep7 hb) rfl (Nat.le_of_ble_eq_true rfl) (by decide) ?_
  rintro r1 y1 ⟨q1, f1, w1, ⟨j1, l1, p1⟩, e1, s1⟩
  have hT1 : TP y1 L t := hT.c (f1 182 (by decide)) (f1 183 (by decide))
  have rF1 := fnx_b rF (ft_b (t := t) (lo := 0) (hi := 999) hT.1 hi9)
  refine eg_istore_n dX3_readPrice_8 rfl rfl rfl ?_
  refine eg_al_n dX3_readPrice_9 rfl rfl ?_
  refine eg_iconst dX3_readPrice_10 ?_
  refine eg_bipush dX3_readPrice_11 (by decide) ?_
  refine eg_Vr2 cs_X3_100 dX3_readPrice_13 (c_rn (lo := 0) (hi := 100) hT1 l1 p1 e1 rF1 ⟨by decide, by decide⟩ ⟨by omega, by omega⟩) (by first | exact er181 | exact er182 | exact er183 | exact ep0 hb | exact ep1 hb | exact ep3 hb | exact ep5 hb | exact ep7 hb) rfl (Nat.le_of_ble_eq_true rfl) (by decide) ?_
  rintro r2 y2 ⟨q2, f2, w2, ⟨j2, l2, p2⟩, e2, s2⟩
  have hT2 : TP y2 L t := hT1.c (f2 182 (by decide)) (f2 183 (by decide))
  have rF2 := fnx_b rF1 (ft_b (t := t) (lo := 0) (hi := 100) hT.1 l1)
  refine eg_istore_n dX3_readPrice_16 rfl rfl rfl ?_
  refine eg_al_n dX3_readPrice_17 rfl rfl ?_
  refine eg_get fl_X3_35 dX3_readPrice_18 (by first | exact er181 | exact er182 | exact er183 | exact ep0 hb | exact ep1 hb | exact ep3 hb | exact ep5 hb | exact ep7 hb) rfl ?_
  refine eg_eqI e2 ?_
  refine eg_if_ne 40 dX3_readPrice_21 ⟨by omega, by omega⟩ rfl (fun h21 => ?_) (fun h21 => ?_)
  · have hbad := h21
    refine eg_return dX3_readPrice_40 rfl ?_
    have eS : fnx F (ftR (prR L t i v)) = fnx (fnx (F) (ftR (nmR L t i 0 999))) (ftR (nmR L t j1 0 100)) := by
      unfold prR
      cases hx1 : nmR L t i 0 999 with
      | inl e =>
        have ne := nm_ne e hx1
        rw [bd_l, ft_l, ft_l, fnx_k ne]
      | inr a1 =>
        have k1 : j1 = a1.1 := by have := (s1 a1 hx1).2.1; omega
        subst k1
        rw [bd_r, ft_r, fnx_z]
        cases hx2 : nmR L t a1.1 0 100 with
        | inl e =>
          have ne := nm_ne e hx2
          rw [bd_l, ft_l, ft_l]
        | inr a2 =>
          have k2 : j2 = a2.1 := by have := (s2 a2 hx2).2.1; omega
          subst k2
          rw [bd_r, ft_r, ft_r]
    refine ⟨rfl, rfl, y2, rfl, ⟨j2, l2, p2⟩, by rw [eS]; exact e2, fun c9 h9 _ => (fun c9 h9 => ((f2 c9 h9).trans (f1 c9 h9))) c9 h9, fun _ => fun c9 h9 => ((f2 c9 h9).trans (f1 c9 h9)), (fun c9 h9 => ((f2 c9 h9).trans (f1 c9 h9))) 193 (by decide), fun a9 hF0 h8 => ?_⟩
    have e0 : fnx F (ftR (prR L t i v)) = 0 := by rw [h8, hF0]; rfl
    exact absurd (eS.symm.trans e0) hbad
  · obtain ⟨F10, A2, h2⟩ := fx_0 nm_ne h21
    obtain ⟨F00, A1, h1⟩ := fx_0 nm_ne F10
    obtain ⟨v1, u1, -⟩ := s1 A1 h1
    obtain ⟨v2, u2, -⟩ := s2 A2 h2
    have b1 := nmR_r hi9 h1
    have b2 := nmR_r l1 h2
    have fr2 : ∀ c, c ≠ 181 → y2 c = z c := fun c9 h9 => ((f2 c9 h9).trans (f1 c9 h9))
    have hp2 : hP y2 184 v := hP_k (fun j hj => fr2 _ (by omega)) hp
    refine eg_al_n dX3_readPrice_24 rfl rfl ?_
    refine eg_get fl_X3_21 dX3_readPrice_25 (by first | exact er181 | exact er182 | exact er183 | exact ep0 hb | exact ep1 hb | exact ep3 hb | exact ep5 hb | exact ep7 hb) rfl ?_
    refine eg_iload_n dX3_readPrice_28 rfl ?_
    refine eg_put fl_X3_177 dX3_readPrice_29 (by first | exact er181 | exact er182 | exact er183 | exact ep0 hb | exact ep1 hb | exact ep3 hb | exact ep5 hb | exact ep7 hb) rfl rfl rfl rfl ?_
    refine eg_eqM (es0_1 hb) ?_
    have hy3 := u5 (x := r1) hv hp2
    have gy3 : ∀ c, c ≠ 184 → va_up y2 184 (va_up (y2 184) 1 r1) c = y2 c := fun c hc => va_up_n _ _ hc
    generalize va_up y2 184 (va_up (y2 184) 1 r1) = y3 at hy3 gy3 ⊢
    have hv3 := k_5 (x := r1) ⟨by omega, by omega⟩ hv (Int.le_refl _)
    refine eg_al_n dX3_readPrice_32 rfl rfl ?_
    refine eg_get fl_X3_21 dX3_readPrice_33 (by first | exact er181 | exact er182 | exact er183 | exact ep0 hb | exact ep1 hb | exact ep3 hb | exact ep5 hb | exact ep7 hb) rfl ?_
    refine eg_iload_n dX3_readPrice_36 rfl ?_
    refine eg_put fl_X3_179 dX3_readPrice_37 (by first | exact er181 | exact er182 | exact er183 | exact ep0 hb | exact ep1 hb | exact ep3 hb | exact ep5 hb | exact ep7 hb) rfl rfl rfl rfl ?_
    refine eg_eqM (es0_2 hb) ?_
    have hy4 := u6 (x := r2) hv3 hy3
    have gy4 : ∀ c, c ≠ 184 → va_up y3 184 (va_up (y3 184) 2 r2) c = y3 c := fun c hc => va_up_n _ _ hc
    generalize va_up y3 184 (va_up (y3 184) 2 r2) = y4 at hy4 gy4 ⊢
    refine eg_return dX3_readPrice_40 rfl ?_
    have k1 : j1 = A1.1 := by omega
    subst k1
    have eR : prR L t i v = .inr (A2.1, va_up (va_up v 5 r1) 6 r2) := by unfold prR; rw [h1, bd_r, h2, bd_r, ← v1, ← v2]
    have e181 : y4 181 = y2 181 := (gy4 181 (by decide)).trans (gy3 181 (by decide))
    refine ⟨rfl, rfl, y4, rfl, ⟨A2.1, b2.1, by rw [e181]; exact u2⟩, by rw [e181, e2, h21, eR, F00]; rfl, fun c9 h9 h8 => (gy4 c9 (by omega)).trans ((gy3 c9 (by omega)).trans (fr2 c9 h9)), fun hh => absurd (by rw [e181, e2]; exact h21) hh, (gy4 193 (by decide)).trans ((gy3 193 (by decide)).trans (fr2 193 (by decide))), fun a9 _ h8 => ?_⟩
    rw [eR] at h8; injection h8 with h8; subst h8; exact ⟨by rw [e181]; exact u2, hy4⟩
theorem c_readPoint {k : eg_K} {z : eg_Z} {X : eg_M} {n : Nat} {L : Nat} {t : Nat → Int} (hT : TP z L t) {v : eg_v} {i : Nat} {F : Int} (hp : hP z 184 v) (ht : tv v) (hi9 : i ≤ L) (hat : z 181 2 = (i : Int)) (hF : z 181 5 = F) (rF : 0 ≤ F ∧ F ≤ 4000) {wa : Nat} (hw : z 181 3 = (wa : Int)) (hwa : wa ≤ 400) {w : Int} : eg_P k gX3_readPoint 3 0 0 [vR k 181, vI w] n (enc k z X) (eg_p k none n X (fun z' => (∃ j : Nat, j ≤ L ∧ z' 181 2 = (j : Int)) ∧ z' 181 5 = fnx F (ftR (fuX (decide (10 ≤ v 1)) wa (ptR L t i v w))) ∧ (∀ c, c ≠ 181 → (c < 184 ∨ 196 ≤ c) → z' c = z c) ∧ (z' 181 5 ≠ 0 → ∀ c, c ≠ 181 → z' c = z c) ∧ z' 193 = z 193 ∧ ∀ a, F = 0 → (fuX (decide (10 ≤ v 1)) wa (ptR L t i v w)) = .inr a → z' 181 2 = (a.1 : Int) ∧ hP z' 184 a.2)) := by
  refine eg_P.of (by decide) (Nat.le_of_ble_eq_true rfl) ?_
  show eg_E k gX3_readPoint 3 0 0 n (enc k z X) [vR k 181, vI w, vU, vU, vU] [] 0 _
  have hb := isB_184
  have hv := ht.1
  have q := hv.r.2
  have v02 := ht.2.1
  have cnt9 := hp.2.1.2.1
  refine eg_al_n dX3_readPoint_0 rfl rfl ?_
  refine eg_al_n dX3_readPoint_1 rfl rfl ?_
  refine eg_get fl_X3_21 dX3_readPoint_2 (by first | exact er181 | exact er182 | exact er183 | exact ep0 hb | exact ep1 hb | exact ep3 hb | exact ep5 hb | exact ep7 hb) rfl ?_
  refine eg_get fl_X3_154 dX3_readPoint_5 (by first | exact er181 | exact er182 | exact er183 | exact ep0 hb | exact ep1 hb | exact ep3 hb | exact ep5 hb | exact ep7 hb) rfl ?_
  refine eg_Vpv1 cs_X3_157 dX3_readPoint_8 (c_failIfFull (full := decide (10 ≤ v 1)) (ep3 hb) (by have s9 := c_X5_isFull (k := k) (M := enc k z X) (n := n) (most := 10) (cnt := v 1) (by rw [ep3 hb, cnt9]) ⟨by decide, by decide⟩ ⟨by omega, by omega⟩; rw [bi_d]; exact s9) hF rF hw) (by first | exact er181 | exact er182 | exact er183 | exact ep0 hb | exact ep1 hb | exact ep3 hb | exact ep5 hb | exact ep7 hb) rfl (Nat.le_of_ble_eq_true rfl) (by decide) ?_
  rintro y0 ⟨f0, g0, e0⟩
  have hT0 : TP y0 L t := hT.c (f0 182 (by decide)) (f0 183 (by decide))
  have p0 : y0 181 2 = (i : Int) := by rw [g0 2 (by decide)]; exact hat
  have rF0 : 0 ≤ (if decide (10 ≤ v 1) = true then fnx F (8 * (wa : Int) + 3) else F) ∧ (if decide (10 ≤ v 1) = true then fnx F (8 * (wa : Int) + 3) else F) ≤ 4000 := by split; exact fnx_b rF (by omega); exact rF
  refine eg_al_n dX3_readPoint_11 rfl rfl ?_
  refine eg_iconst dX3_readPoint_12 ?_
  refine eg_al_n dX3_readPoint_13 rfl rfl ?_
  refine eg_get fl_X3_21 dX3_readPoint_14 (by first | exact er181 | exact er182 | exact er183 | exact ep0 hb | exact ep1 hb | exact ep3 hb | exact ep5 hb | exact ep7 hb) rfl ?_
  refine eg_get fl_X3_103 dX3_readPoint_17 (by first | exact er181 | exact er182 | exact er183 | exact ep0 hb | exact ep1 hb | exact ep3 hb | exact ep5 hb | exact ep7 hb) rfl ?_
  refine eg_eqI (y := v 0) (by rw [f0 184 (by decide)]; exact hp.1.1) ?_
  refine eg_iconst dX3_readPoint_20 ?_
  refine eg_isub dX3_readPoint_21 ?_
  refine eg_Vr2 cs_X3_100 dX3_readPoint_22 (c_rn (lo := 0) (hi := (v 0 - 1)) hT0 hi9 p0 e0 rF0 ⟨by decide, by decide⟩ ⟨by omega, by omega⟩) (by first | exact er181 | exact er182 | exact er183 | exact ep0 hb | exact ep1 hb | exact ep3 hb | exact ep5 hb | exact ep7 hb) rfl (Nat.le_of_ble_eq_true rfl) (by decide) ?_
  rintro r1 y1 ⟨q1, f1, w1, ⟨j1, l1, p1⟩, e1, s1⟩
  have hT1 : TP y1 L t := hT0.c (f1 182 (by decide)) (f1 183 (by decide))
  have rF1 := fnx_b rF0 (ft_b (t := t) (lo := 0) (hi := (v 0 - 1)) hT.1 hi9)
  refine eg_istore_n dX3_readPoint_25 rfl rfl rfl ?_
  refine eg_al_n dX3_readPoint_26 rfl rfl ?_
  refine eg_iconst dX3_readPoint_27 ?_
  refine eg_sipush dX3_readPoint_28 (by decide) ?_
  refine eg_Vr2 cs_X3_100 dX3_readPoint_31 (c_rn (lo := 0) (hi := 9999) hT1 l1 p1 e1 rF1 ⟨by decide, by decide⟩ ⟨by omega, by omega⟩) (by first | exact er181 | exact er182 | exact er183 | exact ep0 hb | exact ep1 hb | exact ep3 hb | exact ep5 hb | exact ep7 hb) rfl (Nat.le_of_ble_eq_true rfl) (by decide) ?_
  rintro r2 y2 ⟨q2, f2, w2, ⟨j2, l2, p2⟩, e2, s2⟩
  have hT2 : TP y2 L t := hT1.c (f2 182 (by decide)) (f2 183 (by decide))
  have rF2 := fnx_b rF1 (ft_b (t := t) (lo := 0) (hi := 9999) hT.1 l1)
  refine eg_istore_n dX3_readPoint_34 rfl rfl rfl ?_
  refine eg_al_n dX3_readPoint_35 rfl rfl ?_
  refine eg_get fl_X3_35 dX3_readPoint_36 (by first | exact er181 | exact er182 | exact er183 | exact ep0 hb | exact ep1 hb | exact ep3 hb | exact ep5 hb | exact ep7 hb) rfl ?_
  refine eg_eqI e2 ?_
  refine eg_if_ne 96 dX3_readPoint_39 ⟨by omega, by omega⟩ rfl (fun h39 => ?_) (fun h39 => ?_)
  · have hbad := h39
    refine eg_return dX3_readPoint_96 rfl ?_
    have eS : fnx (if decide (10 ≤ v 1) = true then fnx F (8 * (wa : Int) + 3) else F) (ftR (ptR L t i v w)) = fnx (fnx ((if decide (10 ≤ v 1) = true then fnx F (8 * (wa : Int) + 3) else F)) (ftR (nmR L t i 0 (v 0 - 1)))) (ftR (nmR L t j1 0 9999)) := by
      unfold ptR
      cases hx1 : nmR L t i 0 (v 0 - 1) with
      | inl e =>
        have ne := nm_ne e hx1
        rw [bd_l, ft_l, ft_l, fnx_k ne]
      | inr a1 =>
        have k1 : j1 = a1.1 := by have := (s1 a1 hx1).2.1; omega
        subst k1
        rw [bd_r, ft_r, fnx_z]
        cases hx2 : nmR L t a1.1 0 9999 with
        | inl e =>
          have ne := nm_ne e hx2
          rw [bd_l, ft_l, ft_l]
        | inr a2 =>
          have k2 : j2 = a2.1 := by have := (s2 a2 hx2).2.1; omega
          subst k2
          rw [bd_r, ft_r, ft_r]
    have eS2 : fnx F (ftR (fuX (decide (10 ≤ v 1)) wa (ptR L t i v w))) = fnx (if decide (10 ≤ v 1) = true then fnx F (8 * (wa : Int) + 3) else F) (ftR (ptR L t i v w)) := by
      by_cases hf9 : decide (10 ≤ v 1) = true
      · unfold fuX; rw [if_pos hf9, if_pos hf9, ft_l, fnx_k (by omega)]
      · unfold fuX; rw [if_neg hf9, if_neg hf9]
    refine ⟨rfl, rfl, y2, rfl, ⟨j2, l2, p2⟩, by rw [eS2, eS]; exact e2, fun c9 h9 _ => (fun c9 h9 => (((f2 c9 h9).trans (f1 c9 h9))).trans (f0 c9 h9)) c9 h9, fun _ => fun c9 h9 => (((f2 c9 h9).trans (f1 c9 h9))).trans (f0 c9 h9), (fun c9 h9 => (((f2 c9 h9).trans (f1 c9 h9))).trans (f0 c9 h9)) 193 (by decide), fun a9 hF0 h8 => ?_⟩
    have e9 : fnx F (ftR (fuX (decide (10 ≤ v 1)) wa (ptR L t i v w))) = 0 := by rw [h8, hF0]; rfl
    exact absurd ((eS2.trans eS).symm.trans e9) hbad
  · obtain ⟨F10, A2, h2⟩ := fx_0 nm_ne h39
    obtain ⟨F00, A1, h1⟩ := fx_0 nm_ne F10
    obtain ⟨v1, u1, -⟩ := s1 A1 h1
    obtain ⟨v2, u2, -⟩ := s2 A2 h2
    have b1 := nmR_r hi9 h1
    have b2 := nmR_r l1 h2
    have fr2 : ∀ c, c ≠ 181 → y2 c = z c := fun c9 h9 => (((f2 c9 h9).trans (f1 c9 h9))).trans (f0 c9 h9)
    have hp2 : hP y2 184 v := hP_k (fun j hj => fr2 _ (by omega)) hp
    have nf : ¬ decide (10 ≤ v 1) = true := fun hh => by rw [if_pos hh] at F00; have := (fx_0 (x := (.inl (8 * (wa : Int) + 3) : Int ⊕ Nat)) (fun e he => by injection he with he; omega) F00).2; obtain ⟨a9, ha9⟩ := this; cases ha9
    rw [if_neg nf] at F00
    have full9 : v 1 < 10 := by
      by_cases x9 : 10 ≤ v 1
      · exact absurd (decide_eq_true x9) nf
      · omega
    refine eg_al_n dX3_readPoint_42 rfl rfl ?_
    refine eg_get fl_X3_21 dX3_readPoint_43 (by first | exact er181 | exact er182 | exact er183 | exact ep0 hb | exact ep1 hb | exact ep3 hb | exact ep5 hb | exact ep7 hb) rfl ?_
    refine eg_get fl_X3_154 dX3_readPoint_46 (by first | exact er181 | exact er182 | exact er183 | exact ep0 hb | exact ep1 hb | exact ep3 hb | exact ep5 hb | exact ep7 hb) rfl ?_
    refine eg_Vpf0 cs_X3_109 dX3_readPoint_49 (add_3 hb (cnt := v 1) hp2.2.1.2.1 (by omega) (by omega)) (by first | exact er181 | exact er182 | exact er183 | exact ep0 hb | exact ep1 hb | exact ep3 hb | exact ep5 hb | exact ep7 hb) rfl (Nat.le_of_ble_eq_true rfl) (by decide) ?_
    rintro y3 ⟨m3, n3, kr3, zr3⟩
    refine eg_istore dX3_readPoint_52 rfl rfl rfl ?_
    refine eg_al_n dX3_readPoint_54 rfl rfl ?_
    refine eg_get fl_X3_21 dX3_readPoint_55 (by first | exact er181 | exact er182 | exact er183 | exact ep0 hb | exact ep1 hb | exact ep3 hb | exact ep5 hb | exact ep7 hb) rfl ?_
    refine eg_get fl_X3_154 dX3_readPoint_58 (by first | exact er181 | exact er182 | exact er183 | exact ep0 hb | exact ep1 hb | exact ep3 hb | exact ep5 hb | exact ep7 hb) rfl ?_
    refine eg_iload dX3_readPoint_61 rfl ?_
    refine eg_iconst dX3_readPoint_63 ?_
    refine eg_iload_n dX3_readPoint_64 rfl ?_
    refine eg_Vv3 cs_X3_114 dX3_readPoint_65 (pt_raw hb (cnt := v 1 + 1) n3 (by omega) (by omega) (by omega) (by omega) (by omega)) (by first | exact er181 | exact er182 | exact er183 | exact ep0 hb | exact ep1 hb | exact ep3 hb | exact ep5 hb | exact ep7 hb) rfl (Nat.le_of_ble_eq_true rfl) (by decide) ?_
    have hy4 : va_up y3 (184 + 4) (va_up (y3 (184 + 4)) (v 1 * 4 + 0).toNat r1) (184 + 4) = va_up (y3 (184 + 4)) (v 1 * 4 + 0).toNat r1 := va_up_s _ _ _
    have gy4 : ∀ c, c ≠ 184 + 4 → va_up y3 (184 + 4) (va_up (y3 (184 + 4)) (v 1 * 4 + 0).toNat r1) c = y3 c := fun c hc => va_up_n _ _ hc
    generalize va_up y3 (184 + 4) (va_up (y3 (184 + 4)) (v 1 * 4 + 0).toNat r1) = y4 at hy4 gy4 ⊢
    refine eg_al_n dX3_readPoint_68 rfl rfl ?_
    refine eg_get fl_X3_21 dX3_readPoint_69 (by first | exact er181 | exact er182 | exact er183 | exact ep0 hb | exact ep1 hb | exact ep3 hb | exact ep5 hb | exact ep7 hb) rfl ?_
    refine eg_get fl_X3_154 dX3_readPoint_72 (by first | exact er181 | exact er182 | exact er183 | exact ep0 hb | exact ep1 hb | exact ep3 hb | exact ep5 hb | exact ep7 hb) rfl ?_
    refine eg_iload dX3_readPoint_75 rfl ?_
    refine eg_iconst dX3_readPoint_77 ?_
    refine eg_iload_n dX3_readPoint_78 rfl ?_
    refine eg_Vv3 cs_X3_114 dX3_readPoint_79 (pt_raw hb (cnt := v 1 + 1) (by rw [gy4 _ (by decide)]; exact n3) (by omega) (by omega) (by omega) (by omega) (by omega)) (by first | exact er181 | exact er182 | exact er183 | exact ep0 hb | exact ep1 hb | exact ep3 hb | exact ep5 hb | exact ep7 hb) rfl (Nat.le_of_ble_eq_true rfl) (by decide) ?_
    have hy5 : va_up y4 (184 + 4) (va_up (y4 (184 + 4)) (v 1 * 4 + 1).toNat w) (184 + 4) = va_up (y4 (184 + 4)) (v 1 * 4 + 1).toNat w := va_up_s _ _ _
    have gy5 : ∀ c, c ≠ 184 + 4 → va_up y4 (184 + 4) (va_up (y4 (184 + 4)) (v 1 * 4 + 1).toNat w) c = y4 c := fun c hc => va_up_n _ _ hc
    generalize va_up y4 (184 + 4) (va_up (y4 (184 + 4)) (v 1 * 4 + 1).toNat w) = y5 at hy5 gy5 ⊢
    refine eg_al_n dX3_readPoint_82 rfl rfl ?_
    refine eg_get fl_X3_21 dX3_readPoint_83 (by first | exact er181 | exact er182 | exact er183 | exact ep0 hb | exact ep1 hb | exact ep3 hb | exact ep5 hb | exact ep7 hb) rfl ?_
    refine eg_get fl_X3_154 dX3_readPoint_86 (by first | exact er181 | exact er182 | exact er183 | exact ep0 hb | exact ep1 hb | exact ep3 hb | exact ep5 hb | exact ep7 hb) rfl ?_
    refine eg_iload dX3_readPoint_89 rfl ?_
    refine eg_iconst dX3_readPoint_91 ?_
    refine eg_iload_n dX3_readPoint_92 rfl ?_
    refine eg_Vv3 cs_X3_114 dX3_readPoint_93 (pt_raw hb (cnt := v 1 + 1) (by rw [gy5 _ (by decide), gy4 _ (by decide)]; exact n3) (by omega) (by omega) (by omega) (by omega) (by omega)) (by first | exact er181 | exact er182 | exact er183 | exact ep0 hb | exact ep1 hb | exact ep3 hb | exact ep5 hb | exact ep7 hb) rfl (Nat.le_of_ble_eq_true rfl) (by decide) ?_
    have hy6 : va_up y5 (184 + 4) (va_up (y5 (184 + 4)) (v 1 * 4 + 2).toNat r2) (184 + 4) = va_up (y5 (184 + 4)) (v 1 * 4 + 2).toNat r2 := va_up_s _ _ _
    have gy6 : ∀ c, c ≠ 184 + 4 → va_up y5 (184 + 4) (va_up (y5 (184 + 4)) (v 1 * 4 + 2).toNat r2) c = y5 c := fun c hc => va_up_n _ _ hc
    generalize va_up y5 (184 + 4) (va_up (y5 (184 + 4)) (v 1 * 4 + 2).toNat r2) = y6 at hy6 gy6 ⊢
    refine eg_return dX3_readPoint_96 rfl ?_
    have k1 : j1 = A1.1 := by omega
    subst k1
    have fr6 : ∀ c, c ≠ 181 → c ≠ 187 → c ≠ 188 → y6 c = z c := fun c h181 h187 h188 => (gy6 c h188).trans ((gy5 c h188).trans ((gy4 c h188).trans ((m3 c h187 h188).trans (fr2 c h181))))
    have e181 : y6 181 = y2 181 := (gy6 181 (by decide)).trans ((gy5 181 (by decide)).trans ((gy4 181 (by decide)).trans (m3 181 (by decide) (by decide))))
    have hp6 : hP y6 184 (ptV v r1 w r2) := by
      obtain ⟨t0, t1, t2, t3⟩ := ptV_g (v := v) (h := r1) (w := w) (c := r2) ⟨by omega, by omega⟩
      refine hP_P hv hp (fun i9 a9 b9 => ptV_o ⟨by omega, by omega⟩ a9 (by omega)) (by rw [ptV_1]; omega) (fun j hj h3 h4 => fr6 _ (by omega) (by omega) (by omega)) (by rw [gy6 _ (by decide), gy5 _ (by decide), gy4 _ (by decide), n3, ptV_1]) (fun q9 c9 g0 g1 g2 g3 => ?_)
      rw [ptV_1] at g1
      rw [hy6, hy5, hy4]
      by_cases eq9 : q9 = v 1
      · subst eq9
        rcases (show c9 = 0 ∨ c9 = 1 ∨ c9 = 2 ∨ c9 = 3 by omega) with rfl | rfl | rfl | rfl
        · rw [va_up_n _ _ (by omega), va_up_n _ _ (by omega), va_up_s, t0]
        · rw [va_up_n _ _ (by omega), va_up_s, t1]
        · rw [va_up_s, t2]
        · rw [va_up_n _ _ (by omega), va_up_n _ _ (by omega), va_up_n _ _ (by omega), t3, zr3 _ (by omega) (by omega)]; exact (ht.2.2.2.2.2.1 _ (by omega) (by omega)).symm
      · rw [va_up_n _ _ (by omega), va_up_n _ _ (by omega), va_up_n _ _ (by omega), kr3 _ (by omega), show gP (ptV v r1 w r2) q9 c9 = gP v q9 c9 from ptV_o ⟨by omega, by omega⟩ (by omega) (by omega)]
        exact hp2.2.2.2.1 q9 c9 g0 (by omega) g2 g3
    have eR : (fuX (decide (10 ≤ v 1)) wa (ptR L t i v w)) = .inr (A2.1, ptV v r1 w r2) := by unfold fuX; rw [if_neg nf]; unfold ptR; rw [h1, bd_r, h2, bd_r, ← v1, ← v2]
    refine ⟨rfl, rfl, y6, rfl, ⟨A2.1, b2.1, by rw [e181]; exact u2⟩, by rw [e181, e2, h39, eR, F00]; rfl, fun c9 h9 h8 => fr6 c9 h9 (by omega) (by omega), fun hh => absurd (by rw [e181, e2]; exact h39) hh, fr6 193 (by decide) (by decide) (by decide), fun a9 _ h8 => ?_⟩
    rw [eR] at h8; injection h8 with h8; subst h8; exact ⟨by rw [e181]; exact u2, hp6⟩
