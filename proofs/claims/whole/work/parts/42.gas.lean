theorem c_allows {k : eg_K} {z : eg_Z} {X : eg_M} {n b : Nat} {v : eg_v} {B : Int} (hb : isB b = true) (hp : hP z b v) (hv : VV B v) {s f t x : Int} (hs : iR s) (hf : iR f) (ht : iR t) (hx : iR x) : eg_P k gX2_allows 2 0 0 [vR k b, vI s, vI f, vI t, vI x] n (enc k z X) (eg_f (some (vI (bi (alB v s f t x = true)))) n (enc k z X)) := by
  have h := c_X2_allows (n := n) (X := X) (k := k) hb hp hv hs hf ht hx
  rw [← bi_d] at h
  exact h
theorem alB_to {v : eg_v} {s f t x : Int} (h : alB v s f t x = true) : (0 ≤ s ∧ s < v 2) ∧ (f = -1 ∨ isIn v f) ∧ (t = -1 ∨ isOut v t) ∧ (f ≠ -1 ∨ t ≠ -1) ∧ (1 ≤ x ∧ x ≤ 9999) := by unfold isIn isOut; exact of_decide_eq_true h
theorem c_isFull {k : eg_K} {z : eg_Z} {X : eg_M} {n b : Nat} {v : eg_v} {B : Int} (hb : isB b = true) (hp : hP z b v) (hv : VV B v) : eg_P k gX5_isFull 0 0 0 [vR k (b + 7)] n (enc k z X) (eg_f (some (vI (bi (16 ≤ v 3)))) n (enc k z X)) := by
  have q := hv.r.2
  have e := hp.2.1.2.2.2
  have h := c_X5_isFull (n := n) (ep7 (k := k) (z := z) (X := X) hb) ⟨by omega, by omega⟩ (by rw [e]; exact ⟨by omega, by omega⟩)
  rw [e] at h
  exact h
theorem c_X8_isTerm {k : eg_K} {M : eg_M} {n : Nat} {w x : Int} (hw : iR w) (hx : iR x) : eg_P k gX8_isTerm 1 0 0 [vI w, vI x] n (M) (eg_f (some (vI (bi (tmB w x = true)))) n (M)) := by
  refine eg_P.of (by decide) (Nat.le_of_ble_eq_true rfl) ?_
  show eg_E k gX8_isTerm 1 0 0 n (M) [vI w, vI x] [] 0 _
  have hw1 := hw.1; have hw2 := hw.2; have hx1 := hx.1; have hx2 := hx.2
  rw [show bi (tmB w x = true) = _ from bi_d]
  refine eg_iload_n dX8_isTerm_0 rfl ?_
  refine eg_iconst dX8_isTerm_1 ?_
  refine eg_icmp_ne 13 dX8_isTerm_2 ⟨by omega, by omega⟩ ⟨by omega, by omega⟩ rfl (fun h2 => ?_) (fun h2 => ?_)
  · refine eg_iload_n dX8_isTerm_13 rfl ?_
    refine eg_iconst dX8_isTerm_14 ?_
    refine eg_iconst dX8_isTerm_15 ?_
    refine eg_Sf3 cs_X8_79 dX8_isTerm_16 (c_X8_within ⟨by omega, by omega⟩ ⟨by omega, by omega⟩ ⟨by omega, by omega⟩) (Nat.le_of_ble_eq_true rfl) (by decide) ?_
    refine eg_bi_eq 37 dX8_isTerm_19 rfl (fun h19 => ?_) (fun h19 => ?_)
    · refine eg_iconst dX8_isTerm_37 ?_
      refine eg_ireturn dX8_isTerm_38 rfl (by first | rfl | (unfold bi; split <;> rfl)) ?_
      exact ⟨congrArg (fun q => some (vI q)) (by unfold bi; first | rw [if_pos (by omega)] | rw [if_neg (by omega)]), rfl, rfl⟩
    · refine eg_iload_n dX8_isTerm_22 rfl ?_
      refine eg_iconst dX8_isTerm_23 ?_
      refine eg_sipush dX8_isTerm_24 (by decide) ?_
      refine eg_Sf3 cs_X8_79 dX8_isTerm_27 (c_X8_within ⟨by omega, by omega⟩ ⟨by omega, by omega⟩ ⟨by omega, by omega⟩) (Nat.le_of_ble_eq_true rfl) (by decide) ?_
      refine eg_bi_eq 37 dX8_isTerm_30 rfl (fun h30 => ?_) (fun h30 => ?_)
      · refine eg_iconst dX8_isTerm_37 ?_
        refine eg_ireturn dX8_isTerm_38 rfl (by first | rfl | (unfold bi; split <;> rfl)) ?_
        exact ⟨congrArg (fun q => some (vI q)) (by unfold bi; first | rw [if_pos (by omega)] | rw [if_neg (by omega)]), rfl, rfl⟩
      · refine eg_iconst dX8_isTerm_33 ?_
        refine eg_goto 38 dX8_isTerm_34 rfl ?_
        refine eg_ireturn dX8_isTerm_38 rfl (by first | rfl | (unfold bi; split <;> rfl)) ?_
        exact ⟨congrArg (fun q => some (vI q)) (by unfold bi; first | rw [if_pos (by omega)] | rw [if_neg (by omega)]), rfl, rfl⟩
  · refine eg_iload_n dX8_isTerm_5 rfl ?_
    refine eg_iconst dX8_isTerm_6 ?_
    refine eg_bipush dX8_isTerm_7 (by decide) ?_
    refine eg_Sf3 cs_X8_79 dX8_isTerm_9 (c_X8_within ⟨by omega, by omega⟩ ⟨by omega, by omega⟩ ⟨by omega, by omega⟩) (Nat.le_of_ble_eq_true rfl) (by decide) ?_
    refine eg_ireturn dX8_isTerm_12 rfl (by first | rfl | (unfold bi; split <;> rfl)) ?_
    exact ⟨congrArg (fun q => some (vI q)) (by unfold bi; split <;> (first | rw [if_pos (by omega)] | rw [if_neg (by omega)])), rfl, rfl⟩
theorem c_X8_canDeal {k : eg_K} {z : eg_Z} {X : eg_M} {n : Nat} {v : eg_v} {B : Int} (hp : hP z 1 v) (hv : VV B v) {a b x : Int} (ha : iR a) (hb9 : iR b) (hx : iR x) : eg_P k gX8_canDeal 1 0 0 [vR k 0, vI a, vI b, vI x] n (enc k z X) (eg_f (some (vI (bi (dlB v a b x = true)))) n (enc k z X)) := by
  refine eg_P.of (by decide) (Nat.le_of_ble_eq_true rfl) ?_
  show eg_E k gX8_canDeal 1 0 0 n (enc k z X) [vR k 0, vI a, vI b, vI x] [] 0 _
  have hb := isB_1
  have q := hv.r.2
  have hx1 := hx.1; have hx2 := hx.2; have ha1 := ha.1; have ha2 := ha.2; have hb1 := hb9.1; have hb2 := hb9.2
  rw [show bi (dlB v a b x = true) = _ from bi_d]
  refine eg_al_n dX8_canDeal_0 rfl rfl ?_
  refine eg_get fl_X8_12 dX8_canDeal_1 (by first | exact er0 | exact ep0 hb | exact ep1 hb | exact ep3 hb | exact ep5 hb | exact ep7 hb | exact er25 | exact er34 | exact er181 | exact er182 | exact er196 | exact er199 | exact er156 | exact ep0 isB_13 | exact ep1 isB_13 | exact ep3 isB_13 | exact ep5 isB_13 | exact ep7 isB_13 | exact er26 | exact er27 | exact er28 | exact ep9 hb | exact ep10 hb) rfl ?_
  refine eg_get fl_X8_146 dX8_canDeal_4 (by first | exact er0 | exact ep0 hb | exact ep1 hb | exact ep3 hb | exact ep5 hb | exact ep7 hb | exact er25 | exact er34 | exact er181 | exact er182 | exact er196 | exact er199 | exact er156 | exact ep0 isB_13 | exact ep1 isB_13 | exact ep3 isB_13 | exact ep5 isB_13 | exact ep7 isB_13 | exact er26 | exact er27 | exact er28 | exact ep9 hb | exact ep10 hb) rfl ?_
  refine eg_iload_n dX8_canDeal_7 rfl ?_
  refine eg_Vf1 cs_X8_121 dX8_canDeal_8 (sh_has hb hp hv ha) (by first | exact er0 | exact ep0 hb | exact ep1 hb | exact ep3 hb | exact ep5 hb | exact ep7 hb | exact er25 | exact er34 | exact er181 | exact er182 | exact er196 | exact er199 | exact er156 | exact ep0 isB_13 | exact ep1 isB_13 | exact ep3 isB_13 | exact ep5 isB_13 | exact ep7 isB_13 | exact er26 | exact er27 | exact er28 | exact ep9 hb | exact ep10 hb) rfl (Nat.le_of_ble_eq_true rfl) (by decide) ?_
  refine eg_bi_eq 48 dX8_canDeal_11 rfl (fun h11 => ?_) (fun h11 => ?_)
  · refine eg_iconst dX8_canDeal_48 ?_
    refine eg_ireturn dX8_canDeal_49 rfl rfl ?_
    exact ⟨congrArg (fun q => some (vI q)) (by unfold bi; first | rw [if_pos (by omega)] | rw [if_neg (by omega)]), rfl, rfl⟩
  · refine eg_al_n dX8_canDeal_14 rfl rfl ?_
    refine eg_get fl_X8_12 dX8_canDeal_15 (by first | exact er0 | exact ep0 hb | exact ep1 hb | exact ep3 hb | exact ep5 hb | exact ep7 hb | exact er25 | exact er34 | exact er181 | exact er182 | exact er196 | exact er199 | exact er156 | exact ep0 isB_13 | exact ep1 isB_13 | exact ep3 isB_13 | exact ep5 isB_13 | exact ep7 isB_13 | exact er26 | exact er27 | exact er28 | exact ep9 hb | exact ep10 hb) rfl ?_
    refine eg_get fl_X8_146 dX8_canDeal_18 (by first | exact er0 | exact ep0 hb | exact ep1 hb | exact ep3 hb | exact ep5 hb | exact ep7 hb | exact er25 | exact er34 | exact er181 | exact er182 | exact er196 | exact er199 | exact er156 | exact ep0 isB_13 | exact ep1 isB_13 | exact ep3 isB_13 | exact ep5 isB_13 | exact ep7 isB_13 | exact er26 | exact er27 | exact er28 | exact ep9 hb | exact ep10 hb) rfl ?_
    refine eg_iload_n dX8_canDeal_21 rfl ?_
    refine eg_Vf1 cs_X8_121 dX8_canDeal_22 (sh_has hb hp hv hb9) (by first | exact er0 | exact ep0 hb | exact ep1 hb | exact ep3 hb | exact ep5 hb | exact ep7 hb | exact er25 | exact er34 | exact er181 | exact er182 | exact er196 | exact er199 | exact er156 | exact ep0 isB_13 | exact ep1 isB_13 | exact ep3 isB_13 | exact ep5 isB_13 | exact ep7 isB_13 | exact er26 | exact er27 | exact er28 | exact ep9 hb | exact ep10 hb) rfl (Nat.le_of_ble_eq_true rfl) (by decide) ?_
    refine eg_bi_eq 48 dX8_canDeal_25 rfl (fun h25 => ?_) (fun h25 => ?_)
    · refine eg_iconst dX8_canDeal_48 ?_
      refine eg_ireturn dX8_canDeal_49 rfl rfl ?_
      exact ⟨congrArg (fun q => some (vI q)) (by unfold bi; first | rw [if_pos (by omega)] | rw [if_neg (by omega)]), rfl, rfl⟩
    · refine eg_iload_n dX8_canDeal_28 rfl ?_
      refine eg_iload_n dX8_canDeal_29 rfl ?_
      refine eg_icmp_eq 48 dX8_canDeal_30 ⟨by omega, by omega⟩ ⟨by omega, by omega⟩ rfl (fun h30 => ?_) (fun h30 => ?_)
      · refine eg_iconst dX8_canDeal_48 ?_
        refine eg_ireturn dX8_canDeal_49 rfl rfl ?_
        exact ⟨congrArg (fun q => some (vI q)) (by unfold bi; first | rw [if_pos (by omega)] | rw [if_neg (by omega)]), rfl, rfl⟩
      · refine eg_iload_n dX8_canDeal_33 rfl ?_
        refine eg_iconst dX8_canDeal_34 ?_
        refine eg_sipush dX8_canDeal_35 (by decide) ?_
        refine eg_Sf3 cs_X8_79 dX8_canDeal_38 (c_X8_within ⟨by omega, by omega⟩ ⟨by omega, by omega⟩ ⟨by omega, by omega⟩) (Nat.le_of_ble_eq_true rfl) (by decide) ?_
        refine eg_bi_eq 48 dX8_canDeal_41 rfl (fun h41 => ?_) (fun h41 => ?_)
        · refine eg_iconst dX8_canDeal_48 ?_
          refine eg_ireturn dX8_canDeal_49 rfl rfl ?_
          exact ⟨congrArg (fun q => some (vI q)) (by unfold bi; first | rw [if_pos (by omega)] | rw [if_neg (by omega)]), rfl, rfl⟩
        · refine eg_iconst dX8_canDeal_44 ?_
          refine eg_goto 49 dX8_canDeal_45 rfl ?_
          refine eg_ireturn dX8_canDeal_49 rfl rfl ?_
          exact ⟨congrArg (fun q => some (vI q)) (by unfold bi; first | rw [if_pos (by omega)] | rw [if_neg (by omega)]), rfl, rfl⟩
theorem c_X8_isWay {k : eg_K} {z : eg_Z} {X : eg_M} {n : Nat} {v : eg_v} {B : Int} (hp : hP z 1 v) (hv : VV B v) {a b : Int} (ha : iR a) (hb9 : iR b) : eg_P k gX8_isWay 1 0 0 [vR k 0, vI a, vI b] n (enc k z X) (eg_f (some (vI (bi ((0 ≤ a ∧ a < v 0) ∧ (0 ≤ b ∧ b < v 0))))) n (enc k z X)) := by
  refine eg_P.of (by decide) (Nat.le_of_ble_eq_true rfl) ?_
  show eg_E k gX8_isWay 1 0 0 n (enc k z X) [vR k 0, vI a, vI b] [] 0 _
  have hb := isB_1
  have q := hv.r.2
  refine eg_al_n dX8_isWay_0 rfl rfl ?_
  refine eg_get fl_X8_12 dX8_isWay_1 (by first | exact er0 | exact ep0 hb | exact ep1 hb | exact ep3 hb | exact ep5 hb | exact ep7 hb | exact er25 | exact er34 | exact er181 | exact er182 | exact er196 | exact er199 | exact er156 | exact ep0 isB_13 | exact ep1 isB_13 | exact ep3 isB_13 | exact ep5 isB_13 | exact ep7 isB_13 | exact er26 | exact er27 | exact er28 | exact ep9 hb | exact ep10 hb) rfl ?_
  refine eg_iload_n dX8_isWay_4 rfl ?_
  refine eg_Vf1 cs_X8_164 dX8_isWay_5 (c_X2_hasHub hb hp hv ha) (by first | exact er0 | exact ep0 hb | exact ep1 hb | exact ep3 hb | exact ep5 hb | exact ep7 hb | exact er25 | exact er34 | exact er181 | exact er182 | exact er196 | exact er199 | exact er156 | exact ep0 isB_13 | exact ep1 isB_13 | exact ep3 isB_13 | exact ep5 isB_13 | exact ep7 isB_13 | exact er26 | exact er27 | exact er28 | exact ep9 hb | exact ep10 hb) rfl (Nat.le_of_ble_eq_true rfl) (by decide) ?_
  refine eg_bi_eq 26 dX8_isWay_8 rfl (fun h8 => ?_) (fun h8 => ?_)
  · refine eg_iconst dX8_isWay_26 ?_
    refine eg_ireturn dX8_isWay_27 rfl rfl ?_
    exact ⟨congrArg (fun q => some (vI q)) (by unfold bi; first | rw [if_pos (by omega)] | rw [if_neg (by omega)]), rfl, rfl⟩
  · refine eg_al_n dX8_isWay_11 rfl rfl ?_
    refine eg_get fl_X8_12 dX8_isWay_12 (by first | exact er0 | exact ep0 hb | exact ep1 hb | exact ep3 hb | exact ep5 hb | exact ep7 hb | exact er25 | exact er34 | exact er181 | exact er182 | exact er196 | exact er199 | exact er156 | exact ep0 isB_13 | exact ep1 isB_13 | exact ep3 isB_13 | exact ep5 isB_13 | exact ep7 isB_13 | exact er26 | exact er27 | exact er28 | exact ep9 hb | exact ep10 hb) rfl ?_
    refine eg_iload_n dX8_isWay_15 rfl ?_
    refine eg_Vf1 cs_X8_164 dX8_isWay_16 (c_X2_hasHub hb hp hv hb9) (by first | exact er0 | exact ep0 hb | exact ep1 hb | exact ep3 hb | exact ep5 hb | exact ep7 hb | exact er25 | exact er34 | exact er181 | exact er182 | exact er196 | exact er199 | exact er156 | exact ep0 isB_13 | exact ep1 isB_13 | exact ep3 isB_13 | exact ep5 isB_13 | exact ep7 isB_13 | exact er26 | exact er27 | exact er28 | exact ep9 hb | exact ep10 hb) rfl (Nat.le_of_ble_eq_true rfl) (by decide) ?_
    refine eg_bi_eq 26 dX8_isWay_19 rfl (fun h19 => ?_) (fun h19 => ?_)
    · refine eg_iconst dX8_isWay_26 ?_
      refine eg_ireturn dX8_isWay_27 rfl rfl ?_
      exact ⟨congrArg (fun q => some (vI q)) (by unfold bi; first | rw [if_pos (by omega)] | rw [if_neg (by omega)]), rfl, rfl⟩
    · refine eg_iconst dX8_isWay_22 ?_
      refine eg_goto 27 dX8_isWay_23 rfl ?_
      refine eg_ireturn dX8_isWay_27 rfl rfl ?_
      exact ⟨congrArg (fun q => some (vI q)) (by unfold bi; first | rw [if_pos (by omega)] | rw [if_neg (by omega)]), rfl, rfl⟩
theorem p_end {k : eg_K} {z : eg_Z} {X : eg_M} {n : Nat} {s : eg_S} (hI : IC z s) {a : Int} (r_a : iR a) : eg_P k gX8_end 1 0 0 [vR k 0, vI a] n (enc k z X) (eg_p k (some (vI (R_end s a).1)) n X (fun z' => FC z z' ∧ IC z' (R_end s a).2)) := by
  refine eg_P.of (by decide) (Nat.le_of_ble_eq_true rfl) ?_
  show eg_E k gX8_end 1 0 0 n (enc k z X) [vR k 0, vI a] [] 0 _
  obtain ⟨hV1, hHi, ⟨hkb, hsh⟩, hT, hTl, hTb⟩ := id hI
  have hb := isB_1
  have hp := hV1.1
  have hv := hV1.2.2.1
  have q := hv.r.2
  obtain ⟨⟨z0, z1, z2, z3⟩, ⟨c1, c3, c5, c7⟩, -⟩ := id hp
  have r_a1 := r_a.1; have r_a2 := r_a.2
  have hT1 := hT.1
  refine eg_iload_n dX8_end_0 rfl ?_
  refine eg_iconst dX8_end_1 ?_
  refine eg_al_n dX8_end_2 rfl rfl ?_
  refine eg_get fl_X8_44 dX8_end_3 (by first | exact er0 | exact ep0 hb | exact ep1 hb | exact ep3 hb | exact ep5 hb | exact ep7 hb | exact er25 | exact er34 | exact er181 | exact er182 | exact er196 | exact er199 | exact er156 | exact ep0 isB_13 | exact ep1 isB_13 | exact ep3 isB_13 | exact ep5 isB_13 | exact ep7 isB_13 | exact er26 | exact er27 | exact er28 | exact ep9 hb | exact ep10 hb) rfl ?_
  refine eg_get fl_X8_62 dX8_end_6 (by first | exact er0 | exact ep0 hb | exact ep1 hb | exact ep3 hb | exact ep5 hb | exact ep7 hb | exact er25 | exact er34 | exact er181 | exact er182 | exact er196 | exact er199 | exact er156 | exact ep0 isB_13 | exact ep1 isB_13 | exact ep3 isB_13 | exact ep5 isB_13 | exact ep7 isB_13 | exact er26 | exact er27 | exact er28 | exact ep9 hb | exact ep10 hb) rfl ?_
  refine eg_get fl_X8_76 dX8_end_9 (by first | exact er0 | exact ep0 hb | exact ep1 hb | exact ep3 hb | exact ep5 hb | exact ep7 hb | exact er25 | exact er34 | exact er181 | exact er182 | exact er196 | exact er199 | exact er156 | exact ep0 isB_13 | exact ep1 isB_13 | exact ep3 isB_13 | exact ep5 isB_13 | exact ep7 isB_13 | exact er26 | exact er27 | exact er28 | exact ep9 hb | exact ep10 hb) rfl ?_
  refine eg_Sf3 cs_X8_79 dX8_end_12 (c_X8_within r_a ⟨by omega, by omega⟩ (by rw [hTl]; exact ⟨by omega, by omega⟩)) (Nat.le_of_ble_eq_true rfl) (by decide) ?_
  refine eg_bi_ne 20 dX8_end_15 rfl (fun h15 => ?_) (fun h15 => ?_)
  · refine eg_al_n dX8_end_20 rfl rfl ?_
    refine eg_get fl_X8_44 dX8_end_21 (by first | exact er0 | exact ep0 hb | exact ep1 hb | exact ep3 hb | exact ep5 hb | exact ep7 hb | exact er25 | exact er34 | exact er181 | exact er182 | exact er196 | exact er199 | exact er156 | exact ep0 isB_13 | exact ep1 isB_13 | exact ep3 isB_13 | exact ep5 isB_13 | exact ep7 isB_13 | exact er26 | exact er27 | exact er28 | exact ep9 hb | exact ep10 hb) rfl ?_
    refine eg_get fl_X8_62 dX8_end_24 (by first | exact er0 | exact ep0 hb | exact ep1 hb | exact ep3 hb | exact ep5 hb | exact ep7 hb | exact er25 | exact er34 | exact er181 | exact er182 | exact er196 | exact er199 | exact er156 | exact ep0 isB_13 | exact ep1 isB_13 | exact ep3 isB_13 | exact ep5 isB_13 | exact ep7 isB_13 | exact er26 | exact er27 | exact er28 | exact ep9 hb | exact ep10 hb) rfl ?_
    refine eg_iload_n dX8_end_27 rfl ?_
    refine eg_put fl_X8_76 dX8_end_28 (by first | exact er0 | exact ep0 hb | exact ep1 hb | exact ep3 hb | exact ep5 hb | exact ep7 hb | exact er25 | exact er34 | exact er181 | exact er182 | exact er196 | exact er199 | exact er156 | exact ep0 isB_13 | exact ep1 isB_13 | exact ep3 isB_13 | exact ep5 isB_13 | exact ep7 isB_13 | exact er26 | exact er27 | exact er28 | exact ep9 hb | exact ep10 hb) rfl rfl rfl rfl ?_
    refine eg_eqM es182_1 ?_
    refine eg_iload_n dX8_end_31 rfl ?_
    refine eg_ireturn dX8_end_32 rfl rfl ?_
    rw [show R_end s a = (a, tpS s a.toNat s.2.2.2.2.2.2) from by unfold R_end; (repeat (first | rw [if_pos (by first | assumption | omega)] | rw [if_neg (by first | assumption | omega)]))]
    refine ⟨rfl, rfl, _, rfl, fun c hc => va_up_n _ _ (by omega), hV_c (fun j hj => va_up_n _ _ (by omega)) hV1, hH_c hHi (fun c _ _ => va_up_n _ _ (by omega)), ⟨hkb, fun j hj hk => hV_c (fun i hi => va_up_n _ _ (by omega)) (hsh j hj hk)⟩, ⟨by show a.toNat ≤ 400; omega, fun i hi => hT.2 i (by have : i < a.toNat := hi; omega)⟩, ?_, fun i hi => ?_⟩
    · rw [va_up_s, va_up_s]; show a = ((a.toNat : Nat) : Int); omega
    · rw [va_up_n _ _ (by decide)]; exact hTb i (by have : i < a.toNat := hi; omega)
  · refine eg_iconst dX8_end_18 ?_
    refine eg_ireturn dX8_end_19 rfl rfl ?_
    rw [show R_end s a = (-1, s) from by unfold R_end; (repeat (first | rw [if_pos (by first | assumption | omega)] | rw [if_neg (by first | assumption | omega)]))]
    exact ⟨rfl, rfl, z, rfl, FC.rf, hI⟩
theorem p_nominate {k : eg_K} {z : eg_Z} {X : eg_M} {n : Nat} {s : eg_S} (hI : IC z s) {a b c d : Int} (r_a : iR a) (r_b : iR b) (r_c : iR c) (r_d : iR d) : eg_P k gX8_nominate 4 0 0 [vR k 0, vI a, vI b, vI c, vI d] n (enc k z X) (eg_p k (some (vI (R_nominate s a b c d).1)) n X (fun z' => FC z z' ∧ IC z' (R_nominate s a b c d).2)) := by
  refine eg_P.of (by decide) (Nat.le_of_ble_eq_true rfl) ?_
  show eg_E k gX8_nominate 4 0 0 n (enc k z X) [vR k 0, vI a, vI b, vI c, vI d] [] 0 _
  obtain ⟨hV1, hHi, ⟨hkb, hsh⟩, hT, hTl, hTb⟩ := id hI
  have hb := isB_1
  have hp := hV1.1
  have hv := hV1.2.2.1
  have q := hv.r.2
  obtain ⟨⟨z0, z1, z2, z3⟩, ⟨c1, c3, c5, c7⟩, -⟩ := id hp
  have r_a1 := r_a.1; have r_a2 := r_a.2
  have r_b1 := r_b.1; have r_b2 := r_b.2
  have r_c1 := r_c.1; have r_c2 := r_c.2
  have r_d1 := r_d.1; have r_d2 := r_d.2
  refine eg_al_n dX8_nominate_0 rfl rfl ?_
  refine eg_get fl_X8_12 dX8_nominate_1 (by first | exact er0 | exact ep0 hb | exact ep1 hb | exact ep3 hb | exact ep5 hb | exact ep7 hb | exact er25 | exact er34 | exact er181 | exact er182 | exact er196 | exact er199 | exact er156 | exact ep0 isB_13 | exact ep1 isB_13 | exact ep3 isB_13 | exact ep5 isB_13 | exact ep7 isB_13 | exact er26 | exact er27 | exact er28 | exact ep9 hb | exact ep10 hb) rfl ?_
  refine eg_iload_n dX8_nominate_4 rfl ?_
  refine eg_iload_n dX8_nominate_5 rfl ?_
  refine eg_iload_n dX8_nominate_6 rfl ?_
  refine eg_iload dX8_nominate_7 rfl ?_
  refine eg_Vf4 cs_X8_104 dX8_nominate_9 (c_allows hb hp hv r_a r_b r_c r_d) (by first | exact er0 | exact ep0 hb | exact ep1 hb | exact ep3 hb | exact ep5 hb | exact ep7 hb | exact er25 | exact er34 | exact er181 | exact er182 | exact er196 | exact er199 | exact er156 | exact ep0 isB_13 | exact ep1 isB_13 | exact ep3 isB_13 | exact ep5 isB_13 | exact ep7 isB_13 | exact er26 | exact er27 | exact er28 | exact ep9 hb | exact ep10 hb) rfl (Nat.le_of_ble_eq_true rfl) (by decide) ?_
  refine eg_bi_ne 17 dX8_nominate_12 rfl (fun h12 => ?_) (fun h12 => ?_)
  · refine eg_al_n dX8_nominate_17 rfl rfl ?_
    refine eg_get fl_X8_12 dX8_nominate_18 (by first | exact er0 | exact ep0 hb | exact ep1 hb | exact ep3 hb | exact ep5 hb | exact ep7 hb | exact er25 | exact er34 | exact er181 | exact er182 | exact er196 | exact er199 | exact er156 | exact ep0 isB_13 | exact ep1 isB_13 | exact ep3 isB_13 | exact ep5 isB_13 | exact ep7 isB_13 | exact er26 | exact er27 | exact er28 | exact ep9 hb | exact ep10 hb) rfl ?_
    refine eg_get fl_X8_108 dX8_nominate_21 (by first | exact er0 | exact ep0 hb | exact ep1 hb | exact ep3 hb | exact ep5 hb | exact ep7 hb | exact er25 | exact er34 | exact er181 | exact er182 | exact er196 | exact er199 | exact er156 | exact ep0 isB_13 | exact ep1 isB_13 | exact ep3 isB_13 | exact ep5 isB_13 | exact ep7 isB_13 | exact er26 | exact er27 | exact er28 | exact ep9 hb | exact ep10 hb) rfl ?_
    refine eg_Vf0 cs_X8_111 dX8_nominate_24 (c_isFull hb hp hv) (by first | exact er0 | exact ep0 hb | exact ep1 hb | exact ep3 hb | exact ep5 hb | exact ep7 hb | exact er25 | exact er34 | exact er181 | exact er182 | exact er196 | exact er199 | exact er156 | exact ep0 isB_13 | exact ep1 isB_13 | exact ep3 isB_13 | exact ep5 isB_13 | exact ep7 isB_13 | exact er26 | exact er27 | exact er28 | exact ep9 hb | exact ep10 hb) rfl (Nat.le_of_ble_eq_true rfl) (by decide) ?_
    refine eg_bi_eq 33 dX8_nominate_27 rfl (fun h27 => ?_) (fun h27 => ?_)
    · refine eg_al_n dX8_nominate_33 rfl rfl ?_
      refine eg_get fl_X8_29 dX8_nominate_34 (by first | exact er0 | exact ep0 hb | exact ep1 hb | exact ep3 hb | exact ep5 hb | exact ep7 hb | exact er25 | exact er34 | exact er181 | exact er182 | exact er196 | exact er199 | exact er156 | exact ep0 isB_13 | exact ep1 isB_13 | exact ep3 isB_13 | exact ep5 isB_13 | exact ep7 isB_13 | exact er26 | exact er27 | exact er28 | exact ep9 hb | exact ep10 hb) rfl ?_
      refine eg_al_n dX8_nominate_37 rfl rfl ?_
      refine eg_get fl_X8_12 dX8_nominate_38 (by first | exact er0 | exact ep0 hb | exact ep1 hb | exact ep3 hb | exact ep5 hb | exact ep7 hb | exact er25 | exact er34 | exact er181 | exact er182 | exact er196 | exact er199 | exact er156 | exact ep0 isB_13 | exact ep1 isB_13 | exact ep3 isB_13 | exact ep5 isB_13 | exact ep7 isB_13 | exact er26 | exact er27 | exact er28 | exact ep9 hb | exact ep10 hb) rfl ?_
      refine eg_Vpv1 cs_X8_114 dX8_nominate_41 (c_X0_remember hV1 hHi) (by first | exact er0 | exact ep0 hb | exact ep1 hb | exact ep3 hb | exact ep5 hb | exact ep7 hb | exact er25 | exact er34 | exact er181 | exact er182 | exact er196 | exact er199 | exact er156 | exact ep0 isB_13 | exact ep1 isB_13 | exact ep3 isB_13 | exact ep5 isB_13 | exact ep7 isB_13 | exact er26 | exact er27 | exact er28 | exact ep9 hb | exact ep10 hb) rfl (Nat.le_of_ble_eq_true rfl) (by decide) ?_
      rintro y1 ⟨m1, g1⟩
      have hp1 : hP y1 1 s.1 := hP_k (fun j hj => m1 _ (by omega)) hp
      have hl1 : hL y1 1 s.1 := hL_k (m1 _ (by omega)) hV1.2.1
      refine eg_al_n dX8_nominate_44 rfl rfl ?_
      refine eg_get fl_X8_12 dX8_nominate_45 (by first | exact er0 | exact ep0 hb | exact ep1 hb | exact ep3 hb | exact ep5 hb | exact ep7 hb | exact er25 | exact er34 | exact er181 | exact er182 | exact er196 | exact er199 | exact er156 | exact ep0 isB_13 | exact ep1 isB_13 | exact ep3 isB_13 | exact ep5 isB_13 | exact ep7 isB_13 | exact er26 | exact er27 | exact er28 | exact ep9 hb | exact ep10 hb) rfl ?_
      refine eg_iload_n dX8_nominate_48 rfl ?_
      refine eg_iload_n dX8_nominate_49 rfl ?_
      refine eg_iload_n dX8_nominate_50 rfl ?_
      refine eg_iload dX8_nominate_51 rfl ?_
      refine eg_Vpf4 cs_X8_117 dX8_nominate_53 (c_X2_addNomination hb hp1 hv (by omega)) (by first | exact er0 | exact ep0 hb | exact ep1 hb | exact ep3 hb | exact ep5 hb | exact ep7 hb | exact er25 | exact er34 | exact er181 | exact er182 | exact er196 | exact er199 | exact er156 | exact ep0 isB_13 | exact ep1 isB_13 | exact ep3 isB_13 | exact ep5 isB_13 | exact ep7 isB_13 | exact er26 | exact er27 | exact er28 | exact ep9 hb | exact ep10 hb) rfl (Nat.le_of_ble_eq_true rfl) (by decide) ?_
      rintro y2 ⟨m2, l2, hp2⟩
      refine eg_ireturn dX8_nominate_56 rfl rfl ?_
      have al := alB_to h12
      rw [show R_nominate s a b c d = (s.1 3, puS s (addV s.1 a b c d)) from by unfold R_nominate; (repeat (first | rw [if_pos (by first | assumption | omega)] | rw [if_neg (by first | assumption | omega)]))]
      exact ⟨rfl, rfl, y2, rfl, hI.push m1 g1 m2 ⟨hp2, hL_e (fun i hi => addV_o (by omega) (by omega) (by omega)) (hL_k l2 hl1), okV_add hV1.2.2 (by omega) al.1 al.2.1 al.2.2.1 al.2.2.2.1 ⟨by omega, by omega⟩⟩⟩
    · refine eg_bipush dX8_nominate_30 (by decide) ?_
      refine eg_ireturn dX8_nominate_32 rfl rfl ?_
      rw [show R_nominate s a b c d = (-2, s) from by unfold R_nominate; (repeat (first | rw [if_pos (by first | assumption | omega)] | rw [if_neg (by first | assumption | omega)]))]
      exact ⟨rfl, rfl, z, rfl, FC.rf, hI⟩
  · refine eg_iconst dX8_nominate_15 ?_
    refine eg_ireturn dX8_nominate_16 rfl rfl ?_
    rw [show R_nominate s a b c d = (-1, s) from by unfold R_nominate; (repeat (first | rw [if_pos (by first | assumption | omega)] | rw [if_neg (by first | assumption | omega)]))]
    exact ⟨rfl, rfl, z, rfl, FC.rf, hI⟩
theorem p_renominate {k : eg_K} {z : eg_Z} {X : eg_M} {n : Nat} {s : eg_S} (hI : IC z s) {a b : Int} (r_a : iR a) (r_b : iR b) : eg_P k gX8_renominate 4 0 0 [vR k 0, vI a, vI b] n (enc k z X) (eg_p k (some (vI (R_renominate s a b).1)) n X (fun z' => FC z z' ∧ IC z' (R_renominate s a b).2)) := by
  refine eg_P.of (by decide) (Nat.le_of_ble_eq_true rfl) ?_
  show eg_E k gX8_renominate 4 0 0 n (enc k z X) [vR k 0, vI a, vI b, vU] [] 0 _
  obtain ⟨hV1, hHi, ⟨hkb, hsh⟩, hT, hTl, hTb⟩ := id hI
  have hb := isB_1
  have hp := hV1.1
  have hv := hV1.2.2.1
  have q := hv.r.2
  obtain ⟨⟨z0, z1, z2, z3⟩, ⟨c1, c3, c5, c7⟩, -⟩ := id hp
  have r_a1 := r_a.1; have r_a2 := r_a.2
  have r_b1 := r_b.1; have r_b2 := r_b.2
  refine eg_al_n dX8_renominate_0 rfl rfl ?_
  refine eg_get fl_X8_12 dX8_renominate_1 (by first | exact er0 | exact ep0 hb | exact ep1 hb | exact ep3 hb | exact ep5 hb | exact ep7 hb | exact er25 | exact er34 | exact er181 | exact er182 | exact er196 | exact er199 | exact er156 | exact ep0 isB_13 | exact ep1 isB_13 | exact ep3 isB_13 | exact ep5 isB_13 | exact ep7 isB_13 | exact er26 | exact er27 | exact er28 | exact ep9 hb | exact ep10 hb) rfl ?_
  refine eg_get fl_X8_108 dX8_renominate_4 (by first | exact er0 | exact ep0 hb | exact ep1 hb | exact ep3 hb | exact ep5 hb | exact ep7 hb | exact er25 | exact er34 | exact er181 | exact er182 | exact er196 | exact er199 | exact er156 | exact ep0 isB_13 | exact ep1 isB_13 | exact ep3 isB_13 | exact ep5 isB_13 | exact ep7 isB_13 | exact er26 | exact er27 | exact er28 | exact ep9 hb | exact ep10 hb) rfl ?_
  refine eg_iload_n dX8_renominate_7 rfl ?_
  refine eg_Vf1 cs_X8_121 dX8_renominate_8 (nm_has hb hp hv r_a) (by first | exact er0 | exact ep0 hb | exact ep1 hb | exact ep3 hb | exact ep5 hb | exact ep7 hb | exact er25 | exact er34 | exact er181 | exact er182 | exact er196 | exact er199 | exact er156 | exact ep0 isB_13 | exact ep1 isB_13 | exact ep3 isB_13 | exact ep5 isB_13 | exact ep7 isB_13 | exact er26 | exact er27 | exact er28 | exact ep9 hb | exact ep10 hb) rfl (Nat.le_of_ble_eq_true rfl) (by decide) ?_
  refine eg_bi_eq 25 dX8_renominate_11 rfl (fun h11 => ?_) (fun h11 => ?_)
  · refine eg_iconst dX8_renominate_25 ?_
    refine eg_ireturn dX8_renominate_26 rfl rfl ?_
    rw [show R_renominate s a b = (-1, s) from by unfold R_renominate; (repeat (first | rw [if_pos (by first | assumption | omega)] | rw [if_neg (by first | assumption | omega)]))]
    exact ⟨rfl, rfl, z, rfl, FC.rf, hI⟩
  · refine eg_iload_n dX8_renominate_14 rfl ?_
    refine eg_iconst dX8_renominate_15 ?_
    refine eg_sipush dX8_renominate_16 (by decide) ?_
    refine eg_Sf3 cs_X8_79 dX8_renominate_19 (c_X8_within ⟨by omega, by omega⟩ ⟨by omega, by omega⟩ ⟨by omega, by omega⟩) (Nat.le_of_ble_eq_true rfl) (by decide) ?_
    refine eg_bi_ne 27 dX8_renominate_22 rfl (fun h22 => ?_) (fun h22 => ?_)
    · refine eg_al_n dX8_renominate_27 rfl rfl ?_
      refine eg_get fl_X8_12 dX8_renominate_28 (by first | exact er0 | exact ep0 hb | exact ep1 hb | exact ep3 hb | exact ep5 hb | exact ep7 hb | exact er25 | exact er34 | exact er181 | exact er182 | exact er196 | exact er199 | exact er156 | exact ep0 isB_13 | exact ep1 isB_13 | exact ep3 isB_13 | exact ep5 isB_13 | exact ep7 isB_13 | exact er26 | exact er27 | exact er28 | exact ep9 hb | exact ep10 hb) rfl ?_
      refine eg_get fl_X8_108 dX8_renominate_31 (by first | exact er0 | exact ep0 hb | exact ep1 hb | exact ep3 hb | exact ep5 hb | exact ep7 hb | exact er25 | exact er34 | exact er181 | exact er182 | exact er196 | exact er199 | exact er156 | exact ep0 isB_13 | exact ep1 isB_13 | exact ep3 isB_13 | exact ep5 isB_13 | exact ep7 isB_13 | exact er26 | exact er27 | exact er28 | exact ep9 hb | exact ep10 hb) rfl ?_
      refine eg_iload_n dX8_renominate_34 rfl ?_
      refine eg_iconst dX8_renominate_35 ?_
      refine eg_Vf2 cs_X8_125 dX8_renominate_36 (nm_at hb hp hv (by omega) (by omega) (by omega) (by omega)) (by first | exact er0 | exact ep0 hb | exact ep1 hb | exact ep3 hb | exact ep5 hb | exact ep7 hb | exact er25 | exact er34 | exact er181 | exact er182 | exact er196 | exact er199 | exact er156 | exact ep0 isB_13 | exact ep1 isB_13 | exact ep3 isB_13 | exact ep5 isB_13 | exact ep7 isB_13 | exact er26 | exact er27 | exact er28 | exact ep9 hb | exact ep10 hb) rfl (Nat.le_of_ble_eq_true rfl) (by decide) ?_
      refine eg_istore_n dX8_renominate_39 rfl rfl rfl ?_
      have o1 := hv.N (q := a) (by omega) (by omega); simp only [okN, isIn, isOut] at o1; have o2 := o1.2.2.2.2
      refine eg_iload_n dX8_renominate_40 rfl ?_
      refine eg_iload_n dX8_renominate_41 rfl ?_
      refine eg_icmp_ne 48 dX8_renominate_42 ⟨by omega, by omega⟩ ⟨by omega, by omega⟩ rfl (fun h42 => ?_) (fun h42 => ?_)
      · refine eg_al_n dX8_renominate_48 rfl rfl ?_
        refine eg_get fl_X8_29 dX8_renominate_49 (by first | exact er0 | exact ep0 hb | exact ep1 hb | exact ep3 hb | exact ep5 hb | exact ep7 hb | exact er25 | exact er34 | exact er181 | exact er182 | exact er196 | exact er199 | exact er156 | exact ep0 isB_13 | exact ep1 isB_13 | exact ep3 isB_13 | exact ep5 isB_13 | exact ep7 isB_13 | exact er26 | exact er27 | exact er28 | exact ep9 hb | exact ep10 hb) rfl ?_
        refine eg_al_n dX8_renominate_52 rfl rfl ?_
        refine eg_get fl_X8_12 dX8_renominate_53 (by first | exact er0 | exact ep0 hb | exact ep1 hb | exact ep3 hb | exact ep5 hb | exact ep7 hb | exact er25 | exact er34 | exact er181 | exact er182 | exact er196 | exact er199 | exact er156 | exact ep0 isB_13 | exact ep1 isB_13 | exact ep3 isB_13 | exact ep5 isB_13 | exact ep7 isB_13 | exact er26 | exact er27 | exact er28 | exact ep9 hb | exact ep10 hb) rfl ?_
        refine eg_Vpv1 cs_X8_114 dX8_renominate_56 (c_X0_remember hV1 hHi) (by first | exact er0 | exact ep0 hb | exact ep1 hb | exact ep3 hb | exact ep5 hb | exact ep7 hb | exact er25 | exact er34 | exact er181 | exact er182 | exact er196 | exact er199 | exact er156 | exact ep0 isB_13 | exact ep1 isB_13 | exact ep3 isB_13 | exact ep5 isB_13 | exact ep7 isB_13 | exact er26 | exact er27 | exact er28 | exact ep9 hb | exact ep10 hb) rfl (Nat.le_of_ble_eq_true rfl) (by decide) ?_
        rintro y1 ⟨m1, g1⟩
        have hp1 : hP y1 1 s.1 := hP_k (fun j hj => m1 _ (by omega)) hp
        have hl1 : hL y1 1 s.1 := hL_k (m1 _ (by omega)) hV1.2.1
        refine eg_al_n dX8_renominate_59 rfl rfl ?_
        refine eg_get fl_X8_12 dX8_renominate_60 (by first | exact er0 | exact ep0 hb | exact ep1 hb | exact ep3 hb | exact ep5 hb | exact ep7 hb | exact er25 | exact er34 | exact er181 | exact er182 | exact er196 | exact er199 | exact er156 | exact ep0 isB_13 | exact ep1 isB_13 | exact ep3 isB_13 | exact ep5 isB_13 | exact ep7 isB_13 | exact er26 | exact er27 | exact er28 | exact ep9 hb | exact ep10 hb) rfl ?_
        refine eg_get fl_X8_108 dX8_renominate_63 (by first | exact er0 | exact ep0 hb | exact ep1 hb | exact ep3 hb | exact ep5 hb | exact ep7 hb | exact er25 | exact er34 | exact er181 | exact er182 | exact er196 | exact er199 | exact er156 | exact ep0 isB_13 | exact ep1 isB_13 | exact ep3 isB_13 | exact ep5 isB_13 | exact ep7 isB_13 | exact er26 | exact er27 | exact er28 | exact ep9 hb | exact ep10 hb) rfl ?_
        refine eg_iload_n dX8_renominate_66 rfl ?_
        refine eg_iconst dX8_renominate_67 ?_
        refine eg_iload_n dX8_renominate_68 rfl ?_
        refine eg_Vpv3 cs_X8_129 dX8_renominate_69 (nm_putQ hb hp1 hv (by omega) (by omega) (by omega) (by omega)) (by first | exact er0 | exact ep0 hb | exact ep1 hb | exact ep3 hb | exact ep5 hb | exact ep7 hb | exact er25 | exact er34 | exact er181 | exact er182 | exact er196 | exact er199 | exact er156 | exact ep0 isB_13 | exact ep1 isB_13 | exact ep3 isB_13 | exact ep5 isB_13 | exact ep7 isB_13 | exact er26 | exact er27 | exact er28 | exact ep9 hb | exact ep10 hb) rfl (Nat.le_of_ble_eq_true rfl) (by decide) ?_
        rintro y2 ⟨m2, l2, hp2⟩
        refine eg_iload_n dX8_renominate_72 rfl ?_
        refine eg_ireturn dX8_renominate_73 rfl rfl ?_
        rw [show R_renominate s a b = (gN s.1 a 3, puS s (va_up s.1 (108 + 4 * a + 3).toNat b)) from by unfold R_renominate bcR; rw [if_pos (by omega), if_neg (show ¬ s.1 (108 + 4 * a + 3).toNat = b from h42)]; rfl]
        exact ⟨rfl, rfl, y2, rfl, hI.push m1 g1 m2 ⟨hp2, hL_u (by omega) (by omega) (by omega) (by omega) (hL_k l2 hl1), okV_n hV1.2.2 (by omega) (by omega) (by omega)⟩⟩
      · refine eg_bipush dX8_renominate_45 (by decide) ?_
        refine eg_ireturn dX8_renominate_47 rfl rfl ?_
        rw [show R_renominate s a b = (-2, s) from by unfold R_renominate bcR; (repeat (first | rw [if_pos (by first | assumption | omega)] | rw [if_neg (by first | assumption | omega)]))]
        exact ⟨rfl, rfl, z, rfl, FC.rf, hI⟩
    · refine eg_iconst dX8_renominate_25 ?_
      refine eg_ireturn dX8_renominate_26 rfl rfl ?_
      rw [show R_renominate s a b = (-1, s) from by unfold R_renominate; (repeat (first | rw [if_pos (by first | assumption | omega)] | rw [if_neg (by first | assumption | omega)]))]
      exact ⟨rfl, rfl, z, rfl, FC.rf, hI⟩
theorem p_withdraw {k : eg_K} {z : eg_Z} {X : eg_M} {n : Nat} {s : eg_S} (hI : IC z s) {a : Int} (r_a : iR a) : eg_P k gX8_withdraw 4 0 0 [vR k 0, vI a] n (enc k z X) (eg_p k (some (vI (R_withdraw s a).1)) n X (fun z' => FC z z' ∧ IC z' (R_withdraw s a).2)) := by
  refine eg_P.of (by decide) (Nat.le_of_ble_eq_true rfl) ?_
  show eg_E k gX8_withdraw 4 0 0 n (enc k z X) [vR k 0, vI a] [] 0 _
  obtain ⟨hV1, hHi, ⟨hkb, hsh⟩, hT, hTl, hTb⟩ := id hI
  have hb := isB_1
  have hp := hV1.1
  have hv := hV1.2.2.1
  have q := hv.r.2
  obtain ⟨⟨z0, z1, z2, z3⟩, ⟨c1, c3, c5, c7⟩, -⟩ := id hp
  have r_a1 := r_a.1; have r_a2 := r_a.2
  refine eg_al_n dX8_withdraw_0 rfl rfl ?_
  refine eg_get fl_X8_12 dX8_withdraw_1 (by first | exact er0 | exact ep0 hb | exact ep1 hb | exact ep3 hb | exact ep5 hb | exact ep7 hb | exact er25 | exact er34 | exact er181 | exact er182 | exact er196 | exact er199 | exact er156 | exact ep0 isB_13 | exact ep1 isB_13 | exact ep3 isB_13 | exact ep5 isB_13 | exact ep7 isB_13 | exact er26 | exact er27 | exact er28 | exact ep9 hb | exact ep10 hb) rfl ?_
  refine eg_get fl_X8_108 dX8_withdraw_4 (by first | exact er0 | exact ep0 hb | exact ep1 hb | exact ep3 hb | exact ep5 hb | exact ep7 hb | exact er25 | exact er34 | exact er181 | exact er182 | exact er196 | exact er199 | exact er156 | exact ep0 isB_13 | exact ep1 isB_13 | exact ep3 isB_13 | exact ep5 isB_13 | exact ep7 isB_13 | exact er26 | exact er27 | exact er28 | exact ep9 hb | exact ep10 hb) rfl ?_
  refine eg_iload_n dX8_withdraw_7 rfl ?_
  refine eg_Vf1 cs_X8_121 dX8_withdraw_8 (nm_has hb hp hv r_a) (by first | exact er0 | exact ep0 hb | exact ep1 hb | exact ep3 hb | exact ep5 hb | exact ep7 hb | exact er25 | exact er34 | exact er181 | exact er182 | exact er196 | exact er199 | exact er156 | exact ep0 isB_13 | exact ep1 isB_13 | exact ep3 isB_13 | exact ep5 isB_13 | exact ep7 isB_13 | exact er26 | exact er27 | exact er28 | exact ep9 hb | exact ep10 hb) rfl (Nat.le_of_ble_eq_true rfl) (by decide) ?_
  refine eg_bi_ne 16 dX8_withdraw_11 rfl (fun h11 => ?_) (fun h11 => ?_)
  · refine eg_al_n dX8_withdraw_16 rfl rfl ?_
    refine eg_get fl_X8_29 dX8_withdraw_17 (by first | exact er0 | exact ep0 hb | exact ep1 hb | exact ep3 hb | exact ep5 hb | exact ep7 hb | exact er25 | exact er34 | exact er181 | exact er182 | exact er196 | exact er199 | exact er156 | exact ep0 isB_13 | exact ep1 isB_13 | exact ep3 isB_13 | exact ep5 isB_13 | exact ep7 isB_13 | exact er26 | exact er27 | exact er28 | exact ep9 hb | exact ep10 hb) rfl ?_
    refine eg_al_n dX8_withdraw_20 rfl rfl ?_
    refine eg_get fl_X8_12 dX8_withdraw_21 (by first | exact er0 | exact ep0 hb | exact ep1 hb | exact ep3 hb | exact ep5 hb | exact ep7 hb | exact er25 | exact er34 | exact er181 | exact er182 | exact er196 | exact er199 | exact er156 | exact ep0 isB_13 | exact ep1 isB_13 | exact ep3 isB_13 | exact ep5 isB_13 | exact ep7 isB_13 | exact er26 | exact er27 | exact er28 | exact ep9 hb | exact ep10 hb) rfl ?_
    refine eg_Vpv1 cs_X8_114 dX8_withdraw_24 (c_X0_remember hV1 hHi) (by first | exact er0 | exact ep0 hb | exact ep1 hb | exact ep3 hb | exact ep5 hb | exact ep7 hb | exact er25 | exact er34 | exact er181 | exact er182 | exact er196 | exact er199 | exact er156 | exact ep0 isB_13 | exact ep1 isB_13 | exact ep3 isB_13 | exact ep5 isB_13 | exact ep7 isB_13 | exact er26 | exact er27 | exact er28 | exact ep9 hb | exact ep10 hb) rfl (Nat.le_of_ble_eq_true rfl) (by decide) ?_
    rintro y1 ⟨m1, g1⟩
    have hp1 : hP y1 1 s.1 := hP_k (fun j hj => m1 _ (by omega)) hp
    have hl1 : hL y1 1 s.1 := hL_k (m1 _ (by omega)) hV1.2.1
    refine eg_al_n dX8_withdraw_27 rfl rfl ?_
    refine eg_get fl_X8_12 dX8_withdraw_28 (by first | exact er0 | exact ep0 hb | exact ep1 hb | exact ep3 hb | exact ep5 hb | exact ep7 hb | exact er25 | exact er34 | exact er181 | exact er182 | exact er196 | exact er199 | exact er156 | exact ep0 isB_13 | exact ep1 isB_13 | exact ep3 isB_13 | exact ep5 isB_13 | exact ep7 isB_13 | exact er26 | exact er27 | exact er28 | exact ep9 hb | exact ep10 hb) rfl ?_
    refine eg_get fl_X8_108 dX8_withdraw_31 (by first | exact er0 | exact ep0 hb | exact ep1 hb | exact ep3 hb | exact ep5 hb | exact ep7 hb | exact er25 | exact er34 | exact er181 | exact er182 | exact er196 | exact er199 | exact er156 | exact ep0 isB_13 | exact ep1 isB_13 | exact ep3 isB_13 | exact ep5 isB_13 | exact ep7 isB_13 | exact er26 | exact er27 | exact er28 | exact ep9 hb | exact ep10 hb) rfl ?_
    refine eg_iload_n dX8_withdraw_34 rfl ?_
    refine eg_Vpv1 cs_X8_133 dX8_withdraw_35 (nm_drop hb hp1 hv (by omega) (by omega)) (by first | exact er0 | exact ep0 hb | exact ep1 hb | exact ep3 hb | exact ep5 hb | exact ep7 hb | exact er25 | exact er34 | exact er181 | exact er182 | exact er196 | exact er199 | exact er156 | exact ep0 isB_13 | exact ep1 isB_13 | exact ep3 isB_13 | exact ep5 isB_13 | exact ep7 isB_13 | exact er26 | exact er27 | exact er28 | exact ep9 hb | exact ep10 hb) rfl (Nat.le_of_ble_eq_true rfl) (by decide) ?_
    rintro y2 ⟨m2, l2, hp2⟩
    have c7b := hp2.2.1.2.2.2
    refine eg_al_n dX8_withdraw_38 rfl rfl ?_
    refine eg_get fl_X8_12 dX8_withdraw_39 (by first | exact er0 | exact ep0 hb | exact ep1 hb | exact ep3 hb | exact ep5 hb | exact ep7 hb | exact er25 | exact er34 | exact er181 | exact er182 | exact er196 | exact er199 | exact er156 | exact ep0 isB_13 | exact ep1 isB_13 | exact ep3 isB_13 | exact ep5 isB_13 | exact ep7 isB_13 | exact er26 | exact er27 | exact er28 | exact ep9 hb | exact ep10 hb) rfl ?_
    refine eg_get fl_X8_108 dX8_withdraw_42 (by first | exact er0 | exact ep0 hb | exact ep1 hb | exact ep3 hb | exact ep5 hb | exact ep7 hb | exact er25 | exact er34 | exact er181 | exact er182 | exact er196 | exact er199 | exact er156 | exact ep0 isB_13 | exact ep1 isB_13 | exact ep3 isB_13 | exact ep5 isB_13 | exact ep7 isB_13 | exact er26 | exact er27 | exact er28 | exact ep9 hb | exact ep10 hb) rfl ?_
    refine eg_get fl_X8_99 dX8_withdraw_45 (by first | exact er0 | exact ep0 hb | exact ep1 hb | exact ep3 hb | exact ep5 hb | exact ep7 hb | exact er25 | exact er34 | exact er181 | exact er182 | exact er196 | exact er199 | exact er156 | exact ep0 isB_13 | exact ep1 isB_13 | exact ep3 isB_13 | exact ep5 isB_13 | exact ep7 isB_13 | exact er26 | exact er27 | exact er28 | exact ep9 hb | exact ep10 hb) rfl ?_
    refine eg_ireturn dX8_withdraw_48 rfl rfl ?_
    rw [c7b, remV_3]
    rw [show R_withdraw s a = (s.1 3 - 1, puS s (remV s.1 a)) from by unfold R_withdraw; (repeat (first | rw [if_pos (by first | assumption | omega)] | rw [if_neg (by first | assumption | omega)]))]
    exact ⟨rfl, rfl, y2, rfl, hI.push m1 g1 m2 ⟨hp2, hL_e (fun i hi => remV_o (by omega) (by omega)) (hL_k l2 hl1), okV_rem hV1.2.2 (by omega) (by omega)⟩⟩
  · refine eg_iconst dX8_withdraw_14 ?_
    refine eg_ireturn dX8_withdraw_15 rfl rfl ?_
    rw [show R_withdraw s a = (-1, s) from by unfold R_withdraw; (repeat (first | rw [if_pos (by first | assumption | omega)] | rw [if_neg (by first | assumption | omega)]))]
    exact ⟨rfl, rfl, z, rfl, FC.rf, hI⟩
theorem p_limit {k : eg_K} {z : eg_Z} {X : eg_M} {n : Nat} {s : eg_S} (hI : IC z s) {a b c : Int} (r_a : iR a) (r_b : iR b) (r_c : iR c) : eg_P k gX8_limit 4 0 0 [vR k 0, vI a, vI b, vI c] n (enc k z X) (eg_p k (some (vI (R_limit s a b c).1)) n X (fun z' => FC z z' ∧ IC z' (R_limit s a b c).2)) := by
  refine eg_P.of (by decide) (Nat.le_of_ble_eq_true rfl) ?_
  show eg_E k gX8_limit 4 0 0 n (enc k z X) [vR k 0, vI a, vI b, vI c, vU] [] 0 _
  obtain ⟨hV1, hHi, ⟨hkb, hsh⟩, hT, hTl, hTb⟩ := id hI
  have hb := isB_1
  have hp := hV1.1
  have hv := hV1.2.2.1
  have q := hv.r.2
  obtain ⟨⟨z0, z1, z2, z3⟩, ⟨c1, c3, c5, c7⟩, -⟩ := id hp
  have r_a1 := r_a.1; have r_a2 := r_a.2
  have r_b1 := r_b.1; have r_b2 := r_b.2
  have r_c1 := r_c.1; have r_c2 := r_c.2
  refine eg_al_n dX8_limit_0 rfl rfl ?_
  refine eg_get fl_X8_12 dX8_limit_1 (by first | exact er0 | exact ep0 hb | exact ep1 hb | exact ep3 hb | exact ep5 hb | exact ep7 hb | exact er25 | exact er34 | exact er181 | exact er182 | exact er196 | exact er199 | exact er156 | exact ep0 isB_13 | exact ep1 isB_13 | exact ep3 isB_13 | exact ep5 isB_13 | exact ep7 isB_13 | exact er26 | exact er27 | exact er28 | exact ep9 hb | exact ep10 hb) rfl ?_
  refine eg_iload_n dX8_limit_4 rfl ?_
  refine eg_iload_n dX8_limit_5 rfl ?_
  refine eg_Vf2 cs_X8_136 dX8_limit_6 (c_X2_hasCap hb hp hv r_a r_b) (by first | exact er0 | exact ep0 hb | exact ep1 hb | exact ep3 hb | exact ep5 hb | exact ep7 hb | exact er25 | exact er34 | exact er181 | exact er182 | exact er196 | exact er199 | exact er156 | exact ep0 isB_13 | exact ep1 isB_13 | exact ep3 isB_13 | exact ep5 isB_13 | exact ep7 isB_13 | exact er26 | exact er27 | exact er28 | exact ep9 hb | exact ep10 hb) rfl (Nat.le_of_ble_eq_true rfl) (by decide) ?_
  refine eg_bi_eq 23 dX8_limit_9 rfl (fun h9 => ?_) (fun h9 => ?_)
  · refine eg_iconst dX8_limit_23 ?_
    refine eg_ireturn dX8_limit_24 rfl rfl ?_
    rw [show R_limit s a b c = (-1, s) from by unfold R_limit; rw [if_neg]; omega]
    exact ⟨rfl, rfl, z, rfl, FC.rf, hI⟩
  · refine eg_iload_n dX8_limit_12 rfl ?_
    refine eg_iconst dX8_limit_13 ?_
    refine eg_sipush dX8_limit_14 (by decide) ?_
    refine eg_Sf3 cs_X8_79 dX8_limit_17 (c_X8_within ⟨by omega, by omega⟩ ⟨by omega, by omega⟩ ⟨by omega, by omega⟩) (Nat.le_of_ble_eq_true rfl) (by decide) ?_
    refine eg_bi_ne 25 dX8_limit_20 rfl (fun h20 => ?_) (fun h20 => ?_)
    · refine eg_al_n dX8_limit_25 rfl rfl ?_
      refine eg_get fl_X8_12 dX8_limit_26 (by first | exact er0 | exact ep0 hb | exact ep1 hb | exact ep3 hb | exact ep5 hb | exact ep7 hb | exact er25 | exact er34 | exact er181 | exact er182 | exact er196 | exact er199 | exact er156 | exact ep0 isB_13 | exact ep1 isB_13 | exact ep3 isB_13 | exact ep5 isB_13 | exact ep7 isB_13 | exact er26 | exact er27 | exact er28 | exact ep9 hb | exact ep10 hb) rfl ?_
      refine eg_iload_n dX8_limit_29 rfl ?_
      refine eg_iload_n dX8_limit_30 rfl ?_
      refine eg_Vf2 cs_X8_140 dX8_limit_31 (c_X2_capOf hb hp hv h9) (by first | exact er0 | exact ep0 hb | exact ep1 hb | exact ep3 hb | exact ep5 hb | exact ep7 hb | exact er25 | exact er34 | exact er181 | exact er182 | exact er196 | exact er199 | exact er156 | exact ep0 isB_13 | exact ep1 isB_13 | exact ep3 isB_13 | exact ep5 isB_13 | exact ep7 isB_13 | exact er26 | exact er27 | exact er28 | exact ep9 hb | exact ep10 hb) rfl (Nat.le_of_ble_eq_true rfl) (by decide) ?_
      refine eg_istore dX8_limit_34 rfl rfl rfl ?_
      have ec : (if a = 0 then gP s.1 b 2 else gS s.1 b 0) = s.1 (if a = 0 then 26 + 4 * b + 2 else 12 + 2 * b + 0).toNat := by split <;> rfl
      have cb : -2147483648 ≤ (if a = 0 then gP s.1 b 2 else gS s.1 b 0) ∧ (if a = 0 then gP s.1 b 2 else gS s.1 b 0) ≤ 2147483647 := by
        rcases h9 with ⟨e, h⟩ | ⟨e, h⟩
        · rw [if_pos e]; have := (hv.P h.1 h.2).2.2.1; omega
        · rw [if_neg (by omega)]; have := (hv.S h.1 (show b < 7 by omega)).1; omega
      refine eg_iload dX8_limit_36 rfl ?_
      refine eg_iload_n dX8_limit_38 rfl ?_
      refine eg_icmp_ne 45 dX8_limit_39 ⟨by omega, by omega⟩ ⟨by omega, by omega⟩ rfl (fun h39 => ?_) (fun h39 => ?_)
      · refine eg_al_n dX8_limit_45 rfl rfl ?_
        refine eg_get fl_X8_29 dX8_limit_46 (by first | exact er0 | exact ep0 hb | exact ep1 hb | exact ep3 hb | exact ep5 hb | exact ep7 hb | exact er25 | exact er34 | exact er181 | exact er182 | exact er196 | exact er199 | exact er156 | exact ep0 isB_13 | exact ep1 isB_13 | exact ep3 isB_13 | exact ep5 isB_13 | exact ep7 isB_13 | exact er26 | exact er27 | exact er28 | exact ep9 hb | exact ep10 hb) rfl ?_
        refine eg_al_n dX8_limit_49 rfl rfl ?_
        refine eg_get fl_X8_12 dX8_limit_50 (by first | exact er0 | exact ep0 hb | exact ep1 hb | exact ep3 hb | exact ep5 hb | exact ep7 hb | exact er25 | exact er34 | exact er181 | exact er182 | exact er196 | exact er199 | exact er156 | exact ep0 isB_13 | exact ep1 isB_13 | exact ep3 isB_13 | exact ep5 isB_13 | exact ep7 isB_13 | exact er26 | exact er27 | exact er28 | exact ep9 hb | exact ep10 hb) rfl ?_
        refine eg_Vpv1 cs_X8_114 dX8_limit_53 (c_X0_remember hV1 hHi) (by first | exact er0 | exact ep0 hb | exact ep1 hb | exact ep3 hb | exact ep5 hb | exact ep7 hb | exact er25 | exact er34 | exact er181 | exact er182 | exact er196 | exact er199 | exact er156 | exact ep0 isB_13 | exact ep1 isB_13 | exact ep3 isB_13 | exact ep5 isB_13 | exact ep7 isB_13 | exact er26 | exact er27 | exact er28 | exact ep9 hb | exact ep10 hb) rfl (Nat.le_of_ble_eq_true rfl) (by decide) ?_
        rintro y1 ⟨m1, g1⟩
        have hp1 : hP y1 1 s.1 := hP_k (fun j hj => m1 _ (by omega)) hp
        have hl1 : hL y1 1 s.1 := hL_k (m1 _ (by omega)) hV1.2.1
        refine eg_al_n dX8_limit_56 rfl rfl ?_
        refine eg_get fl_X8_12 dX8_limit_57 (by first | exact er0 | exact ep0 hb | exact ep1 hb | exact ep3 hb | exact ep5 hb | exact ep7 hb | exact er25 | exact er34 | exact er181 | exact er182 | exact er196 | exact er199 | exact er156 | exact ep0 isB_13 | exact ep1 isB_13 | exact ep3 isB_13 | exact ep5 isB_13 | exact ep7 isB_13 | exact er26 | exact er27 | exact er28 | exact ep9 hb | exact ep10 hb) rfl ?_
        refine eg_iload_n dX8_limit_60 rfl ?_
        refine eg_iload_n dX8_limit_61 rfl ?_
        refine eg_iload_n dX8_limit_62 rfl ?_
        refine eg_Vpv3 cs_X8_143 dX8_limit_63 (c_X2_putCap hb hp1 hv h9) (by first | exact er0 | exact ep0 hb | exact ep1 hb | exact ep3 hb | exact ep5 hb | exact ep7 hb | exact er25 | exact er34 | exact er181 | exact er182 | exact er196 | exact er199 | exact er156 | exact ep0 isB_13 | exact ep1 isB_13 | exact ep3 isB_13 | exact ep5 isB_13 | exact ep7 isB_13 | exact er26 | exact er27 | exact er28 | exact ep9 hb | exact ep10 hb) rfl (Nat.le_of_ble_eq_true rfl) (by decide) ?_
        rintro y2 ⟨m2, l2, hp2⟩
        refine eg_iload dX8_limit_66 rfl ?_
        refine eg_ireturn dX8_limit_68 rfl rfl ?_
        rw [show R_limit s a b c = ((if a = 0 then gP s.1 b 2 else gS s.1 b 0), puS s (va_up s.1 (if a = 0 then 26 + 4 * b + 2 else 12 + 2 * b + 0).toNat c)) from by unfold R_limit bcR; rw [if_pos ⟨h9, by omega⟩, if_neg (by rw [← ec]; exact h39), ← ec]]
        refine ⟨rfl, rfl, y2, rfl, hI.push m1 g1 m2 ⟨hp2, hL_u (by split <;> omega) (by split <;> omega) (by split <;> omega) (by split <;> omega) (hL_k l2 hl1), ?_⟩⟩
        rcases h9 with ⟨e, h⟩ | ⟨e, h⟩
        · rw [if_pos e]; exact okV_p hV1.2.2 h.1 h.2 (by omega)
        · rw [if_neg (by omega)]; exact okV_s hV1.2.2 h.1 (by omega) (by omega)
      · refine eg_bipush dX8_limit_42 (by decide) ?_
        refine eg_ireturn dX8_limit_44 rfl rfl ?_
        rw [show R_limit s a b c = (-2, s) from by unfold R_limit bcR; rw [if_pos ⟨h9, by omega⟩, if_pos (by rw [← ec]; exact h39)]]
        exact ⟨rfl, rfl, z, rfl, FC.rf, hI⟩
    · refine eg_iconst dX8_limit_23 ?_
      refine eg_ireturn dX8_limit_24 rfl rfl ?_
      rw [show R_limit s a b c = (-1, s) from by unfold R_limit; rw [if_neg]; omega]
      exact ⟨rfl, rfl, z, rfl, FC.rf, hI⟩
theorem p_swing {k : eg_K} {z : eg_Z} {X : eg_M} {n : Nat} {s : eg_S} (hI : IC z s) {a b : Int} (r_a : iR a) (r_b : iR b) : eg_P k gX8_swing 4 0 0 [vR k 0, vI a, vI b] n (enc k z X) (eg_p k (some (vI (R_swing s a b).1)) n X (fun z' => FC z z' ∧ IC z' (R_swing s a b).2)) := by
  refine eg_P.of (by decide) (Nat.le_of_ble_eq_true rfl) ?_
  show eg_E k gX8_swing 4 0 0 n (enc k z X) [vR k 0, vI a, vI b, vU] [] 0 _
  obtain ⟨hV1, hHi, ⟨hkb, hsh⟩, hT, hTl, hTb⟩ := id hI
  have hb := isB_1
  have hp := hV1.1
  have hv := hV1.2.2.1
  have q := hv.r.2
  obtain ⟨⟨z0, z1, z2, z3⟩, ⟨c1, c3, c5, c7⟩, -⟩ := id hp
  have r_a1 := r_a.1; have r_a2 := r_a.2
  have r_b1 := r_b.1; have r_b2 := r_b.2
  refine eg_al_n dX8_swing_0 rfl rfl ?_
  refine eg_get fl_X8_12 dX8_swing_1 (by first | exact er0 | exact ep0 hb | exact ep1 hb | exact ep3 hb | exact ep5 hb | exact ep7 hb | exact er25 | exact er34 | exact er181 | exact er182 | exact er196 | exact er199 | exact er156 | exact ep0 isB_13 | exact ep1 isB_13 | exact ep3 isB_13 | exact ep5 isB_13 | exact ep7 isB_13 | exact er26 | exact er27 | exact er28 | exact ep9 hb | exact ep10 hb) rfl ?_
  refine eg_get fl_X8_95 dX8_swing_4 (by first | exact er0 | exact ep0 hb | exact ep1 hb | exact ep3 hb | exact ep5 hb | exact ep7 hb | exact er25 | exact er34 | exact er181 | exact er182 | exact er196 | exact er199 | exact er156 | exact ep0 isB_13 | exact ep1 isB_13 | exact ep3 isB_13 | exact ep5 isB_13 | exact ep7 isB_13 | exact er26 | exact er27 | exact er28 | exact ep9 hb | exact ep10 hb) rfl ?_
  refine eg_iload_n dX8_swing_7 rfl ?_
  refine eg_Vf1 cs_X8_121 dX8_swing_8 (pt_has hb hp hv r_a) (by first | exact er0 | exact ep0 hb | exact ep1 hb | exact ep3 hb | exact ep5 hb | exact ep7 hb | exact er25 | exact er34 | exact er181 | exact er182 | exact er196 | exact er199 | exact er156 | exact ep0 isB_13 | exact ep1 isB_13 | exact ep3 isB_13 | exact ep5 isB_13 | exact ep7 isB_13 | exact er26 | exact er27 | exact er28 | exact ep9 hb | exact ep10 hb) rfl (Nat.le_of_ble_eq_true rfl) (by decide) ?_
  refine eg_bi_eq 25 dX8_swing_11 rfl (fun h11 => ?_) (fun h11 => ?_)
  · refine eg_bipush dX8_swing_25 (by decide) ?_
    refine eg_ireturn dX8_swing_27 rfl rfl ?_
    rw [show R_swing s a b = (-100, s) from by unfold R_swing; (repeat (first | rw [if_pos (by first | assumption | omega)] | rw [if_neg (by first | assumption | omega)]))]
    exact ⟨rfl, rfl, z, rfl, FC.rf, hI⟩
  · refine eg_iload_n dX8_swing_14 rfl ?_
    refine eg_bipush dX8_swing_15 (by decide) ?_
    refine eg_bipush dX8_swing_17 (by decide) ?_
    refine eg_Sf3 cs_X8_79 dX8_swing_19 (c_X8_within ⟨by omega, by omega⟩ ⟨by omega, by omega⟩ ⟨by omega, by omega⟩) (Nat.le_of_ble_eq_true rfl) (by decide) ?_
    refine eg_bi_ne 28 dX8_swing_22 rfl (fun h22 => ?_) (fun h22 => ?_)
    · refine eg_al_n dX8_swing_28 rfl rfl ?_
      refine eg_get fl_X8_12 dX8_swing_29 (by first | exact er0 | exact ep0 hb | exact ep1 hb | exact ep3 hb | exact ep5 hb | exact ep7 hb | exact er25 | exact er34 | exact er181 | exact er182 | exact er196 | exact er199 | exact er156 | exact ep0 isB_13 | exact ep1 isB_13 | exact ep3 isB_13 | exact ep5 isB_13 | exact ep7 isB_13 | exact er26 | exact er27 | exact er28 | exact ep9 hb | exact ep10 hb) rfl ?_
      refine eg_get fl_X8_95 dX8_swing_32 (by first | exact er0 | exact ep0 hb | exact ep1 hb | exact ep3 hb | exact ep5 hb | exact ep7 hb | exact er25 | exact er34 | exact er181 | exact er182 | exact er196 | exact er199 | exact er156 | exact ep0 isB_13 | exact ep1 isB_13 | exact ep3 isB_13 | exact ep5 isB_13 | exact ep7 isB_13 | exact er26 | exact er27 | exact er28 | exact ep9 hb | exact ep10 hb) rfl ?_
      refine eg_iload_n dX8_swing_35 rfl ?_
      refine eg_iconst dX8_swing_36 ?_
      refine eg_Vf2 cs_X8_125 dX8_swing_37 (pt_at hb hp hv (by omega) (by omega) (by omega) (by omega)) (by first | exact er0 | exact ep0 hb | exact ep1 hb | exact ep3 hb | exact ep5 hb | exact ep7 hb | exact er25 | exact er34 | exact er181 | exact er182 | exact er196 | exact er199 | exact er156 | exact ep0 isB_13 | exact ep1 isB_13 | exact ep3 isB_13 | exact ep5 isB_13 | exact ep7 isB_13 | exact er26 | exact er27 | exact er28 | exact ep9 hb | exact ep10 hb) rfl (Nat.le_of_ble_eq_true rfl) (by decide) ?_
      refine eg_istore_n dX8_swing_40 rfl rfl rfl ?_
      have o1 := hv.P (p := a) (by omega) (by omega); unfold okP at o1
      refine eg_iload_n dX8_swing_41 rfl ?_
      refine eg_iload_n dX8_swing_42 rfl ?_
      refine eg_icmp_ne 49 dX8_swing_43 ⟨by omega, by omega⟩ ⟨by omega, by omega⟩ rfl (fun h43 => ?_) (fun h43 => ?_)
      · refine eg_al_n dX8_swing_49 rfl rfl ?_
        refine eg_get fl_X8_29 dX8_swing_50 (by first | exact er0 | exact ep0 hb | exact ep1 hb | exact ep3 hb | exact ep5 hb | exact ep7 hb | exact er25 | exact er34 | exact er181 | exact er182 | exact er196 | exact er199 | exact er156 | exact ep0 isB_13 | exact ep1 isB_13 | exact ep3 isB_13 | exact ep5 isB_13 | exact ep7 isB_13 | exact er26 | exact er27 | exact er28 | exact ep9 hb | exact ep10 hb) rfl ?_
        refine eg_al_n dX8_swing_53 rfl rfl ?_
        refine eg_get fl_X8_12 dX8_swing_54 (by first | exact er0 | exact ep0 hb | exact ep1 hb | exact ep3 hb | exact ep5 hb | exact ep7 hb | exact er25 | exact er34 | exact er181 | exact er182 | exact er196 | exact er199 | exact er156 | exact ep0 isB_13 | exact ep1 isB_13 | exact ep3 isB_13 | exact ep5 isB_13 | exact ep7 isB_13 | exact er26 | exact er27 | exact er28 | exact ep9 hb | exact ep10 hb) rfl ?_
        refine eg_Vpv1 cs_X8_114 dX8_swing_57 (c_X0_remember hV1 hHi) (by first | exact er0 | exact ep0 hb | exact ep1 hb | exact ep3 hb | exact ep5 hb | exact ep7 hb | exact er25 | exact er34 | exact er181 | exact er182 | exact er196 | exact er199 | exact er156 | exact ep0 isB_13 | exact ep1 isB_13 | exact ep3 isB_13 | exact ep5 isB_13 | exact ep7 isB_13 | exact er26 | exact er27 | exact er28 | exact ep9 hb | exact ep10 hb) rfl (Nat.le_of_ble_eq_true rfl) (by decide) ?_
        rintro y1 ⟨m1, g1⟩
        have hp1 : hP y1 1 s.1 := hP_k (fun j hj => m1 _ (by omega)) hp
        have hl1 : hL y1 1 s.1 := hL_k (m1 _ (by omega)) hV1.2.1
        refine eg_al_n dX8_swing_60 rfl rfl ?_
        refine eg_get fl_X8_12 dX8_swing_61 (by first | exact er0 | exact ep0 hb | exact ep1 hb | exact ep3 hb | exact ep5 hb | exact ep7 hb | exact er25 | exact er34 | exact er181 | exact er182 | exact er196 | exact er199 | exact er156 | exact ep0 isB_13 | exact ep1 isB_13 | exact ep3 isB_13 | exact ep5 isB_13 | exact ep7 isB_13 | exact er26 | exact er27 | exact er28 | exact ep9 hb | exact ep10 hb) rfl ?_
        refine eg_get fl_X8_95 dX8_swing_64 (by first | exact er0 | exact ep0 hb | exact ep1 hb | exact ep3 hb | exact ep5 hb | exact ep7 hb | exact er25 | exact er34 | exact er181 | exact er182 | exact er196 | exact er199 | exact er156 | exact ep0 isB_13 | exact ep1 isB_13 | exact ep3 isB_13 | exact ep5 isB_13 | exact ep7 isB_13 | exact er26 | exact er27 | exact er28 | exact ep9 hb | exact ep10 hb) rfl ?_
        refine eg_iload_n dX8_swing_67 rfl ?_
        refine eg_iconst dX8_swing_68 ?_
        refine eg_iload_n dX8_swing_69 rfl ?_
        refine eg_Vpv3 cs_X8_129 dX8_swing_70 (pt_putQ hb hp1 hv (by omega) (by omega) (by omega) (by omega)) (by first | exact er0 | exact ep0 hb | exact ep1 hb | exact ep3 hb | exact ep5 hb | exact ep7 hb | exact er25 | exact er34 | exact er181 | exact er182 | exact er196 | exact er199 | exact er156 | exact ep0 isB_13 | exact ep1 isB_13 | exact ep3 isB_13 | exact ep5 isB_13 | exact ep7 isB_13 | exact er26 | exact er27 | exact er28 | exact ep9 hb | exact ep10 hb) rfl (Nat.le_of_ble_eq_true rfl) (by decide) ?_
        rintro y2 ⟨m2, l2, hp2⟩
        refine eg_iload_n dX8_swing_73 rfl ?_
        refine eg_ireturn dX8_swing_74 rfl rfl ?_
        rw [show R_swing s a b = (gP s.1 a 3, puS s (va_up s.1 (26 + 4 * a + 3).toNat b)) from by unfold R_swing bcR; rw [if_pos (by omega), if_neg (show ¬ s.1 (26 + 4 * a + 3).toNat = b from h43)]; rfl]
        exact ⟨rfl, rfl, y2, rfl, hI.push m1 g1 m2 ⟨hp2, hL_u (by omega) (by omega) (by omega) (by omega) (hL_k l2 hl1), okV_p hV1.2.2 (by omega) (by omega) (by omega)⟩⟩
      · refine eg_bipush dX8_swing_46 (by decide) ?_
        refine eg_ireturn dX8_swing_48 rfl rfl ?_
        rw [show R_swing s a b = (-101, s) from by unfold R_swing bcR; (repeat (first | rw [if_pos (by first | assumption | omega)] | rw [if_neg (by first | assumption | omega)]))]
        exact ⟨rfl, rfl, z, rfl, FC.rf, hI⟩
    · refine eg_bipush dX8_swing_25 (by decide) ?_
      refine eg_ireturn dX8_swing_27 rfl rfl ?_
      rw [show R_swing s a b = (-100, s) from by unfold R_swing; (repeat (first | rw [if_pos (by first | assumption | omega)] | rw [if_neg (by first | assumption | omega)]))]
      exact ⟨rfl, rfl, z, rfl, FC.rf, hI⟩
theorem p_move {k : eg_K} {z : eg_Z} {X : eg_M} {n : Nat} {s : eg_S} (hI : IC z s) {a b : Int} (r_a : iR a) (r_b : iR b) : eg_P k gX8_move 4 0 0 [vR k 0, vI a, vI b] n (enc k z X) (eg_p k (some (vI (R_move s a b).1)) n X (fun z' => FC z z' ∧ IC z' (R_move s a b).2)) := by
  refine eg_P.of (by decide) (Nat.le_of_ble_eq_true rfl) ?_
  show eg_E k gX8_move 4 0 0 n (enc k z X) [vR k 0, vI a, vI b, vU] [] 0 _
  obtain ⟨hV1, hHi, ⟨hkb, hsh⟩, hT, hTl, hTb⟩ := id hI
  have hb := isB_1
  have hp := hV1.1
  have hv := hV1.2.2.1
  have q := hv.r.2
  obtain ⟨⟨z0, z1, z2, z3⟩, ⟨c1, c3, c5, c7⟩, -⟩ := id hp
  have r_a1 := r_a.1; have r_a2 := r_a.2
  have r_b1 := r_b.1; have r_b2 := r_b.2
  refine eg_al_n dX8_move_0 rfl rfl ?_
  refine eg_get fl_X8_12 dX8_move_1 (by first | exact er0 | exact ep0 hb | exact ep1 hb | exact ep3 hb | exact ep5 hb | exact ep7 hb | exact er25 | exact er34 | exact er181 | exact er182 | exact er196 | exact er199 | exact er156 | exact ep0 isB_13 | exact ep1 isB_13 | exact ep3 isB_13 | exact ep5 isB_13 | exact ep7 isB_13 | exact er26 | exact er27 | exact er28 | exact ep9 hb | exact ep10 hb) rfl ?_
  refine eg_get fl_X8_95 dX8_move_4 (by first | exact er0 | exact ep0 hb | exact ep1 hb | exact ep3 hb | exact ep5 hb | exact ep7 hb | exact er25 | exact er34 | exact er181 | exact er182 | exact er196 | exact er199 | exact er156 | exact ep0 isB_13 | exact ep1 isB_13 | exact ep3 isB_13 | exact ep5 isB_13 | exact ep7 isB_13 | exact er26 | exact er27 | exact er28 | exact ep9 hb | exact ep10 hb) rfl ?_
  refine eg_iload_n dX8_move_7 rfl ?_
  refine eg_Vf1 cs_X8_121 dX8_move_8 (pt_has hb hp hv r_a) (by first | exact er0 | exact ep0 hb | exact ep1 hb | exact ep3 hb | exact ep5 hb | exact ep7 hb | exact er25 | exact er34 | exact er181 | exact er182 | exact er196 | exact er199 | exact er156 | exact ep0 isB_13 | exact ep1 isB_13 | exact ep3 isB_13 | exact ep5 isB_13 | exact ep7 isB_13 | exact er26 | exact er27 | exact er28 | exact ep9 hb | exact ep10 hb) rfl (Nat.le_of_ble_eq_true rfl) (by decide) ?_
  refine eg_bi_eq 25 dX8_move_11 rfl (fun h11 => ?_) (fun h11 => ?_)
  · refine eg_iconst dX8_move_25 ?_
    refine eg_ireturn dX8_move_26 rfl rfl ?_
    rw [show R_move s a b = (-1, s) from by unfold R_move; (repeat (first | rw [if_pos (by first | assumption | omega)] | rw [if_neg (by first | assumption | omega)]))]
    exact ⟨rfl, rfl, z, rfl, FC.rf, hI⟩
  · refine eg_al_n dX8_move_14 rfl rfl ?_
    refine eg_get fl_X8_12 dX8_move_15 (by first | exact er0 | exact ep0 hb | exact ep1 hb | exact ep3 hb | exact ep5 hb | exact ep7 hb | exact er25 | exact er34 | exact er181 | exact er182 | exact er196 | exact er199 | exact er156 | exact ep0 isB_13 | exact ep1 isB_13 | exact ep3 isB_13 | exact ep5 isB_13 | exact ep7 isB_13 | exact er26 | exact er27 | exact er28 | exact ep9 hb | exact ep10 hb) rfl ?_
    refine eg_iload_n dX8_move_18 rfl ?_
    refine eg_Vf1 cs_X8_164 dX8_move_19 (c_X2_hasHub hb hp hv r_b) (by first | exact er0 | exact ep0 hb | exact ep1 hb | exact ep3 hb | exact ep5 hb | exact ep7 hb | exact er25 | exact er34 | exact er181 | exact er182 | exact er196 | exact er199 | exact er156 | exact ep0 isB_13 | exact ep1 isB_13 | exact ep3 isB_13 | exact ep5 isB_13 | exact ep7 isB_13 | exact er26 | exact er27 | exact er28 | exact ep9 hb | exact ep10 hb) rfl (Nat.le_of_ble_eq_true rfl) (by decide) ?_
    refine eg_bi_ne 27 dX8_move_22 rfl (fun h22 => ?_) (fun h22 => ?_)
    · refine eg_al_n dX8_move_27 rfl rfl ?_
      refine eg_get fl_X8_12 dX8_move_28 (by first | exact er0 | exact ep0 hb | exact ep1 hb | exact ep3 hb | exact ep5 hb | exact ep7 hb | exact er25 | exact er34 | exact er181 | exact er182 | exact er196 | exact er199 | exact er156 | exact ep0 isB_13 | exact ep1 isB_13 | exact ep3 isB_13 | exact ep5 isB_13 | exact ep7 isB_13 | exact er26 | exact er27 | exact er28 | exact ep9 hb | exact ep10 hb) rfl ?_
      refine eg_get fl_X8_95 dX8_move_31 (by first | exact er0 | exact ep0 hb | exact ep1 hb | exact ep3 hb | exact ep5 hb | exact ep7 hb | exact er25 | exact er34 | exact er181 | exact er182 | exact er196 | exact er199 | exact er156 | exact ep0 isB_13 | exact ep1 isB_13 | exact ep3 isB_13 | exact ep5 isB_13 | exact ep7 isB_13 | exact er26 | exact er27 | exact er28 | exact ep9 hb | exact ep10 hb) rfl ?_
      refine eg_iload_n dX8_move_34 rfl ?_
      refine eg_iconst dX8_move_35 ?_
      refine eg_Vf2 cs_X8_125 dX8_move_36 (pt_at hb hp hv (by omega) (by omega) (by omega) (by omega)) (by first | exact er0 | exact ep0 hb | exact ep1 hb | exact ep3 hb | exact ep5 hb | exact ep7 hb | exact er25 | exact er34 | exact er181 | exact er182 | exact er196 | exact er199 | exact er156 | exact ep0 isB_13 | exact ep1 isB_13 | exact ep3 isB_13 | exact ep5 isB_13 | exact ep7 isB_13 | exact er26 | exact er27 | exact er28 | exact ep9 hb | exact ep10 hb) rfl (Nat.le_of_ble_eq_true rfl) (by decide) ?_
      refine eg_istore_n dX8_move_39 rfl rfl rfl ?_
      have o1 := hv.P (p := a) (by omega) (by omega); unfold okP at o1
      refine eg_iload_n dX8_move_40 rfl ?_
      refine eg_iload_n dX8_move_41 rfl ?_
      refine eg_icmp_ne 48 dX8_move_42 ⟨by omega, by omega⟩ ⟨by omega, by omega⟩ rfl (fun h42 => ?_) (fun h42 => ?_)
      · refine eg_al_n dX8_move_48 rfl rfl ?_
        refine eg_get fl_X8_29 dX8_move_49 (by first | exact er0 | exact ep0 hb | exact ep1 hb | exact ep3 hb | exact ep5 hb | exact ep7 hb | exact er25 | exact er34 | exact er181 | exact er182 | exact er196 | exact er199 | exact er156 | exact ep0 isB_13 | exact ep1 isB_13 | exact ep3 isB_13 | exact ep5 isB_13 | exact ep7 isB_13 | exact er26 | exact er27 | exact er28 | exact ep9 hb | exact ep10 hb) rfl ?_
        refine eg_al_n dX8_move_52 rfl rfl ?_
        refine eg_get fl_X8_12 dX8_move_53 (by first | exact er0 | exact ep0 hb | exact ep1 hb | exact ep3 hb | exact ep5 hb | exact ep7 hb | exact er25 | exact er34 | exact er181 | exact er182 | exact er196 | exact er199 | exact er156 | exact ep0 isB_13 | exact ep1 isB_13 | exact ep3 isB_13 | exact ep5 isB_13 | exact ep7 isB_13 | exact er26 | exact er27 | exact er28 | exact ep9 hb | exact ep10 hb) rfl ?_
        refine eg_Vpv1 cs_X8_114 dX8_move_56 (c_X0_remember hV1 hHi) (by first | exact er0 | exact ep0 hb | exact ep1 hb | exact ep3 hb | exact ep5 hb | exact ep7 hb | exact er25 | exact er34 | exact er181 | exact er182 | exact er196 | exact er199 | exact er156 | exact ep0 isB_13 | exact ep1 isB_13 | exact ep3 isB_13 | exact ep5 isB_13 | exact ep7 isB_13 | exact er26 | exact er27 | exact er28 | exact ep9 hb | exact ep10 hb) rfl (Nat.le_of_ble_eq_true rfl) (by decide) ?_
        rintro y1 ⟨m1, g1⟩
        have hp1 : hP y1 1 s.1 := hP_k (fun j hj => m1 _ (by omega)) hp
        have hl1 : hL y1 1 s.1 := hL_k (m1 _ (by omega)) hV1.2.1
        refine eg_al_n dX8_move_59 rfl rfl ?_
        refine eg_get fl_X8_12 dX8_move_60 (by first | exact er0 | exact ep0 hb | exact ep1 hb | exact ep3 hb | exact ep5 hb | exact ep7 hb | exact er25 | exact er34 | exact er181 | exact er182 | exact er196 | exact er199 | exact er156 | exact ep0 isB_13 | exact ep1 isB_13 | exact ep3 isB_13 | exact ep5 isB_13 | exact ep7 isB_13 | exact er26 | exact er27 | exact er28 | exact ep9 hb | exact ep10 hb) rfl ?_
        refine eg_get fl_X8_95 dX8_move_63 (by first | exact er0 | exact ep0 hb | exact ep1 hb | exact ep3 hb | exact ep5 hb | exact ep7 hb | exact er25 | exact er34 | exact er181 | exact er182 | exact er196 | exact er199 | exact er156 | exact ep0 isB_13 | exact ep1 isB_13 | exact ep3 isB_13 | exact ep5 isB_13 | exact ep7 isB_13 | exact er26 | exact er27 | exact er28 | exact ep9 hb | exact ep10 hb) rfl ?_
        refine eg_iload_n dX8_move_66 rfl ?_
        refine eg_iconst dX8_move_67 ?_
        refine eg_iload_n dX8_move_68 rfl ?_
        refine eg_Vpv3 cs_X8_129 dX8_move_69 (pt_putQ hb hp1 hv (by omega) (by omega) (by omega) (by omega)) (by first | exact er0 | exact ep0 hb | exact ep1 hb | exact ep3 hb | exact ep5 hb | exact ep7 hb | exact er25 | exact er34 | exact er181 | exact er182 | exact er196 | exact er199 | exact er156 | exact ep0 isB_13 | exact ep1 isB_13 | exact ep3 isB_13 | exact ep5 isB_13 | exact ep7 isB_13 | exact er26 | exact er27 | exact er28 | exact ep9 hb | exact ep10 hb) rfl (Nat.le_of_ble_eq_true rfl) (by decide) ?_
        rintro y2 ⟨m2, l2, hp2⟩
        refine eg_iload_n dX8_move_72 rfl ?_
        refine eg_ireturn dX8_move_73 rfl rfl ?_
        rw [show R_move s a b = (gP s.1 a 0, puS s (va_up s.1 (26 + 4 * a + 0).toNat b)) from by unfold R_move bcR; rw [if_pos (by omega), if_neg (show ¬ s.1 (26 + 4 * a + 0).toNat = b from h42)]; rfl]
        exact ⟨rfl, rfl, y2, rfl, hI.push m1 g1 m2 ⟨hp2, hL_u (by omega) (by omega) (by omega) (by omega) (hL_k l2 hl1), okV_p hV1.2.2 (by omega) (by omega) (by omega)⟩⟩
      · refine eg_bipush dX8_move_45 (by decide) ?_
        refine eg_ireturn dX8_move_47 rfl rfl ?_
        rw [show R_move s a b = (-2, s) from by unfold R_move bcR; (repeat (first | rw [if_pos (by first | assumption | omega)] | rw [if_neg (by first | assumption | omega)]))]
        exact ⟨rfl, rfl, z, rfl, FC.rf, hI⟩
    · refine eg_iconst dX8_move_25 ?_
      refine eg_ireturn dX8_move_26 rfl rfl ?_
      rw [show R_move s a b = (-1, s) from by unfold R_move; (repeat (first | rw [if_pos (by first | assumption | omega)] | rw [if_neg (by first | assumption | omega)]))]
      exact ⟨rfl, rfl, z, rfl, FC.rf, hI⟩
