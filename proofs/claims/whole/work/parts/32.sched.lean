theorem gb_iff {v : eg_v} {q c : Int} : gb v q c = true ↔ (c < 10 ∧ gN v q 1 = c) ∨ (10 ≤ c ∧ c < 17 ∧ gN v q 1 ≠ -1 ∧ gN v q 2 ≠ -1 ∧ gP v (gN v q 1) 0 ≤ c - 10 ∧ c - 10 < gP v (gN v q 2) 0) ∨ (17 ≤ c ∧ c < 24 ∧ gN v q 1 ≠ -1 ∧ gN v q 2 ≠ -1 ∧ gP v (gN v q 2) 0 ≤ c - 17 ∧ c - 17 < gP v (gN v q 1) 0) ∨ (24 ≤ c ∧ c < 34 ∧ gN v q 2 = c - 24) ∨ (34 ≤ c ∧ (c - 34) % 2 = 0 ∧ gN v q 2 = -1 ∧ gN v q 0 = (c - 34) / 2) ∨ (34 ≤ c ∧ (c - 34) % 2 = 1 ∧ gN v q 1 = -1 ∧ gN v q 0 = (c - 34) / 2) := by
  unfold gb
  split
  · rw [decide_eq_true_iff]; omega
  · split
    · rw [decide_eq_true_iff]; omega
    · split
      · rw [decide_eq_true_iff]; omega
      · split
        · rw [decide_eq_true_iff]; omega
        · split
          · rw [decide_eq_true_iff]; omega
          · rw [decide_eq_true_iff]; omega
theorem gb_P {v : eg_v} {q c : Int} (ht : gN v q 2 = -1) (hf : 0 ≤ gN v q 1 ∧ gN v q 1 < 10) (hs : 0 ≤ gN v q 0) (hc : 0 ≤ c) : gb v q c = true ↔ (c = gN v q 1 ∨ c = 34 + 2 * gN v q 0) := by
  rw [gb_iff]
  constructor
  · rintro (h | h | h | h | h | h) <;> omega
  · rintro (h | h)
    · exact Or.inl ⟨by omega, by omega⟩
    · exact Or.inr (Or.inr (Or.inr (Or.inr (Or.inl ⟨by omega, by omega, by omega, by omega⟩))))
theorem gb_L {v : eg_v} {q c : Int} (ht : 0 ≤ gN v q 2 ∧ gN v q 2 < 10) (hf : gN v q 1 = -1) (hs : 0 ≤ gN v q 0) (hc : 0 ≤ c) : gb v q c = true ↔ (c = 24 + gN v q 2 ∨ c = 35 + 2 * gN v q 0) := by
  rw [gb_iff]
  constructor
  · rintro (h | h | h | h | h | h) <;> omega
  · rintro (h | h)
    · exact Or.inr (Or.inr (Or.inr (Or.inl ⟨by omega, by omega, by omega⟩)))
    · exact Or.inr (Or.inr (Or.inr (Or.inr (Or.inr ⟨by omega, by omega, by omega, by omega⟩))))
theorem gb_A {v : eg_v} {q c : Int} (ht : 0 ≤ gN v q 2 ∧ gN v q 2 < 10) (hf : 0 ≤ gN v q 1 ∧ gN v q 1 < 10) (hc : 0 ≤ c) : gb v q c = true ↔ (c = gN v q 1 ∨ (10 ≤ c ∧ c < 17 ∧ gP v (gN v q 1) 0 ≤ c - 10 ∧ c - 10 < gP v (gN v q 2) 0) ∨ (17 ≤ c ∧ c < 24 ∧ gP v (gN v q 2) 0 ≤ c - 17 ∧ c - 17 < gP v (gN v q 1) 0) ∨ c = 24 + gN v q 2) := by
  rw [gb_iff]
  constructor
  · rintro (h | h | h | h | h | h)
    · exact Or.inl (by omega)
    · exact Or.inr (Or.inl ⟨h.1, h.2.1, h.2.2.2.2.1, h.2.2.2.2.2⟩)
    · exact Or.inr (Or.inr (Or.inl ⟨h.1, h.2.1, h.2.2.2.2.1, h.2.2.2.2.2⟩))
    · exact Or.inr (Or.inr (Or.inr (by omega)))
    · omega
    · omega
  · rintro (h | h | h | h)
    · exact Or.inl ⟨by omega, by omega⟩
    · exact Or.inr (Or.inl ⟨h.1, h.2.1, by omega, by omega, h.2.2.1, h.2.2.2⟩)
    · exact Or.inr (Or.inr (Or.inl ⟨h.1, h.2.1, by omega, by omega, h.2.2.1, h.2.2.2⟩))
    · exact Or.inr (Or.inr (Or.inr (Or.inl ⟨by omega, by omega, by omega⟩)))
theorem gm_s {v : eg_v} {c : Int} {j : Nat} : gm v c (j + 1) = gm v c j + (if gb v j c = true then 2 ^ j else 0) := rfl
set_option maxHeartbeats 400000 in
theorem c_wayP {k : eg_K} {z : eg_Z} {X : eg_M} {n b : Nat} {v : eg_v} {B : Int} (hb : isB b = true) (hp : hP z b v) (hv : VV B v) {j : Nat} (h1 : (j : Int) < v 3) (ha : ∀ c : Nat, c < 46 → z 30 c = (gm v c j : Int)) (ht : gN v j 2 = -1) : eg_P k gX4_markWay 2 0 0 [vR k 25, vR k b, vI (j : Int)] n (enc k z X) (eg_p k none n X (fun z' => (∀ c, c ≠ 30 → z' c = z c) ∧ ∀ c : Nat, c < 46 → z' 30 c = (gm v c (j + 1) : Int))) := by
  refine eg_P.of (by decide) (Nat.le_of_ble_eq_true rfl) ?_
  show eg_E k gX4_markWay 2 0 0 n (enc k z X) [vR k 25, vR k b, vI (j : Int), vU, vU, vU, vU] [] 0 _
  obtain ⟨-, q1, q2, q3, -⟩ := hv.r
  have o1 := hv.N (q := (j : Int)) (by omega) h1; simp only [okN, isIn, isOut] at o1
  have hj : j < 16 := by omega
  have a0 := o1.1
  have a1 : 0 ≤ gN v j 1 ∧ gN v j 1 < 10 := by omega
  have a1v : gN v j 1 < v 1 := by omega
  clear o1
  refine eg_iconst dX4_markWay_0 ?_
  refine eg_iload_n dX4_markWay_1 rfl ?_
  refine eg_ishl (j := j) dX4_markWay_2 (by omega) ?_
  refine eg_eqI (show (1 : Int) * 2 ^ j = ((2 ^ j : Nat) : Int) by rw [Int.one_mul, pw]) ?_
  refine eg_istore_n dX4_markWay_3 rfl rfl rfl ?_
  refine eg_al_n dX4_markWay_4 rfl rfl ?_
  refine eg_get fl_X4_60 dX4_markWay_5 (by first | exact er25 | exact er26 | exact er27 | exact er28 | exact er29 | exact er30 | exact er31 | exact er32 | exact er33 | exact ep0 hb | exact ep1 hb | exact ep3 hb | exact ep5 hb | exact ep7 hb) rfl ?_
  refine eg_iload_n dX4_markWay_8 rfl ?_
  refine eg_iconst dX4_markWay_9 ?_
  refine eg_Vf2 cs_X4_66 dX4_markWay_10 (nm_at hb hp hv (by omega) h1 (by omega) (by omega)) (by first | exact er25 | exact er26 | exact er27 | exact er28 | exact er29 | exact er30 | exact er31 | exact er32 | exact er33 | exact ep0 hb | exact ep1 hb | exact ep3 hb | exact ep5 hb | exact ep7 hb) rfl (Nat.le_of_ble_eq_true rfl) (by decide) ?_
  refine eg_istore dX4_markWay_13 rfl rfl rfl ?_
  refine eg_al_n dX4_markWay_15 rfl rfl ?_
  refine eg_get fl_X4_60 dX4_markWay_16 (by first | exact er25 | exact er26 | exact er27 | exact er28 | exact er29 | exact er30 | exact er31 | exact er32 | exact er33 | exact ep0 hb | exact ep1 hb | exact ep3 hb | exact ep5 hb | exact ep7 hb) rfl ?_
  refine eg_iload_n dX4_markWay_19 rfl ?_
  refine eg_iconst dX4_markWay_20 ?_
  refine eg_Vf2 cs_X4_66 dX4_markWay_21 (nm_at hb hp hv (by omega) h1 (by omega) (by omega)) (by first | exact er25 | exact er26 | exact er27 | exact er28 | exact er29 | exact er30 | exact er31 | exact er32 | exact er33 | exact ep0 hb | exact ep1 hb | exact ep3 hb | exact ep5 hb | exact ep7 hb) rfl (Nat.le_of_ble_eq_true rfl) (by decide) ?_
  refine eg_istore dX4_markWay_24 rfl rfl rfl ?_
  refine eg_bipush dX4_markWay_26 (by decide) ?_
  refine eg_iconst dX4_markWay_28 ?_
  refine eg_al_n dX4_markWay_29 rfl rfl ?_
  refine eg_iload_n dX4_markWay_30 rfl ?_
  refine eg_Vf1 cs_X4_98 dX4_markWay_31 (c_X2_shipperOf hb hp hv (by omega) h1) (by first | exact er25 | exact er26 | exact er27 | exact er28 | exact er29 | exact er30 | exact er31 | exact er32 | exact er33 | exact ep0 hb | exact ep1 hb | exact ep3 hb | exact ep5 hb | exact ep7 hb) rfl (Nat.le_of_ble_eq_true rfl) (by decide) ?_
  refine eg_imul dX4_markWay_34 ?_
  refine eg_iadd dX4_markWay_35 ?_
  refine eg_istore dX4_markWay_36 rfl rfl rfl ?_
  refine eg_iload dX4_markWay_38 rfl ?_
  refine eg_iconst dX4_markWay_40 ?_
  refine eg_icmp_ne 63 dX4_markWay_41 ⟨by omega, by omega⟩ ⟨by omega, by omega⟩ rfl (fun h41 => absurd h41 (by omega)) (fun h41 => ?_)
  refine eg_al_n dX4_markWay_44 rfl rfl ?_
  refine eg_iconst dX4_markWay_45 ?_
  refine eg_iload dX4_markWay_46 rfl ?_
  refine eg_iadd dX4_markWay_48 ?_
  refine eg_iload_n dX4_markWay_49 rfl ?_
  refine eg_Vpv2 cs_X4_102 dX4_markWay_50 (c_X4_mark (a := gm v (gN v j 1) j) (j := j) ⟨by omega, by omega⟩ (by omega) (by rw [ha _ (by omega)]; congr 2; omega) (gm_lt _ _ _)) (by first | exact er25 | exact er26 | exact er27 | exact er28 | exact er29 | exact er30 | exact er31 | exact er32 | exact er33 | exact ep0 hb | exact ep1 hb | exact ep3 hb | exact ep5 hb | exact ep7 hb) rfl (Nat.le_of_ble_eq_true rfl) (by decide) ?_
  rintro y1 ⟨n1, k1⟩
  refine eg_al_n dX4_markWay_53 rfl rfl ?_
  refine eg_iload dX4_markWay_54 rfl ?_
  refine eg_iload_n dX4_markWay_56 rfl ?_
  refine eg_Vpv2 cs_X4_102 dX4_markWay_57 (c_X4_mark (a := gm v (34 + 2 * gN v j 0) j) (j := j) ⟨by omega, by omega⟩ (by omega) (by rw [k1, va_up_n _ _ (by omega), ha _ (by omega)]; congr 2; omega) (gm_lt _ _ _)) (by first | exact er25 | exact er26 | exact er27 | exact er28 | exact er29 | exact er30 | exact er31 | exact er32 | exact er33 | exact ep0 hb | exact ep1 hb | exact ep3 hb | exact ep5 hb | exact ep7 hb) rfl (Nat.le_of_ble_eq_true rfl) (by decide) ?_
  rintro y2 ⟨n2, k2⟩
  refine eg_goto 127 dX4_markWay_60 rfl ?_
  refine eg_return dX4_markWay_127 rfl ?_
  refine ⟨rfl, rfl, y2, rfl, fun c hc => (n2 c hc).trans (n1 c hc), fun c hc => ?_⟩
  rw [k2, gm_s]
  by_cases e2 : c = (34 + 2 * gN v j 0).toNat
  · subst e2; rw [va_up_s, if_pos ((gb_P ht a1 a0.1 (by omega)).mpr (by omega))]; congr 3; omega
  · rw [va_up_n _ _ e2, k1]
    by_cases e1 : c = (0 + gN v j 1).toNat
    · subst e1; rw [va_up_s, if_pos ((gb_P ht a1 a0.1 (by omega)).mpr (by omega))]; congr 3; omega
    · rw [va_up_n _ _ e1, ha c hc, if_neg (fun hg => by have := (gb_P ht a1 a0.1 (by omega)).mp hg; omega)]
      rfl
set_option maxHeartbeats 400000 in
theorem c_wayL {k : eg_K} {z : eg_Z} {X : eg_M} {n b : Nat} {v : eg_v} {B : Int} (hb : isB b = true) (hp : hP z b v) (hv : VV B v) {j : Nat} (h1 : (j : Int) < v 3) (ha : ∀ c : Nat, c < 46 → z 30 c = (gm v c j : Int)) (ht : gN v j 2 ≠ -1) (hf : gN v j 1 = -1) : eg_P k gX4_markWay 2 0 0 [vR k 25, vR k b, vI (j : Int)] n (enc k z X) (eg_p k none n X (fun z' => (∀ c, c ≠ 30 → z' c = z c) ∧ ∀ c : Nat, c < 46 → z' 30 c = (gm v c (j + 1) : Int))) := by
  refine eg_P.of (by decide) (Nat.le_of_ble_eq_true rfl) ?_
  show eg_E k gX4_markWay 2 0 0 n (enc k z X) [vR k 25, vR k b, vI (j : Int), vU, vU, vU, vU] [] 0 _
  obtain ⟨-, q1, q2, q3, -⟩ := hv.r
  have o1 := hv.N (q := (j : Int)) (by omega) h1; simp only [okN, isIn, isOut] at o1
  have hj : j < 16 := by omega
  have a0 := o1.1
  have a2 : 0 ≤ gN v j 2 ∧ gN v j 2 < 10 := by omega
  have a2v : gN v j 2 < v 1 := by omega
  clear o1
  refine eg_iconst dX4_markWay_0 ?_
  refine eg_iload_n dX4_markWay_1 rfl ?_
  refine eg_ishl (j := j) dX4_markWay_2 (by omega) ?_
  refine eg_eqI (show (1 : Int) * 2 ^ j = ((2 ^ j : Nat) : Int) by rw [Int.one_mul, pw]) ?_
  refine eg_istore_n dX4_markWay_3 rfl rfl rfl ?_
  refine eg_al_n dX4_markWay_4 rfl rfl ?_
  refine eg_get fl_X4_60 dX4_markWay_5 (by first | exact er25 | exact er26 | exact er27 | exact er28 | exact er29 | exact er30 | exact er31 | exact er32 | exact er33 | exact ep0 hb | exact ep1 hb | exact ep3 hb | exact ep5 hb | exact ep7 hb) rfl ?_
  refine eg_iload_n dX4_markWay_8 rfl ?_
  refine eg_iconst dX4_markWay_9 ?_
  refine eg_Vf2 cs_X4_66 dX4_markWay_10 (nm_at hb hp hv (by omega) h1 (by omega) (by omega)) (by first | exact er25 | exact er26 | exact er27 | exact er28 | exact er29 | exact er30 | exact er31 | exact er32 | exact er33 | exact ep0 hb | exact ep1 hb | exact ep3 hb | exact ep5 hb | exact ep7 hb) rfl (Nat.le_of_ble_eq_true rfl) (by decide) ?_
  refine eg_istore dX4_markWay_13 rfl rfl rfl ?_
  refine eg_al_n dX4_markWay_15 rfl rfl ?_
  refine eg_get fl_X4_60 dX4_markWay_16 (by first | exact er25 | exact er26 | exact er27 | exact er28 | exact er29 | exact er30 | exact er31 | exact er32 | exact er33 | exact ep0 hb | exact ep1 hb | exact ep3 hb | exact ep5 hb | exact ep7 hb) rfl ?_
  refine eg_iload_n dX4_markWay_19 rfl ?_
  refine eg_iconst dX4_markWay_20 ?_
  refine eg_Vf2 cs_X4_66 dX4_markWay_21 (nm_at hb hp hv (by omega) h1 (by omega) (by omega)) (by first | exact er25 | exact er26 | exact er27 | exact er28 | exact er29 | exact er30 | exact er31 | exact er32 | exact er33 | exact ep0 hb | exact ep1 hb | exact ep3 hb | exact ep5 hb | exact ep7 hb) rfl (Nat.le_of_ble_eq_true rfl) (by decide) ?_
  refine eg_istore dX4_markWay_24 rfl rfl rfl ?_
  refine eg_bipush dX4_markWay_26 (by decide) ?_
  refine eg_iconst dX4_markWay_28 ?_
  refine eg_al_n dX4_markWay_29 rfl rfl ?_
  refine eg_iload_n dX4_markWay_30 rfl ?_
  refine eg_Vf1 cs_X4_98 dX4_markWay_31 (c_X2_shipperOf hb hp hv (by omega) h1) (by first | exact er25 | exact er26 | exact er27 | exact er28 | exact er29 | exact er30 | exact er31 | exact er32 | exact er33 | exact ep0 hb | exact ep1 hb | exact ep3 hb | exact ep5 hb | exact ep7 hb) rfl (Nat.le_of_ble_eq_true rfl) (by decide) ?_
  refine eg_imul dX4_markWay_34 ?_
  refine eg_iadd dX4_markWay_35 ?_
  refine eg_istore dX4_markWay_36 rfl rfl rfl ?_
  refine eg_iload dX4_markWay_38 rfl ?_
  refine eg_iconst dX4_markWay_40 ?_
  refine eg_icmp_ne 63 dX4_markWay_41 ⟨by omega, by omega⟩ ⟨by omega, by omega⟩ rfl (fun h41 => ?_) (fun h41 => absurd h41 (by omega))
  refine eg_iload dX4_markWay_63 rfl ?_
  refine eg_iconst dX4_markWay_65 ?_
  refine eg_icmp_ne 91 dX4_markWay_66 ⟨by omega, by omega⟩ ⟨by omega, by omega⟩ rfl (fun h66 => absurd h66 (by omega)) (fun h66 => ?_)
  refine eg_al_n dX4_markWay_69 rfl rfl ?_
  refine eg_bipush dX4_markWay_70 (by decide) ?_
  refine eg_iload dX4_markWay_72 rfl ?_
  refine eg_iadd dX4_markWay_74 ?_
  refine eg_iload_n dX4_markWay_75 rfl ?_
  refine eg_Vpv2 cs_X4_102 dX4_markWay_76 (c_X4_mark (a := gm v (24 + gN v j 2) j) (j := j) ⟨by omega, by omega⟩ (by omega) (by rw [ha _ (by omega)]; congr 2; omega) (gm_lt _ _ _)) (by first | exact er25 | exact er26 | exact er27 | exact er28 | exact er29 | exact er30 | exact er31 | exact er32 | exact er33 | exact ep0 hb | exact ep1 hb | exact ep3 hb | exact ep5 hb | exact ep7 hb) rfl (Nat.le_of_ble_eq_true rfl) (by decide) ?_
  rintro y1 ⟨n1, k1⟩
  refine eg_al_n dX4_markWay_79 rfl rfl ?_
  refine eg_iload dX4_markWay_80 rfl ?_
  refine eg_iconst dX4_markWay_82 ?_
  refine eg_iadd dX4_markWay_83 ?_
  refine eg_iload_n dX4_markWay_84 rfl ?_
  refine eg_Vpv2 cs_X4_102 dX4_markWay_85 (c_X4_mark (a := gm v (34 + 2 * gN v j 0 + 1) j) (j := j) ⟨by omega, by omega⟩ (by omega) (by rw [k1, va_up_n _ _ (by omega), ha _ (by omega)]; congr 2; omega) (gm_lt _ _ _)) (by first | exact er25 | exact er26 | exact er27 | exact er28 | exact er29 | exact er30 | exact er31 | exact er32 | exact er33 | exact ep0 hb | exact ep1 hb | exact ep3 hb | exact ep5 hb | exact ep7 hb) rfl (Nat.le_of_ble_eq_true rfl) (by decide) ?_
  rintro y2 ⟨n2, k2⟩
  refine eg_goto 127 dX4_markWay_88 rfl ?_
  refine eg_return dX4_markWay_127 rfl ?_
  refine ⟨rfl, rfl, y2, rfl, fun c hc => (n2 c hc).trans (n1 c hc), fun c hc => ?_⟩
  rw [k2, gm_s]
  by_cases e2 : c = (34 + 2 * gN v j 0 + 1).toNat
  · subst e2; rw [va_up_s, if_pos ((gb_L a2 hf a0.1 (by omega)).mpr (by omega))]; congr 3; omega
  · rw [va_up_n _ _ e2, k1]
    by_cases e1 : c = (24 + gN v j 2).toNat
    · subst e1; rw [va_up_s, if_pos ((gb_L a2 hf a0.1 (by omega)).mpr (by omega))]; congr 3; omega
    · rw [va_up_n _ _ e1, ha c hc, if_neg (fun hg => by have := (gb_L a2 hf a0.1 (by omega)).mp hg; omega)]
      rfl
set_option maxHeartbeats 400000 in
theorem c_wayA {k : eg_K} {z : eg_Z} {X : eg_M} {n b : Nat} {v : eg_v} {B : Int} (hb : isB b = true) (hp : hP z b v) (hv : VV B v) {j : Nat} (h1 : (j : Int) < v 3) (ha : ∀ c : Nat, c < 46 → z 30 c = (gm v c j : Int)) (ht : gN v j 2 ≠ -1) (hf : gN v j 1 ≠ -1) : eg_P k gX4_markWay 2 0 0 [vR k 25, vR k b, vI (j : Int)] n (enc k z X) (eg_p k none n X (fun z' => (∀ c, c ≠ 30 → z' c = z c) ∧ ∀ c : Nat, c < 46 → z' 30 c = (gm v c (j + 1) : Int))) := by
  refine eg_P.of (by decide) (Nat.le_of_ble_eq_true rfl) ?_
  show eg_E k gX4_markWay 2 0 0 n (enc k z X) [vR k 25, vR k b, vI (j : Int), vU, vU, vU, vU] [] 0 _
  obtain ⟨-, q1, q2, q3, -⟩ := hv.r
  have o1 := hv.N (q := (j : Int)) (by omega) h1; simp only [okN, isIn, isOut] at o1
  have hj : j < 16 := by omega
  have a0 := o1.1
  have a1 : 0 ≤ gN v j 1 ∧ gN v j 1 < 10 := by omega
  have a1v : gN v j 1 < v 1 := by omega
  have a2 : 0 ≤ gN v j 2 ∧ gN v j 2 < 10 := by omega
  have a2v : gN v j 2 < v 1 := by omega
  clear o1
  have hh0 := hv.r.1
  refine eg_iconst dX4_markWay_0 ?_
  refine eg_iload_n dX4_markWay_1 rfl ?_
  refine eg_ishl (j := j) dX4_markWay_2 (by omega) ?_
  refine eg_eqI (show (1 : Int) * 2 ^ j = ((2 ^ j : Nat) : Int) by rw [Int.one_mul, pw]) ?_
  refine eg_istore_n dX4_markWay_3 rfl rfl rfl ?_
  refine eg_al_n dX4_markWay_4 rfl rfl ?_
  refine eg_get fl_X4_60 dX4_markWay_5 (by first | exact er25 | exact er26 | exact er27 | exact er28 | exact er29 | exact er30 | exact er31 | exact er32 | exact er33 | exact ep0 hb | exact ep1 hb | exact ep3 hb | exact ep5 hb | exact ep7 hb) rfl ?_
  refine eg_iload_n dX4_markWay_8 rfl ?_
  refine eg_iconst dX4_markWay_9 ?_
  refine eg_Vf2 cs_X4_66 dX4_markWay_10 (nm_at hb hp hv (by omega) h1 (by omega) (by omega)) (by first | exact er25 | exact er26 | exact er27 | exact er28 | exact er29 | exact er30 | exact er31 | exact er32 | exact er33 | exact ep0 hb | exact ep1 hb | exact ep3 hb | exact ep5 hb | exact ep7 hb) rfl (Nat.le_of_ble_eq_true rfl) (by decide) ?_
  refine eg_istore dX4_markWay_13 rfl rfl rfl ?_
  refine eg_al_n dX4_markWay_15 rfl rfl ?_
  refine eg_get fl_X4_60 dX4_markWay_16 (by first | exact er25 | exact er26 | exact er27 | exact er28 | exact er29 | exact er30 | exact er31 | exact er32 | exact er33 | exact ep0 hb | exact ep1 hb | exact ep3 hb | exact ep5 hb | exact ep7 hb) rfl ?_
  refine eg_iload_n dX4_markWay_19 rfl ?_
  refine eg_iconst dX4_markWay_20 ?_
  refine eg_Vf2 cs_X4_66 dX4_markWay_21 (nm_at hb hp hv (by omega) h1 (by omega) (by omega)) (by first | exact er25 | exact er26 | exact er27 | exact er28 | exact er29 | exact er30 | exact er31 | exact er32 | exact er33 | exact ep0 hb | exact ep1 hb | exact ep3 hb | exact ep5 hb | exact ep7 hb) rfl (Nat.le_of_ble_eq_true rfl) (by decide) ?_
  refine eg_istore dX4_markWay_24 rfl rfl rfl ?_
  refine eg_bipush dX4_markWay_26 (by decide) ?_
  refine eg_iconst dX4_markWay_28 ?_
  refine eg_al_n dX4_markWay_29 rfl rfl ?_
  refine eg_iload_n dX4_markWay_30 rfl ?_
  refine eg_Vf1 cs_X4_98 dX4_markWay_31 (c_X2_shipperOf hb hp hv (by omega) h1) (by first | exact er25 | exact er26 | exact er27 | exact er28 | exact er29 | exact er30 | exact er31 | exact er32 | exact er33 | exact ep0 hb | exact ep1 hb | exact ep3 hb | exact ep5 hb | exact ep7 hb) rfl (Nat.le_of_ble_eq_true rfl) (by decide) ?_
  refine eg_imul dX4_markWay_34 ?_
  refine eg_iadd dX4_markWay_35 ?_
  refine eg_istore dX4_markWay_36 rfl rfl rfl ?_
  refine eg_iload dX4_markWay_38 rfl ?_
  refine eg_iconst dX4_markWay_40 ?_
  refine eg_icmp_ne 63 dX4_markWay_41 ⟨by omega, by omega⟩ ⟨by omega, by omega⟩ rfl (fun h41 => ?_) (fun h41 => absurd h41 (by omega))
  refine eg_iload dX4_markWay_63 rfl ?_
  refine eg_iconst dX4_markWay_65 ?_
  refine eg_icmp_ne 91 dX4_markWay_66 ⟨by omega, by omega⟩ ⟨by omega, by omega⟩ rfl (fun h66 => ?_) (fun h66 => absurd h66 (by omega))
  have hh := hv.hub (q := (j : Int)) (by omega) h1 (by omega) (by omega)
  refine eg_al_n dX4_markWay_91 rfl rfl ?_
  refine eg_iconst dX4_markWay_92 ?_
  refine eg_iload dX4_markWay_93 rfl ?_
  refine eg_iadd dX4_markWay_95 ?_
  refine eg_iload_n dX4_markWay_96 rfl ?_
  refine eg_Vpv2 cs_X4_102 dX4_markWay_97 (c_X4_mark (a := gm v (gN v j 1) j) (j := j) ⟨by omega, by omega⟩ (by omega) (by rw [ha _ (by omega)]; congr 2; omega) (gm_lt _ _ _)) (by first | exact er25 | exact er26 | exact er27 | exact er28 | exact er29 | exact er30 | exact er31 | exact er32 | exact er33 | exact ep0 hb | exact ep1 hb | exact ep3 hb | exact ep5 hb | exact ep7 hb) rfl (Nat.le_of_ble_eq_true rfl) (by decide) ?_
  rintro y1 ⟨n1, k1⟩
  have hp1 : hP y1 b v := hP_c hp (fun i hi => n1 _ (by have := isB_c hb (c := 30) (by omega); omega))
  obtain ⟨av, hav⟩ : ∃ av : Nat → Nat, av = fun c => if c = (0 + gN v j 1).toNat then gm v (gN v j 1) j + 2 ^ j else gm v c j := ⟨_, rfl⟩
  have HV : ∀ c, av c = if c = (0 + gN v j 1).toNat then gm v (gN v j 1) j + 2 ^ j else gm v c j := fun c => by rw [hav]
  have HA : ∀ c : Nat, c < 46 → y1 30 c = (av c : Int) := fun c hc => by
    rw [k1, HV c]
    by_cases e1 : c = (0 + gN v j 1).toNat
    · rw [if_pos e1, e1, va_up_s]
    · rw [if_neg e1, va_up_n _ _ e1]; exact ha c hc
  refine eg_al_n dX4_markWay_100 rfl rfl ?_
  refine eg_al_n dX4_markWay_101 rfl rfl ?_
  refine eg_iload dX4_markWay_102 rfl ?_
  refine eg_Vf1 cs_X4_106 dX4_markWay_104 (c_X2_hubOf hb hp1 hv (by omega) (by omega)) (by first | exact er25 | exact er26 | exact er27 | exact er28 | exact er29 | exact er30 | exact er31 | exact er32 | exact er33 | exact ep0 hb | exact ep1 hb | exact ep3 hb | exact ep5 hb | exact ep7 hb) rfl (Nat.le_of_ble_eq_true rfl) (by decide) ?_
  refine eg_al_n dX4_markWay_107 rfl rfl ?_
  refine eg_iload dX4_markWay_108 rfl ?_
  refine eg_Vf1 cs_X4_106 dX4_markWay_110 (c_X2_hubOf hb hp1 hv (by omega) (by omega)) (by first | exact er25 | exact er26 | exact er27 | exact er28 | exact er29 | exact er30 | exact er31 | exact er32 | exact er33 | exact ep0 hb | exact ep1 hb | exact ep3 hb | exact ep5 hb | exact ep7 hb) rfl (Nat.le_of_ble_eq_true rfl) (by decide) ?_
  refine eg_iload_n dX4_markWay_113 rfl ?_
  refine eg_Vpv3 cs_X4_109 dX4_markWay_114 (c_markSegX (a := av) (j := j) ⟨by omega, by omega⟩ ⟨by omega, by omega⟩ (by omega) HA (fun c h10 h24 => by rw [HV c, if_neg (by omega)]; exact gm_lt _ _ _)) (by first | exact er25 | exact er26 | exact er27 | exact er28 | exact er29 | exact er30 | exact er31 | exact er32 | exact er33 | exact ep0 hb | exact ep1 hb | exact ep3 hb | exact ep5 hb | exact ep7 hb) rfl (Nat.le_of_ble_eq_true rfl) (by decide) ?_
  rintro y2 ⟨n2, k2⟩
  refine eg_al_n dX4_markWay_117 rfl rfl ?_
  refine eg_bipush dX4_markWay_118 (by decide) ?_
  refine eg_iload dX4_markWay_120 rfl ?_
  refine eg_iadd dX4_markWay_122 ?_
  refine eg_iload_n dX4_markWay_123 rfl ?_
  refine eg_Vpv2 cs_X4_102 dX4_markWay_124 (c_X4_mark (a := gm v (24 + gN v j 2) j) (j := j) ⟨by omega, by omega⟩ (by omega) (by rw [k2 _ (by omega), HV, if_neg (by omega), if_neg (by omega), Nat.add_zero]; congr 2; omega) (gm_lt _ _ _)) (by first | exact er25 | exact er26 | exact er27 | exact er28 | exact er29 | exact er30 | exact er31 | exact er32 | exact er33 | exact ep0 hb | exact ep1 hb | exact ep3 hb | exact ep5 hb | exact ep7 hb) rfl (Nat.le_of_ble_eq_true rfl) (by decide) ?_
  rintro y3 ⟨n3, k3⟩
  refine eg_return dX4_markWay_127 rfl ?_
  refine ⟨rfl, rfl, y3, rfl, fun c hc => (n3 c hc).trans ((n2 c hc).trans (n1 c hc)), fun c hc => ?_⟩
  rw [k3, gm_s]
  by_cases e3 : c = (24 + gN v j 2).toNat
  · subst e3; rw [va_up_s, if_pos ((gb_A a2 a1 (by omega)).mpr (Or.inr (Or.inr (Or.inr (by omega)))))]; congr 3; omega
  · rw [va_up_n _ _ e3, k2 c hc, HV c]
    by_cases e1 : c = (0 + gN v j 1).toNat
    · rw [if_pos e1, if_neg (by omega), if_pos ((gb_A a2 a1 (by omega)).mpr (Or.inl (by omega)))]; subst e1; rw [Nat.add_zero]; congr 3; omega
    · rw [if_neg e1]
      by_cases e2 : (10 ≤ c ∧ c < 17 ∧ gP v (gN v j 1) 0 ≤ (c : Int) - 10 ∧ (c : Int) - 10 < gP v (gN v j 2) 0) ∨ (17 ≤ c ∧ c < 24 ∧ gP v (gN v j 2) 0 ≤ (c : Int) - 17 ∧ (c : Int) - 17 < gP v (gN v j 1) 0)
      · rw [if_pos e2, if_pos ((gb_A a2 a1 (by omega)).mpr (e2.elim (fun e => Or.inr (Or.inl ⟨by omega, by omega, e.2.2.1, e.2.2.2⟩)) (fun e => Or.inr (Or.inr (Or.inl ⟨by omega, by omega, e.2.2.1, e.2.2.2⟩)))))]
      · rw [if_neg e2, if_neg (fun hg => ((gb_A a2 a1 (by omega)).mp hg).elim (fun h => e1 (by omega)) (fun h => h.elim (fun h => e2 (Or.inl ⟨by omega, by omega, h.2.2⟩)) (fun h => h.elim (fun h => e2 (Or.inr ⟨by omega, by omega, h.2.2⟩)) (fun h => e3 (by omega)))))]
theorem c_X4_markWay {k : eg_K} {z : eg_Z} {X : eg_M} {n b : Nat} {v : eg_v} {B : Int} (hb : isB b = true) (hp : hP z b v) (hv : VV B v) {j : Nat} (h1 : (j : Int) < v 3) (ha : ∀ c : Nat, c < 46 → z 30 c = (gm v c j : Int)) : eg_P k gX4_markWay 2 0 0 [vR k 25, vR k b, vI (j : Int)] n (enc k z X) (eg_p k none n X (fun z' => (∀ c, c ≠ 30 → z' c = z c) ∧ ∀ c : Nat, c < 46 → z' 30 c = (gm v c (j + 1) : Int))) := by
  by_cases ht : gN v j 2 = -1
  · exact c_wayP hb hp hv h1 ha ht
  · by_cases hf : gN v j 1 = -1
    · exact c_wayL hb hp hv h1 ha ht hf
    · exact c_wayA hb hp hv h1 ha ht hf
