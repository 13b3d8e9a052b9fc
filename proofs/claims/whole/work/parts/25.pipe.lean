/-- what a day makes of one nomination, of which p is scheduled -/
def cmF (v : eg_v) (r p : Int) : Int := if gN v r 1 = -1 then 0 else p * (100 + gP v (gN v r 1) 3) / 100
def gsF (v : eg_v) (r p : Int) : Int := if gN v r 2 = -1 then 0 else sDel v r p * (100 + gP v (gN v r 2) 3) / 100
def bnF (v : eg_v) (r p : Int) : Int := p - sDel v r p
def hdF (v : eg_v) (r p : Int) : Int := if gN v r 1 = -1 then p else if gN v r 2 = -1 then -p else 0
def dayV (v : eg_v) (r p : Int) : eg_v :=
  va_up (va_up (va_up (va_up (va_up v (66 + 7 * gN v r 0 + 4).toNat (gH v (gN v r 0) 4 + (cmF v r p - bnF v r p - gsF v r p + hdF v r p))) (66 + 7 * gN v r 0 + 5).toNat (gH v (gN v r 0) 5 - hdF v r p)) 7 (v 7 + cmF v r p)) 8 (v 8 + gsF v r p)) 9 (v 9 + bnF v r p)
theorem day_b {v : eg_v} {B : Int} (hv : VV B v) {r p : Int} (h0 : 0 ≤ r) (h1 : r < v 3) (hp : 0 ≤ p ∧ p ≤ 9999) : (0 ≤ cmF v r p ∧ cmF v r p ≤ 19899) ∧ (0 ≤ gsF v r p ∧ gsF v r p ≤ 19899) ∧ (0 ≤ bnF v r p ∧ bnF v r p ≤ 9999) ∧ (-9999 ≤ hdF v r p ∧ hdF v r p ≤ 9999) ∧ 0 ≤ sDel v r p ∧ sDel v r p ≤ p := by
  have o1 := hv.N h0 h1
  simp only [okN, isIn, isOut] at o1
  have d1 := sDel_b hv h0 h1 hp.1
  refine ⟨?_, ?_, ?_, ?_, d1⟩
  · unfold cmF
    split
    · omega
    · have o2 := hv.P (p := gN v r 1) (by omega) (by omega)
      unfold okP at o2
      have m1 := mul_b hp.1 hp.2 (show 0 ≤ 100 + gP v (gN v r 1) 3 by omega) (show 100 + gP v (gN v r 1) 3 ≤ 199 by omega)
      omega
  · unfold gsF
    split
    · omega
    · have o2 := hv.P (p := gN v r 2) (by omega) (by omega)
      unfold okP at o2
      have m1 := mul_b d1.1 (show sDel v r p ≤ 9999 by omega) (show 0 ≤ 100 + gP v (gN v r 2) 3 by omega) (show 100 + gP v (gN v r 2) 3 ≤ 199 by omega)
      omega
  · unfold bnF; omega
  · unfold hdF; split <;> (try split) <;> omega
theorem VV_bal {v : eg_v} {B : Int} (hv : VV B v) {r p : Int} (h0 : 0 ≤ r) (h1 : r < v 3) (hp : 0 ≤ p ∧ p ≤ 9999) : VV (B + 40000) (va_up v (66 + 7 * gN v r 0 + 4).toNat (gH v (gN v r 0) 4 + (cmF v r p - bnF v r p - gsF v r p + hdF v r p))) := by
  have q := hv.r
  have o1 := hv.N h0 h1
  simp only [okN, isIn, isOut] at o1
  have d := day_b hv h0 h1 hp
  have oh := hv.H (s := gN v r 0) (by omega) (by omega)
  unfold okH at oh
  generalize cmF v r p = cm at *
  generalize gsF v r p = gs at *
  generalize bnF v r p = bn at *
  generalize hdF v r p = hd at *
  generalize gN v r 0 = s at *
  refine k_H ⟨by omega, by omega⟩ ⟨by omega, by omega⟩ ?_ hv (by omega)
  unfold okH
  rw [gH_i (c' := 0) (by omega) (by omega) (by omega) (by omega) (by omega) (by omega), gH_i (c' := 1) (by omega) (by omega) (by omega) (by omega) (by omega) (by omega), gH_i (c' := 2) (by omega) (by omega) (by omega) (by omega) (by omega) (by omega), gH_i (c' := 3) (by omega) (by omega) (by omega) (by omega) (by omega) (by omega), gH_i (c' := 4) (by omega) (by omega) (by omega) (by omega) (by omega) (by omega), gH_i (c' := 5) (by omega) (by omega) (by omega) (by omega) (by omega) (by omega)]
  rw [if_neg (by omega), if_neg (by omega), if_neg (by omega), if_neg (by omega), if_pos (by omega), if_neg (by omega)]
  omega
theorem VV_pk {v : eg_v} {B : Int} (hv : VV B v) {r p : Int} (h0 : 0 ≤ r) (h1 : r < v 3) (hp : 0 ≤ p ∧ p ≤ 9999) : VV (B + 40000) (va_up (va_up v (66 + 7 * gN v r 0 + 4).toNat (gH v (gN v r 0) 4 + (cmF v r p - bnF v r p - gsF v r p + hdF v r p))) (66 + 7 * gN v r 0 + 5).toNat (gH v (gN v r 0) 5 - hdF v r p)) := by
  have q := hv.r
  have o1 := hv.N h0 h1
  simp only [okN, isIn, isOut] at o1
  have d := day_b hv h0 h1 hp
  have oh := hv.H (s := gN v r 0) (by omega) (by omega)
  unfold okH at oh
  generalize cmF v r p = cm at *
  generalize gsF v r p = gs at *
  generalize bnF v r p = bn at *
  generalize hdF v r p = hd at *
  generalize gN v r 0 = s at *
  have a1 : VV (B + 40000) (va_up v (66 + 7 * s + 4).toNat (gH v s 4 + (cm - bn - gs + hd))) := by
    refine k_H ⟨by omega, by omega⟩ ⟨by omega, by omega⟩ ?_ hv (by omega)
    unfold okH
    rw [gH_i (c' := 0) (by omega) (by omega) (by omega) (by omega) (by omega) (by omega), gH_i (c' := 1) (by omega) (by omega) (by omega) (by omega) (by omega) (by omega), gH_i (c' := 2) (by omega) (by omega) (by omega) (by omega) (by omega) (by omega), gH_i (c' := 3) (by omega) (by omega) (by omega) (by omega) (by omega) (by omega), gH_i (c' := 4) (by omega) (by omega) (by omega) (by omega) (by omega) (by omega), gH_i (c' := 5) (by omega) (by omega) (by omega) (by omega) (by omega) (by omega)]
    rw [if_neg (by omega), if_neg (by omega), if_neg (by omega), if_neg (by omega), if_pos (by omega), if_neg (by omega)]
    omega
  have e2 : va_up v (66 + 7 * s + 4).toNat (gH v s 4 + (cm - bn - gs + hd)) 2 = v 2 := va_up_n _ _ (by omega)
  refine k_H ⟨by omega, by rw [e2]; omega⟩ ⟨by omega, by omega⟩ ?_ a1 (by omega)
  have oh2 := a1.H (s := s) (by omega) (by rw [e2]; omega)
  unfold okH at oh2 ⊢
  generalize va_up v (66 + 7 * s + 4).toNat (gH v s 4 + (cm - bn - gs + hd)) = w at *
  rw [gH_i (c' := 0) (by omega) (by omega) (by omega) (by omega) (by omega) (by omega), gH_i (c' := 1) (by omega) (by omega) (by omega) (by omega) (by omega) (by omega), gH_i (c' := 2) (by omega) (by omega) (by omega) (by omega) (by omega) (by omega), gH_i (c' := 3) (by omega) (by omega) (by omega) (by omega) (by omega) (by omega), gH_i (c' := 4) (by omega) (by omega) (by omega) (by omega) (by omega) (by omega), gH_i (c' := 5) (by omega) (by omega) (by omega) (by omega) (by omega) (by omega)]
  rw [if_neg (by omega), if_neg (by omega), if_neg (by omega), if_neg (by omega), if_neg (by omega), if_pos (by omega)]
  omega
theorem VV_day {v : eg_v} {B : Int} (hv : VV B v) {r p : Int} (h0 : 0 ≤ r) (h1 : r < v 3) (hp : 0 ≤ p ∧ p ≤ 9999) : VV (B + 40000) (dayV v r p) := by
  unfold dayV
  exact k_E (by omega) (k_E (by omega) (k_E (by omega) (VV_pk hv h0 h1 hp) (Int.le_refl _)) (Int.le_refl _)) (Int.le_refl _)
theorem c_bookA {k : eg_K} {z : eg_Z} {X : eg_M} {n b : Nat} {v : eg_v} {B : Int} (hb : isB b = true) (hp : hP z b v) (hv : VV B v) {r p : Int} (hB : B ≤ 100000000) (h0 : 0 ≤ r) (h1 : r < v 3) (hx : 0 ≤ p ∧ p ≤ 9999) (hf : gN v r 1 ≠ -1) (ht : gN v r 2 ≠ -1) : eg_P k gX2_bookNomination 3 0 0 [vR k b, vI r, vI p] n (enc k z X) (eg_p k none n X (fun z' => Md z z' b ∧ z' (b + 11) = z (b + 11) ∧ hP z' b (dayV v r p))) := by
  refine eg_P.of (by decide) (Nat.le_of_ble_eq_true rfl) ?_
  show eg_E k gX2_bookNomination 3 0 0 n (enc k z X) [vR k b, vI r, vI p, vU, vU, vU, vU, vU, vU, vU, vU] [] 0 _
  have q := hv.r
  obtain ⟨⟨z0, z1, z2, z3⟩, ⟨c1, c3, c5, c7⟩, -⟩ := id hp
  have o1 := hv.N h0 h1; simp only [okN, isIn, isOut] at o1
  have d := day_b hv h0 h1 hx
  have ec : cmF v r p = p * (100 + gP v (gN v r 1) 3) / 100 := by unfold cmF; rw [if_neg hf]
  have eg : gsF v r p = sDel v r p * (100 + gP v (gN v r 2) 3) / 100 := by unfold gsF; rw [if_neg ht]
  have eh : hdF v r p = 0 := by unfold hdF; rw [if_neg hf, if_neg ht]
  have eb : bnF v r p = p - sDel v r p := rfl
  have hvd := VV_day hv h0 h1 hx
  obtain ⟨w1, hw1⟩ : ∃ w1, w1 = va_up v (66 + 7 * gN v r 0 + 4).toNat (gH v (gN v r 0) 4 + (cmF v r p - bnF v r p - gsF v r p + hdF v r p)) := ⟨_, rfl⟩
  have hvd1 : VV (B + 40000) w1 := by rw [hw1]; exact VV_bal hv h0 h1 hx
  have e12 : w1 2 = v 2 := by rw [hw1]; exact va_up_n _ _ (by omega)
  have e15 : gH w1 (gN v r 0) 5 = gH v (gN v r 0) 5 := by rw [hw1, gH_i (by omega) (by omega) (by omega) (by omega) (by omega) (by omega), if_neg (by omega)]
  refine eg_al_n dX2_bookNomination_0 rfl rfl ?_
  refine eg_iload_n dX2_bookNomination_1 rfl ?_
  refine eg_Vf1 cs_X2_101 dX2_bookNomination_2 (c_X2_shipperOf hb hp hv h0 h1) (by first | exact ep0 hb | exact ep1 hb | exact ep3 hb | exact ep5 hb | exact ep7 hb | exact ep9 hb | exact ep10 hb | exact ep11 hb | exact ep2 hb | exact ep4 hb | exact ep6 hb | exact ep8 hb) rfl (Nat.le_of_ble_eq_true rfl) (by decide) ?_
  refine eg_istore_n dX2_bookNomination_5 rfl rfl rfl ?_
  refine eg_al_n dX2_bookNomination_6 rfl rfl ?_
  refine eg_get fl_X2_39 dX2_bookNomination_7 (by first | exact ep0 hb | exact ep1 hb | exact ep3 hb | exact ep5 hb | exact ep7 hb | exact ep9 hb | exact ep10 hb | exact ep11 hb | exact ep2 hb | exact ep4 hb | exact ep6 hb | exact ep8 hb) rfl ?_
  refine eg_iload_n dX2_bookNomination_10 rfl ?_
  refine eg_iconst dX2_bookNomination_11 ?_
  refine eg_Vf2 cs_X2_79 dX2_bookNomination_12 (nm_at hb hp hv h0 h1 (by omega) (by omega)) (by first | exact ep0 hb | exact ep1 hb | exact ep3 hb | exact ep5 hb | exact ep7 hb | exact ep9 hb | exact ep10 hb | exact ep11 hb | exact ep2 hb | exact ep4 hb | exact ep6 hb | exact ep8 hb) rfl (Nat.le_of_ble_eq_true rfl) (by decide) ?_
  refine eg_istore dX2_bookNomination_15 rfl rfl rfl ?_
  refine eg_al_n dX2_bookNomination_17 rfl rfl ?_
  refine eg_get fl_X2_39 dX2_bookNomination_18 (by first | exact ep0 hb | exact ep1 hb | exact ep3 hb | exact ep5 hb | exact ep7 hb | exact ep9 hb | exact ep10 hb | exact ep11 hb | exact ep2 hb | exact ep4 hb | exact ep6 hb | exact ep8 hb) rfl ?_
  refine eg_iload_n dX2_bookNomination_21 rfl ?_
  refine eg_iconst dX2_bookNomination_22 ?_
  refine eg_Vf2 cs_X2_79 dX2_bookNomination_23 (nm_at hb hp hv h0 h1 (by omega) (by omega)) (by first | exact ep0 hb | exact ep1 hb | exact ep3 hb | exact ep5 hb | exact ep7 hb | exact ep9 hb | exact ep10 hb | exact ep11 hb | exact ep2 hb | exact ep4 hb | exact ep6 hb | exact ep8 hb) rfl (Nat.le_of_ble_eq_true rfl) (by decide) ?_
  refine eg_istore dX2_bookNomination_26 rfl rfl rfl ?_
  refine eg_al_n dX2_bookNomination_28 rfl rfl ?_
  refine eg_iload_n dX2_bookNomination_29 rfl ?_
  refine eg_iload_n dX2_bookNomination_30 rfl ?_
  refine eg_Vf2 cs_X2_125 dX2_bookNomination_31 (c_X2_delivered hb hp hv h0 h1 (by omega)) (by first | exact ep0 hb | exact ep1 hb | exact ep3 hb | exact ep5 hb | exact ep7 hb | exact ep9 hb | exact ep10 hb | exact ep11 hb | exact ep2 hb | exact ep4 hb | exact ep6 hb | exact ep8 hb) rfl (Nat.le_of_ble_eq_true rfl) (by decide) ?_
  refine eg_istore dX2_bookNomination_34 rfl rfl rfl ?_
  refine eg_iload dX2_bookNomination_36 rfl ?_
  refine eg_iconst dX2_bookNomination_38 ?_
  refine eg_icmp_ne 46 dX2_bookNomination_39 ⟨by omega, by omega⟩ ⟨by omega, by omega⟩ rfl (fun h39 => ?_) (fun h39 => absurd h39 (by omega))
  refine eg_al_n dX2_bookNomination_46 rfl rfl ?_
  refine eg_iload_n dX2_bookNomination_47 rfl ?_
  refine eg_iload dX2_bookNomination_48 rfl ?_
  refine eg_Vf2 cs_X2_128 dX2_bookNomination_50 (c_X2_swung hb hp hv (by omega) (by omega) (by omega)) (by first | exact ep0 hb | exact ep1 hb | exact ep3 hb | exact ep5 hb | exact ep7 hb | exact ep9 hb | exact ep10 hb | exact ep11 hb | exact ep2 hb | exact ep4 hb | exact ep6 hb | exact ep8 hb) rfl (Nat.le_of_ble_eq_true rfl) (by decide) ?_
  refine eg_istore dX2_bookNomination_53 rfl rfl rfl ?_
  refine eg_iload dX2_bookNomination_55 rfl ?_
  refine eg_iconst dX2_bookNomination_57 ?_
  refine eg_icmp_ne 65 dX2_bookNomination_58 ⟨by omega, by omega⟩ ⟨by omega, by omega⟩ rfl (fun h58 => ?_) (fun h58 => absurd h58 (by omega))
  refine eg_al_n dX2_bookNomination_65 rfl rfl ?_
  refine eg_iload dX2_bookNomination_66 rfl ?_
  refine eg_iload dX2_bookNomination_68 rfl ?_
  refine eg_Vf2 cs_X2_128 dX2_bookNomination_70 (c_X2_swung hb hp hv (by omega) (by omega) (by omega)) (by first | exact ep0 hb | exact ep1 hb | exact ep3 hb | exact ep5 hb | exact ep7 hb | exact ep9 hb | exact ep10 hb | exact ep11 hb | exact ep2 hb | exact ep4 hb | exact ep6 hb | exact ep8 hb) rfl (Nat.le_of_ble_eq_true rfl) (by decide) ?_
  refine eg_istore dX2_bookNomination_73 rfl rfl rfl ?_
  refine eg_iload_n dX2_bookNomination_75 rfl ?_
  refine eg_iload dX2_bookNomination_76 rfl ?_
  refine eg_isub dX2_bookNomination_78 ?_
  refine eg_istore dX2_bookNomination_79 rfl rfl rfl ?_
  refine eg_iconst dX2_bookNomination_81 ?_
  refine eg_istore dX2_bookNomination_82 rfl rfl rfl ?_
  refine eg_iload dX2_bookNomination_84 rfl ?_
  refine eg_iconst dX2_bookNomination_86 ?_
  refine eg_icmp_ne 96 dX2_bookNomination_87 ⟨by omega, by omega⟩ ⟨by omega, by omega⟩ rfl (fun h87 => ?_) (fun h87 => absurd h87 (by omega))
  refine eg_iload dX2_bookNomination_96 rfl ?_
  refine eg_iconst dX2_bookNomination_98 ?_
  refine eg_icmp_ne 106 dX2_bookNomination_99 ⟨by omega, by omega⟩ ⟨by omega, by omega⟩ rfl (fun h99 => ?_) (fun h99 => absurd h99 (by omega))
  refine eg_al_n dX2_bookNomination_106 rfl rfl ?_
  refine eg_get fl_X2_36 dX2_bookNomination_107 (by first | exact ep0 hb | exact ep1 hb | exact ep3 hb | exact ep5 hb | exact ep7 hb | exact ep9 hb | exact ep10 hb | exact ep11 hb | exact ep2 hb | exact ep4 hb | exact ep6 hb | exact ep8 hb) rfl ?_
  refine eg_iload_n dX2_bookNomination_110 rfl ?_
  refine eg_iconst dX2_bookNomination_111 ?_
  refine eg_iload dX2_bookNomination_112 rfl ?_
  refine eg_iload dX2_bookNomination_114 rfl ?_
  refine eg_isub dX2_bookNomination_116 ?_
  refine eg_iload dX2_bookNomination_117 rfl ?_
  refine eg_isub dX2_bookNomination_119 ?_
  refine eg_iload dX2_bookNomination_120 rfl ?_
  refine eg_isub dX2_bookNomination_122 ?_
  refine eg_Vpv3 cs_X2_131 dX2_bookNomination_123 (sh_raiseQ hb hp hv (by omega) (by omega) (by omega) (by omega)) (by first | exact ep0 hb | exact ep1 hb | exact ep3 hb | exact ep5 hb | exact ep7 hb | exact ep9 hb | exact ep10 hb | exact ep11 hb | exact ep2 hb | exact ep4 hb | exact ep6 hb | exact ep8 hb) rfl (Nat.le_of_ble_eq_true rfl) (by decide) ?_
  rintro y1 ⟨m1, l1, hp1⟩
  rw [show (gH v (gN v r 0) 4 + (p * (100 + gP v (gN v r 1) 3) / 100 - (p - sDel v r p) - sDel v r p * (100 + gP v (gN v r 2) 3) / 100 - 0) : Int) = gH v (gN v r 0) 4 + (cmF v r p - bnF v r p - gsF v r p + hdF v r p) by rw [ec, eg, eh, eb]; omega, ← hw1] at hp1
  refine eg_al_n dX2_bookNomination_126 rfl rfl ?_
  refine eg_get fl_X2_36 dX2_bookNomination_127 (by first | exact ep0 hb | exact ep1 hb | exact ep3 hb | exact ep5 hb | exact ep7 hb | exact ep9 hb | exact ep10 hb | exact ep11 hb | exact ep2 hb | exact ep4 hb | exact ep6 hb | exact ep8 hb) rfl ?_
  refine eg_iload_n dX2_bookNomination_130 rfl ?_
  refine eg_iconst dX2_bookNomination_131 ?_
  refine eg_iload dX2_bookNomination_132 rfl ?_
  refine eg_Vpv3 cs_X2_131 dX2_bookNomination_134 (sh_raiseQ hb hp1 hvd1 (by omega) (by rw [e12]; omega) (by omega) (by omega)) (by first | exact ep0 hb | exact ep1 hb | exact ep3 hb | exact ep5 hb | exact ep7 hb | exact ep9 hb | exact ep10 hb | exact ep11 hb | exact ep2 hb | exact ep4 hb | exact ep6 hb | exact ep8 hb) rfl (Nat.le_of_ble_eq_true rfl) (by decide) ?_
  rintro y2 ⟨m2, l2, hp2⟩
  rw [show (gH w1 (gN v r 0) 5 + 0 : Int) = gH v (gN v r 0) 5 - hdF v r p by rw [e15, eh]; omega] at hp2
  have hvd2 : VV (B + 40000) (va_up w1 (66 + 7 * gN v r 0 + 5).toNat (gH v (gN v r 0) 5 - hdF v r p)) := by rw [hw1]; exact VV_pk hv h0 h1 hx
  generalize hw2 : va_up w1 (66 + 7 * gN v r 0 + 5).toNat (gH v (gN v r 0) 5 - hdF v r p) = w2 at hp2 hvd2
  refine eg_al_n dX2_bookNomination_137 rfl rfl ?_
  refine eg_get fl_X2_46 dX2_bookNomination_138 (by first | exact ep0 hb | exact ep1 hb | exact ep3 hb | exact ep5 hb | exact ep7 hb | exact ep9 hb | exact ep10 hb | exact ep11 hb | exact ep2 hb | exact ep4 hb | exact ep6 hb | exact ep8 hb) rfl ?_
  refine eg_iconst dX2_bookNomination_141 ?_
  refine eg_dup2 dX2_bookNomination_142 rfl rfl ?_
  refine eg_lald dX2_bookNomination_143 (by first | exact ep0 hb | exact ep1 hb | exact ep3 hb | exact ep5 hb | exact ep7 hb | exact ep9 hb | exact ep10 hb | exact ep11 hb | exact ep2 hb | exact ep4 hb | exact ep6 hb | exact ep8 hb) (by omega) (by omega) (by decide) ?_
  refine eg_iload dX2_bookNomination_144 rfl ?_
  refine eg_i2l dX2_bookNomination_146 ⟨by omega, by omega⟩ ?_
  refine eg_ladd dX2_bookNomination_147 ?_
  refine eg_last dX2_bookNomination_148 (by first | exact ep0 hb | exact ep1 hb | exact ep3 hb | exact ep5 hb | exact ep7 hb | exact ep9 hb | exact ep10 hb | exact ep11 hb | exact ep2 hb | exact ep4 hb | exact ep6 hb | exact ep8 hb) (by omega) (by omega) (by decide) ?_
  refine eg_eqM (es10 hb) ?_
  rw [show Int.toNat 0 = 0 from rfl]
  have hp3 := uT0 (x := y2 (b + 10) 0 + (p * (100 + gP v (gN v r 1) 3) / 100)) hvd2 hp2
  have hvd3 : VV (B + 40000) (va_up w2 7 (y2 (b + 10) 0 + (p * (100 + gP v (gN v r 1) 3) / 100))) := k_E (by omega) hvd2 (Int.le_refl _)
  generalize hy3 : va_up y2 (b + 10) (va_up (y2 (b + 10)) 0 _) = y3 at hp3 ⊢
  generalize hw3 : va_up w2 7 _ = w3 at hp3 hvd3
  refine eg_al_n dX2_bookNomination_149 rfl rfl ?_
  refine eg_get fl_X2_46 dX2_bookNomination_150 (by first | exact ep0 hb | exact ep1 hb | exact ep3 hb | exact ep5 hb | exact ep7 hb | exact ep9 hb | exact ep10 hb | exact ep11 hb | exact ep2 hb | exact ep4 hb | exact ep6 hb | exact ep8 hb) rfl ?_
  refine eg_iconst dX2_bookNomination_153 ?_
  refine eg_dup2 dX2_bookNomination_154 rfl rfl ?_
  refine eg_lald dX2_bookNomination_155 (by first | exact ep0 hb | exact ep1 hb | exact ep3 hb | exact ep5 hb | exact ep7 hb | exact ep9 hb | exact ep10 hb | exact ep11 hb | exact ep2 hb | exact ep4 hb | exact ep6 hb | exact ep8 hb) (by omega) (by omega) (by decide) ?_
  refine eg_iload dX2_bookNomination_156 rfl ?_
  refine eg_i2l dX2_bookNomination_158 ⟨by omega, by omega⟩ ?_
  refine eg_ladd dX2_bookNomination_159 ?_
  refine eg_last dX2_bookNomination_160 (by first | exact ep0 hb | exact ep1 hb | exact ep3 hb | exact ep5 hb | exact ep7 hb | exact ep9 hb | exact ep10 hb | exact ep11 hb | exact ep2 hb | exact ep4 hb | exact ep6 hb | exact ep8 hb) (by omega) (by omega) (by decide) ?_
  refine eg_eqM (es10 hb) ?_
  rw [show Int.toNat 1 = 1 from rfl]
  have hp4 := uT1 (x := y3 (b + 10) 1 + (sDel v r p * (100 + gP v (gN v r 2) 3) / 100)) hvd3 hp3
  have hvd4 : VV (B + 40000) (va_up w3 8 (y3 (b + 10) 1 + (sDel v r p * (100 + gP v (gN v r 2) 3) / 100))) := k_E (by omega) hvd3 (Int.le_refl _)
  generalize hy4 : va_up y3 (b + 10) (va_up (y3 (b + 10)) 1 _) = y4 at hp4 ⊢
  generalize hw4 : va_up w3 8 _ = w4 at hp4 hvd4
  refine eg_al_n dX2_bookNomination_161 rfl rfl ?_
  refine eg_get fl_X2_46 dX2_bookNomination_162 (by first | exact ep0 hb | exact ep1 hb | exact ep3 hb | exact ep5 hb | exact ep7 hb | exact ep9 hb | exact ep10 hb | exact ep11 hb | exact ep2 hb | exact ep4 hb | exact ep6 hb | exact ep8 hb) rfl ?_
  refine eg_iconst dX2_bookNomination_165 ?_
  refine eg_dup2 dX2_bookNomination_166 rfl rfl ?_
  refine eg_lald dX2_bookNomination_167 (by first | exact ep0 hb | exact ep1 hb | exact ep3 hb | exact ep5 hb | exact ep7 hb | exact ep9 hb | exact ep10 hb | exact ep11 hb | exact ep2 hb | exact ep4 hb | exact ep6 hb | exact ep8 hb) (by omega) (by omega) (by decide) ?_
  refine eg_iload dX2_bookNomination_168 rfl ?_
  refine eg_i2l dX2_bookNomination_170 ⟨by omega, by omega⟩ ?_
  refine eg_ladd dX2_bookNomination_171 ?_
  refine eg_last dX2_bookNomination_172 (by first | exact ep0 hb | exact ep1 hb | exact ep3 hb | exact ep5 hb | exact ep7 hb | exact ep9 hb | exact ep10 hb | exact ep11 hb | exact ep2 hb | exact ep4 hb | exact ep6 hb | exact ep8 hb) (by omega) (by omega) (by decide) ?_
  refine eg_eqM (es10 hb) ?_
  rw [show Int.toNat 2 = 2 from rfl]
  have hp5 := uT2 (x := y4 (b + 10) 2 + (p - sDel v r p)) hvd4 hp4
  refine eg_return dX2_bookNomination_173 rfl ?_
  refine ⟨rfl, rfl, _, rfl, ?_, ?_, ?_⟩
  · refine m1.tr (m2.tr (Md.tr (z' := y3) ?_ (Md.tr (z' := y4) ?_ (md1 (by decide)))))
    · rw [← hy3]; exact md1 (by decide)
    · rw [← hy4]; exact md1 (by decide)
  · rw [va_up_n _ _ (by omega), ← hy4, va_up_n _ _ (by omega), ← hy3, va_up_n _ _ (by omega), l2, l1]
  · have t2 : y2 (b + 10) 0 = v 7 := by rw [hp2.2.2.2.2.2.2.2.1, ← hw2, va_up_n _ _ (by omega), hw1, va_up_n _ _ (by omega)]
    have t3 : y3 (b + 10) 1 = v 8 := by rw [hp3.2.2.2.2.2.2.2.2.1, ← hw3, va_up_n _ _ (by omega), ← hw2, va_up_n _ _ (by omega), hw1, va_up_n _ _ (by omega)]
    have t4 : y4 (b + 10) 2 = v 9 := by rw [hp4.2.2.2.2.2.2.2.2.2.1, ← hw4, va_up_n _ _ (by omega), ← hw3, va_up_n _ _ (by omega), ← hw2, va_up_n _ _ (by omega), hw1, va_up_n _ _ (by omega)]
    rw [← hw4, ← hw3, ← hw2, hw1, t2, t3, t4] at hp5
    unfold dayV
    rw [t4]
    rw [ec, eg, eb] at hp5 ⊢
    exact hp5
theorem c_bookP {k : eg_K} {z : eg_Z} {X : eg_M} {n b : Nat} {v : eg_v} {B : Int} (hb : isB b = true) (hp : hP z b v) (hv : VV B v) {r p : Int} (hB : B ≤ 100000000) (h0 : 0 ≤ r) (h1 : r < v 3) (hx : 0 ≤ p ∧ p ≤ 9999) (hf : gN v r 1 ≠ -1) (ht : gN v r 2 = -1) : eg_P k gX2_bookNomination 3 0 0 [vR k b, vI r, vI p] n (enc k z X) (eg_p k none n X (fun z' => Md z z' b ∧ z' (b + 11) = z (b + 11) ∧ hP z' b (dayV v r p))) := by
  refine eg_P.of (by decide) (Nat.le_of_ble_eq_true rfl) ?_
  show eg_E k gX2_bookNomination 3 0 0 n (enc k z X) [vR k b, vI r, vI p, vU, vU, vU, vU, vU, vU, vU, vU] [] 0 _
  have q := hv.r
  obtain ⟨⟨z0, z1, z2, z3⟩, ⟨c1, c3, c5, c7⟩, -⟩ := id hp
  have o1 := hv.N h0 h1; simp only [okN, isIn, isOut] at o1
  have d := day_b hv h0 h1 hx
  have ec : cmF v r p = p * (100 + gP v (gN v r 1) 3) / 100 := by unfold cmF; rw [if_neg hf]
  have eg : gsF v r p = 0 := by unfold gsF; rw [if_pos ht]
  have eh : hdF v r p = -p := by unfold hdF; rw [if_neg hf, if_pos ht]
  have eb : bnF v r p = p - sDel v r p := rfl
  have hvd := VV_day hv h0 h1 hx
  obtain ⟨w1, hw1⟩ : ∃ w1, w1 = va_up v (66 + 7 * gN v r 0 + 4).toNat (gH v (gN v r 0) 4 + (cmF v r p - bnF v r p - gsF v r p + hdF v r p)) := ⟨_, rfl⟩
  have hvd1 : VV (B + 40000) w1 := by rw [hw1]; exact VV_bal hv h0 h1 hx
  have e12 : w1 2 = v 2 := by rw [hw1]; exact va_up_n _ _ (by omega)
  have e15 : gH w1 (gN v r 0) 5 = gH v (gN v r 0) 5 := by rw [hw1, gH_i (by omega) (by omega) (by omega) (by omega) (by omega) (by omega), if_neg (by omega)]
  refine eg_al_n dX2_bookNomination_0 rfl rfl ?_
  refine eg_iload_n dX2_bookNomination_1 rfl ?_
  refine eg_Vf1 cs_X2_101 dX2_bookNomination_2 (c_X2_shipperOf hb hp hv h0 h1) (by first | exact ep0 hb | exact ep1 hb | exact ep3 hb | exact ep5 hb | exact ep7 hb | exact ep9 hb | exact ep10 hb | exact ep11 hb | exact ep2 hb | exact ep4 hb | exact ep6 hb | exact ep8 hb) rfl (Nat.le_of_ble_eq_true rfl) (by decide) ?_
  refine eg_istore_n dX2_bookNomination_5 rfl rfl rfl ?_
  refine eg_al_n dX2_bookNomination_6 rfl rfl ?_
  refine eg_get fl_X2_39 dX2_bookNomination_7 (by first | exact ep0 hb | exact ep1 hb | exact ep3 hb | exact ep5 hb | exact ep7 hb | exact ep9 hb | exact ep10 hb | exact ep11 hb | exact ep2 hb | exact ep4 hb | exact ep6 hb | exact ep8 hb) rfl ?_
  refine eg_iload_n dX2_bookNomination_10 rfl ?_
  refine eg_iconst dX2_bookNomination_11 ?_
  refine eg_Vf2 cs_X2_79 dX2_bookNomination_12 (nm_at hb hp hv h0 h1 (by omega) (by omega)) (by first | exact ep0 hb | exact ep1 hb | exact ep3 hb | exact ep5 hb | exact ep7 hb | exact ep9 hb | exact ep10 hb | exact ep11 hb | exact ep2 hb | exact ep4 hb | exact ep6 hb | exact ep8 hb) rfl (Nat.le_of_ble_eq_true rfl) (by decide) ?_
  refine eg_istore dX2_bookNomination_15 rfl rfl rfl ?_
  refine eg_al_n dX2_bookNomination_17 rfl rfl ?_
  refine eg_get fl_X2_39 dX2_bookNomination_18 (by first | exact ep0 hb | exact ep1 hb | exact ep3 hb | exact ep5 hb | exact ep7 hb | exact ep9 hb | exact ep10 hb | exact ep11 hb | exact ep2 hb | exact ep4 hb | exact ep6 hb | exact ep8 hb) rfl ?_
  refine eg_iload_n dX2_bookNomination_21 rfl ?_
  refine eg_iconst dX2_bookNomination_22 ?_
  refine eg_Vf2 cs_X2_79 dX2_bookNomination_23 (nm_at hb hp hv h0 h1 (by omega) (by omega)) (by first | exact ep0 hb | exact ep1 hb | exact ep3 hb | exact ep5 hb | exact ep7 hb | exact ep9 hb | exact ep10 hb | exact ep11 hb | exact ep2 hb | exact ep4 hb | exact ep6 hb | exact ep8 hb) rfl (Nat.le_of_ble_eq_true rfl) (by decide) ?_
  refine eg_istore dX2_bookNomination_26 rfl rfl rfl ?_
  refine eg_al_n dX2_bookNomination_28 rfl rfl ?_
  refine eg_iload_n dX2_bookNomination_29 rfl ?_
  refine eg_iload_n dX2_bookNomination_30 rfl ?_
  refine eg_Vf2 cs_X2_125 dX2_bookNomination_31 (c_X2_delivered hb hp hv h0 h1 (by omega)) (by first | exact ep0 hb | exact ep1 hb | exact ep3 hb | exact ep5 hb | exact ep7 hb | exact ep9 hb | exact ep10 hb | exact ep11 hb | exact ep2 hb | exact ep4 hb | exact ep6 hb | exact ep8 hb) rfl (Nat.le_of_ble_eq_true rfl) (by decide) ?_
  refine eg_istore dX2_bookNomination_34 rfl rfl rfl ?_
  refine eg_iload dX2_bookNomination_36 rfl ?_
  refine eg_iconst dX2_bookNomination_38 ?_
  refine eg_icmp_ne 46 dX2_bookNomination_39 ⟨by omega, by omega⟩ ⟨by omega, by omega⟩ rfl (fun h39 => ?_) (fun h39 => absurd h39 (by omega))
  refine eg_al_n dX2_bookNomination_46 rfl rfl ?_
  refine eg_iload_n dX2_bookNomination_47 rfl ?_
  refine eg_iload dX2_bookNomination_48 rfl ?_
  refine eg_Vf2 cs_X2_128 dX2_bookNomination_50 (c_X2_swung hb hp hv (by omega) (by omega) (by omega)) (by first | exact ep0 hb | exact ep1 hb | exact ep3 hb | exact ep5 hb | exact ep7 hb | exact ep9 hb | exact ep10 hb | exact ep11 hb | exact ep2 hb | exact ep4 hb | exact ep6 hb | exact ep8 hb) rfl (Nat.le_of_ble_eq_true rfl) (by decide) ?_
  refine eg_istore dX2_bookNomination_53 rfl rfl rfl ?_
  refine eg_iload dX2_bookNomination_55 rfl ?_
  refine eg_iconst dX2_bookNomination_57 ?_
  refine eg_icmp_ne 65 dX2_bookNomination_58 ⟨by omega, by omega⟩ ⟨by omega, by omega⟩ rfl (fun h58 => absurd h58 (by omega)) (fun h58 => ?_)
  refine eg_iconst dX2_bookNomination_61 ?_
  refine eg_goto 73 dX2_bookNomination_62 rfl ?_
  refine eg_istore dX2_bookNomination_73 rfl rfl rfl ?_
  refine eg_iload_n dX2_bookNomination_75 rfl ?_
  refine eg_iload dX2_bookNomination_76 rfl ?_
  refine eg_isub dX2_bookNomination_78 ?_
  refine eg_istore dX2_bookNomination_79 rfl rfl rfl ?_
  refine eg_iconst dX2_bookNomination_81 ?_
  refine eg_istore dX2_bookNomination_82 rfl rfl rfl ?_
  refine eg_iload dX2_bookNomination_84 rfl ?_
  refine eg_iconst dX2_bookNomination_86 ?_
  refine eg_icmp_ne 96 dX2_bookNomination_87 ⟨by omega, by omega⟩ ⟨by omega, by omega⟩ rfl (fun h87 => absurd h87 (by omega)) (fun h87 => ?_)
  refine eg_iload_n dX2_bookNomination_90 rfl ?_
  refine eg_istore dX2_bookNomination_91 rfl rfl rfl ?_
  refine eg_goto 106 dX2_bookNomination_93 rfl ?_
  refine eg_al_n dX2_bookNomination_106 rfl rfl ?_
  refine eg_get fl_X2_36 dX2_bookNomination_107 (by first | exact ep0 hb | exact ep1 hb | exact ep3 hb | exact ep5 hb | exact ep7 hb | exact ep9 hb | exact ep10 hb | exact ep11 hb | exact ep2 hb | exact ep4 hb | exact ep6 hb | exact ep8 hb) rfl ?_
  refine eg_iload_n dX2_bookNomination_110 rfl ?_
  refine eg_iconst dX2_bookNomination_111 ?_
  refine eg_iload dX2_bookNomination_112 rfl ?_
  refine eg_iload dX2_bookNomination_114 rfl ?_
  refine eg_isub dX2_bookNomination_116 ?_
  refine eg_iload dX2_bookNomination_117 rfl ?_
  refine eg_isub dX2_bookNomination_119 ?_
  refine eg_iload dX2_bookNomination_120 rfl ?_
  refine eg_isub dX2_bookNomination_122 ?_
  refine eg_Vpv3 cs_X2_131 dX2_bookNomination_123 (sh_raiseQ hb hp hv (by omega) (by omega) (by omega) (by omega)) (by first | exact ep0 hb | exact ep1 hb | exact ep3 hb | exact ep5 hb | exact ep7 hb | exact ep9 hb | exact ep10 hb | exact ep11 hb | exact ep2 hb | exact ep4 hb | exact ep6 hb | exact ep8 hb) rfl (Nat.le_of_ble_eq_true rfl) (by decide) ?_
  rintro y1 ⟨m1, l1, hp1⟩
  rw [show (gH v (gN v r 0) 4 + (p * (100 + gP v (gN v r 1) 3) / 100 - (p - sDel v r p) - 0 - p) : Int) = gH v (gN v r 0) 4 + (cmF v r p - bnF v r p - gsF v r p + hdF v r p) by rw [ec, eg, eh, eb]; omega, ← hw1] at hp1
  refine eg_al_n dX2_bookNomination_126 rfl rfl ?_
  refine eg_get fl_X2_36 dX2_bookNomination_127 (by first | exact ep0 hb | exact ep1 hb | exact ep3 hb | exact ep5 hb | exact ep7 hb | exact ep9 hb | exact ep10 hb | exact ep11 hb | exact ep2 hb | exact ep4 hb | exact ep6 hb | exact ep8 hb) rfl ?_
  refine eg_iload_n dX2_bookNomination_130 rfl ?_
  refine eg_iconst dX2_bookNomination_131 ?_
  refine eg_iload dX2_bookNomination_132 rfl ?_
  refine eg_Vpv3 cs_X2_131 dX2_bookNomination_134 (sh_raiseQ hb hp1 hvd1 (by omega) (by rw [e12]; omega) (by omega) (by omega)) (by first | exact ep0 hb | exact ep1 hb | exact ep3 hb | exact ep5 hb | exact ep7 hb | exact ep9 hb | exact ep10 hb | exact ep11 hb | exact ep2 hb | exact ep4 hb | exact ep6 hb | exact ep8 hb) rfl (Nat.le_of_ble_eq_true rfl) (by decide) ?_
  rintro y2 ⟨m2, l2, hp2⟩
  rw [show (gH w1 (gN v r 0) 5 + p : Int) = gH v (gN v r 0) 5 - hdF v r p by rw [e15, eh]; omega] at hp2
  have hvd2 : VV (B + 40000) (va_up w1 (66 + 7 * gN v r 0 + 5).toNat (gH v (gN v r 0) 5 - hdF v r p)) := by rw [hw1]; exact VV_pk hv h0 h1 hx
  generalize hw2 : va_up w1 (66 + 7 * gN v r 0 + 5).toNat (gH v (gN v r 0) 5 - hdF v r p) = w2 at hp2 hvd2
  refine eg_al_n dX2_bookNomination_137 rfl rfl ?_
  refine eg_get fl_X2_46 dX2_bookNomination_138 (by first | exact ep0 hb | exact ep1 hb | exact ep3 hb | exact ep5 hb | exact ep7 hb | exact ep9 hb | exact ep10 hb | exact ep11 hb | exact ep2 hb | exact ep4 hb | exact ep6 hb | exact ep8 hb) rfl ?_
  refine eg_iconst dX2_bookNomination_141 ?_
  refine eg_dup2 dX2_bookNomination_142 rfl rfl ?_
  refine eg_lald dX2_bookNomination_143 (by first | exact ep0 hb | exact ep1 hb | exact ep3 hb | exact ep5 hb | exact ep7 hb | exact ep9 hb | exact ep10 hb | exact ep11 hb | exact ep2 hb | exact ep4 hb | exact ep6 hb | exact ep8 hb) (by omega) (by omega) (by decide) ?_
  refine eg_iload dX2_bookNomination_144 rfl ?_
  refine eg_i2l dX2_bookNomination_146 ⟨by omega, by omega⟩ ?_
  refine eg_ladd dX2_bookNomination_147 ?_
  refine eg_last dX2_bookNomination_148 (by first | exact ep0 hb | exact ep1 hb | exact ep3 hb | exact ep5 hb | exact ep7 hb | exact ep9 hb | exact ep10 hb | exact ep11 hb | exact ep2 hb | exact ep4 hb | exact ep6 hb | exact ep8 hb) (by omega) (by omega) (by decide) ?_
  refine eg_eqM (es10 hb) ?_
  rw [show Int.toNat 0 = 0 from rfl]
  have hp3 := uT0 (x := y2 (b + 10) 0 + (p * (100 + gP v (gN v r 1) 3) / 100)) hvd2 hp2
  have hvd3 : VV (B + 40000) (va_up w2 7 (y2 (b + 10) 0 + (p * (100 + gP v (gN v r 1) 3) / 100))) := k_E (by omega) hvd2 (Int.le_refl _)
  generalize hy3 : va_up y2 (b + 10) (va_up (y2 (b + 10)) 0 _) = y3 at hp3 ⊢
  generalize hw3 : va_up w2 7 _ = w3 at hp3 hvd3
  refine eg_al_n dX2_bookNomination_149 rfl rfl ?_
  refine eg_get fl_X2_46 dX2_bookNomination_150 (by first | exact ep0 hb | exact ep1 hb | exact ep3 hb | exact ep5 hb | exact ep7 hb | exact ep9 hb | exact ep10 hb | exact ep11 hb | exact ep2 hb | exact ep4 hb | exact ep6 hb | exact ep8 hb) rfl ?_
  refine eg_iconst dX2_bookNomination_153 ?_
  refine eg_dup2 dX2_bookNomination_154 rfl rfl ?_
  refine eg_lald dX2_bookNomination_155 (by first | exact ep0 hb | exact ep1 hb | exact ep3 hb | exact ep5 hb | exact ep7 hb | exact ep9 hb | exact ep10 hb | exact ep11 hb | exact ep2 hb | exact ep4 hb | exact ep6 hb | exact ep8 hb) (by omega) (by omega) (by decide) ?_
  refine eg_iload dX2_bookNomination_156 rfl ?_
  refine eg_i2l dX2_bookNomination_158 ⟨by omega, by omega⟩ ?_
  refine eg_ladd dX2_bookNomination_159 ?_
  refine eg_last dX2_bookNomination_160 (by first | exact ep0 hb | exact ep1 hb | exact ep3 hb | exact ep5 hb | exact ep7 hb | exact ep9 hb | exact ep10 hb | exact ep11 hb | exact ep2 hb | exact ep4 hb | exact ep6 hb | exact ep8 hb) (by omega) (by omega) (by decide) ?_
  refine eg_eqM (es10 hb) ?_
  rw [show Int.toNat 1 = 1 from rfl]
  have hp4 := uT1 (x := y3 (b + 10) 1 + 0) hvd3 hp3
  have hvd4 : VV (B + 40000) (va_up w3 8 (y3 (b + 10) 1 + 0)) := k_E (by omega) hvd3 (Int.le_refl _)
  generalize hy4 : va_up y3 (b + 10) (va_up (y3 (b + 10)) 1 _) = y4 at hp4 ⊢
  generalize hw4 : va_up w3 8 _ = w4 at hp4 hvd4
  refine eg_al_n dX2_bookNomination_161 rfl rfl ?_
  refine eg_get fl_X2_46 dX2_bookNomination_162 (by first | exact ep0 hb | exact ep1 hb | exact ep3 hb | exact ep5 hb | exact ep7 hb | exact ep9 hb | exact ep10 hb | exact ep11 hb | exact ep2 hb | exact ep4 hb | exact ep6 hb | exact ep8 hb) rfl ?_
  refine eg_iconst dX2_bookNomination_165 ?_
  refine eg_dup2 dX2_bookNomination_166 rfl rfl ?_
  refine eg_lald dX2_bookNomination_167 (by first | exact ep0 hb | exact ep1 hb | exact ep3 hb | exact ep5 hb | exact ep7 hb | exact ep9 hb | exact ep10 hb | exact ep11 hb | exact ep2 hb | exact ep4 hb | exact ep6 hb | exact ep8 hb) (by omega) (by omega) (by decide) ?_
  refine eg_iload dX2_bookNomination_168 rfl ?_
  refine eg_i2l dX2_bookNomination_170 ⟨by omega, by omega⟩ ?_
  refine eg_ladd dX2_bookNomination_171 ?_
  refine eg_last dX2_bookNomination_172 (by first | exact ep0 hb | exact ep1 hb | exact ep3 hb | exact ep5 hb | exact ep7 hb | exact ep9 hb | exact ep10 hb | exact ep11 hb | exact ep2 hb | exact ep4 hb | exact ep6 hb | exact ep8 hb) (by omega) (by omega) (by decide) ?_
  refine eg_eqM (es10 hb) ?_
  rw [show Int.toNat 2 = 2 from rfl]
  have hp5 := uT2 (x := y4 (b + 10) 2 + (p - sDel v r p)) hvd4 hp4
  refine eg_return dX2_bookNomination_173 rfl ?_
  refine ⟨rfl, rfl, _, rfl, ?_, ?_, ?_⟩
  · refine m1.tr (m2.tr (Md.tr (z' := y3) ?_ (Md.tr (z' := y4) ?_ (md1 (by decide)))))
    · rw [← hy3]; exact md1 (by decide)
    · rw [← hy4]; exact md1 (by decide)
  · rw [va_up_n _ _ (by omega), ← hy4, va_up_n _ _ (by omega), ← hy3, va_up_n _ _ (by omega), l2, l1]
  · have t2 : y2 (b + 10) 0 = v 7 := by rw [hp2.2.2.2.2.2.2.2.1, ← hw2, va_up_n _ _ (by omega), hw1, va_up_n _ _ (by omega)]
    have t3 : y3 (b + 10) 1 = v 8 := by rw [hp3.2.2.2.2.2.2.2.2.1, ← hw3, va_up_n _ _ (by omega), ← hw2, va_up_n _ _ (by omega), hw1, va_up_n _ _ (by omega)]
    have t4 : y4 (b + 10) 2 = v 9 := by rw [hp4.2.2.2.2.2.2.2.2.2.1, ← hw4, va_up_n _ _ (by omega), ← hw3, va_up_n _ _ (by omega), ← hw2, va_up_n _ _ (by omega), hw1, va_up_n _ _ (by omega)]
    rw [← hw4, ← hw3, ← hw2, hw1, t2, t3, t4] at hp5
    unfold dayV
    rw [t4]
    rw [ec, eg, eb] at hp5 ⊢
    exact hp5
theorem c_bookL {k : eg_K} {z : eg_Z} {X : eg_M} {n b : Nat} {v : eg_v} {B : Int} (hb : isB b = true) (hp : hP z b v) (hv : VV B v) {r p : Int} (hB : B ≤ 100000000) (h0 : 0 ≤ r) (h1 : r < v 3) (hx : 0 ≤ p ∧ p ≤ 9999) (hf : gN v r 1 = -1) (ht : gN v r 2 ≠ -1) : eg_P k gX2_bookNomination 3 0 0 [vR k b, vI r, vI p] n (enc k z X) (eg_p k none n X (fun z' => Md z z' b ∧ z' (b + 11) = z (b + 11) ∧ hP z' b (dayV v r p))) := by
  refine eg_P.of (by decide) (Nat.le_of_ble_eq_true rfl) ?_
  show eg_E k gX2_bookNomination 3 0 0 n (enc k z X) [vR k b, vI r, vI p, vU, vU, vU, vU, vU, vU, vU, vU] [] 0 _
  have q := hv.r
  obtain ⟨⟨z0, z1, z2, z3⟩, ⟨c1, c3, c5, c7⟩, -⟩ := id hp
  have o1 := hv.N h0 h1; simp only [okN, isIn, isOut] at o1
  have d := day_b hv h0 h1 hx
  have ec : cmF v r p = 0 := by unfold cmF; rw [if_pos hf]
  have eg : gsF v r p = sDel v r p * (100 + gP v (gN v r 2) 3) / 100 := by unfold gsF; rw [if_neg ht]
  have eh : hdF v r p = p := by unfold hdF; rw [if_pos hf]
  have eb : bnF v r p = p - sDel v r p := rfl
  have hvd := VV_day hv h0 h1 hx
  obtain ⟨w1, hw1⟩ : ∃ w1, w1 = va_up v (66 + 7 * gN v r 0 + 4).toNat (gH v (gN v r 0) 4 + (cmF v r p - bnF v r p - gsF v r p + hdF v r p)) := ⟨_, rfl⟩
  have hvd1 : VV (B + 40000) w1 := by rw [hw1]; exact VV_bal hv h0 h1 hx
  have e12 : w1 2 = v 2 := by rw [hw1]; exact va_up_n _ _ (by omega)
  have e15 : gH w1 (gN v r 0) 5 = gH v (gN v r 0) 5 := by rw [hw1, gH_i (by omega) (by omega) (by omega) (by omega) (by omega) (by omega), if_neg (by omega)]
  refine eg_al_n dX2_bookNomination_0 rfl rfl ?_
  refine eg_iload_n dX2_bookNomination_1 rfl ?_
  refine eg_Vf1 cs_X2_101 dX2_bookNomination_2 (c_X2_shipperOf hb hp hv h0 h1) (by first | exact ep0 hb | exact ep1 hb | exact ep3 hb | exact ep5 hb | exact ep7 hb | exact ep9 hb | exact ep10 hb | exact ep11 hb | exact ep2 hb | exact ep4 hb | exact ep6 hb | exact ep8 hb) rfl (Nat.le_of_ble_eq_true rfl) (by decide) ?_
  refine eg_istore_n dX2_bookNomination_5 rfl rfl rfl ?_
  refine eg_al_n dX2_bookNomination_6 rfl rfl ?_
  refine eg_get fl_X2_39 dX2_bookNomination_7 (by first | exact ep0 hb | exact ep1 hb | exact ep3 hb | exact ep5 hb | exact ep7 hb | exact ep9 hb | exact ep10 hb | exact ep11 hb | exact ep2 hb | exact ep4 hb | exact ep6 hb | exact ep8 hb) rfl ?_
  refine eg_iload_n dX2_bookNomination_10 rfl ?_
  refine eg_iconst dX2_bookNomination_11 ?_
  refine eg_Vf2 cs_X2_79 dX2_bookNomination_12 (nm_at hb hp hv h0 h1 (by omega) (by omega)) (by first | exact ep0 hb | exact ep1 hb | exact ep3 hb | exact ep5 hb | exact ep7 hb | exact ep9 hb | exact ep10 hb | exact ep11 hb | exact ep2 hb | exact ep4 hb | exact ep6 hb | exact ep8 hb) rfl (Nat.le_of_ble_eq_true rfl) (by decide) ?_
  refine eg_istore dX2_bookNomination_15 rfl rfl rfl ?_
  refine eg_al_n dX2_bookNomination_17 rfl rfl ?_
  refine eg_get fl_X2_39 dX2_bookNomination_18 (by first | exact ep0 hb | exact ep1 hb | exact ep3 hb | exact ep5 hb | exact ep7 hb | exact ep9 hb | exact ep10 hb | exact ep11 hb | exact ep2 hb | exact ep4 hb | exact ep6 hb | exact ep8 hb) rfl ?_
  refine eg_iload_n dX2_bookNomination_21 rfl ?_
  refine eg_iconst dX2_bookNomination_22 ?_
  refine eg_Vf2 cs_X2_79 dX2_bookNomination_23 (nm_at hb hp hv h0 h1 (by omega) (by omega)) (by first | exact ep0 hb | exact ep1 hb | exact ep3 hb | exact ep5 hb | exact ep7 hb | exact ep9 hb | exact ep10 hb | exact ep11 hb | exact ep2 hb | exact ep4 hb | exact ep6 hb | exact ep8 hb) rfl (Nat.le_of_ble_eq_true rfl) (by decide) ?_
  refine eg_istore dX2_bookNomination_26 rfl rfl rfl ?_
  refine eg_al_n dX2_bookNomination_28 rfl rfl ?_
  refine eg_iload_n dX2_bookNomination_29 rfl ?_
  refine eg_iload_n dX2_bookNomination_30 rfl ?_
  refine eg_Vf2 cs_X2_125 dX2_bookNomination_31 (c_X2_delivered hb hp hv h0 h1 (by omega)) (by first | exact ep0 hb | exact ep1 hb | exact ep3 hb | exact ep5 hb | exact ep7 hb | exact ep9 hb | exact ep10 hb | exact ep11 hb | exact ep2 hb | exact ep4 hb | exact ep6 hb | exact ep8 hb) rfl (Nat.le_of_ble_eq_true rfl) (by decide) ?_
  refine eg_istore dX2_bookNomination_34 rfl rfl rfl ?_
  refine eg_iload dX2_bookNomination_36 rfl ?_
  refine eg_iconst dX2_bookNomination_38 ?_
  refine eg_icmp_ne 46 dX2_bookNomination_39 ⟨by omega, by omega⟩ ⟨by omega, by omega⟩ rfl (fun h39 => absurd h39 (by omega)) (fun h39 => ?_)
  refine eg_iconst dX2_bookNomination_42 ?_
  refine eg_goto 53 dX2_bookNomination_43 rfl ?_
  refine eg_istore dX2_bookNomination_53 rfl rfl rfl ?_
  refine eg_iload dX2_bookNomination_55 rfl ?_
  refine eg_iconst dX2_bookNomination_57 ?_
  refine eg_icmp_ne 65 dX2_bookNomination_58 ⟨by omega, by omega⟩ ⟨by omega, by omega⟩ rfl (fun h58 => ?_) (fun h58 => absurd h58 (by omega))
  refine eg_al_n dX2_bookNomination_65 rfl rfl ?_
  refine eg_iload dX2_bookNomination_66 rfl ?_
  refine eg_iload dX2_bookNomination_68 rfl ?_
  refine eg_Vf2 cs_X2_128 dX2_bookNomination_70 (c_X2_swung hb hp hv (by omega) (by omega) (by omega)) (by first | exact ep0 hb | exact ep1 hb | exact ep3 hb | exact ep5 hb | exact ep7 hb | exact ep9 hb | exact ep10 hb | exact ep11 hb | exact ep2 hb | exact ep4 hb | exact ep6 hb | exact ep8 hb) rfl (Nat.le_of_ble_eq_true rfl) (by decide) ?_
  refine eg_istore dX2_bookNomination_73 rfl rfl rfl ?_
  refine eg_iload_n dX2_bookNomination_75 rfl ?_
  refine eg_iload dX2_bookNomination_76 rfl ?_
  refine eg_isub dX2_bookNomination_78 ?_
  refine eg_istore dX2_bookNomination_79 rfl rfl rfl ?_
  refine eg_iconst dX2_bookNomination_81 ?_
  refine eg_istore dX2_bookNomination_82 rfl rfl rfl ?_
  refine eg_iload dX2_bookNomination_84 rfl ?_
  refine eg_iconst dX2_bookNomination_86 ?_
  refine eg_icmp_ne 96 dX2_bookNomination_87 ⟨by omega, by omega⟩ ⟨by omega, by omega⟩ rfl (fun h87 => ?_) (fun h87 => absurd h87 (by omega))
  refine eg_iload dX2_bookNomination_96 rfl ?_
  refine eg_iconst dX2_bookNomination_98 ?_
  refine eg_icmp_ne 106 dX2_bookNomination_99 ⟨by omega, by omega⟩ ⟨by omega, by omega⟩ rfl (fun h99 => absurd h99 (by omega)) (fun h99 => ?_)
  refine eg_iload_n dX2_bookNomination_102 rfl ?_
  refine eg_ineg dX2_bookNomination_103 ?_
  refine eg_istore dX2_bookNomination_104 rfl rfl rfl ?_
  refine eg_al_n dX2_bookNomination_106 rfl rfl ?_
  refine eg_get fl_X2_36 dX2_bookNomination_107 (by first | exact ep0 hb | exact ep1 hb | exact ep3 hb | exact ep5 hb | exact ep7 hb | exact ep9 hb | exact ep10 hb | exact ep11 hb | exact ep2 hb | exact ep4 hb | exact ep6 hb | exact ep8 hb) rfl ?_
  refine eg_iload_n dX2_bookNomination_110 rfl ?_
  refine eg_iconst dX2_bookNomination_111 ?_
  refine eg_iload dX2_bookNomination_112 rfl ?_
  refine eg_iload dX2_bookNomination_114 rfl ?_
  refine eg_isub dX2_bookNomination_116 ?_
  refine eg_iload dX2_bookNomination_117 rfl ?_
  refine eg_isub dX2_bookNomination_119 ?_
  refine eg_iload dX2_bookNomination_120 rfl ?_
  refine eg_isub dX2_bookNomination_122 ?_
  refine eg_Vpv3 cs_X2_131 dX2_bookNomination_123 (sh_raiseQ hb hp hv (by omega) (by omega) (by omega) (by omega)) (by first | exact ep0 hb | exact ep1 hb | exact ep3 hb | exact ep5 hb | exact ep7 hb | exact ep9 hb | exact ep10 hb | exact ep11 hb | exact ep2 hb | exact ep4 hb | exact ep6 hb | exact ep8 hb) rfl (Nat.le_of_ble_eq_true rfl) (by decide) ?_
  rintro y1 ⟨m1, l1, hp1⟩
  rw [show (gH v (gN v r 0) 4 + (0 - (p - sDel v r p) - sDel v r p * (100 + gP v (gN v r 2) 3) / 100 - -p) : Int) = gH v (gN v r 0) 4 + (cmF v r p - bnF v r p - gsF v r p + hdF v r p) by rw [ec, eg, eh, eb]; omega, ← hw1] at hp1
  refine eg_al_n dX2_bookNomination_126 rfl rfl ?_
  refine eg_get fl_X2_36 dX2_bookNomination_127 (by first | exact ep0 hb | exact ep1 hb | exact ep3 hb | exact ep5 hb | exact ep7 hb | exact ep9 hb | exact ep10 hb | exact ep11 hb | exact ep2 hb | exact ep4 hb | exact ep6 hb | exact ep8 hb) rfl ?_
  refine eg_iload_n dX2_bookNomination_130 rfl ?_
  refine eg_iconst dX2_bookNomination_131 ?_
  refine eg_iload dX2_bookNomination_132 rfl ?_
  refine eg_Vpv3 cs_X2_131 dX2_bookNomination_134 (sh_raiseQ hb hp1 hvd1 (by omega) (by rw [e12]; omega) (by omega) (by omega)) (by first | exact ep0 hb | exact ep1 hb | exact ep3 hb | exact ep5 hb | exact ep7 hb | exact ep9 hb | exact ep10 hb | exact ep11 hb | exact ep2 hb | exact ep4 hb | exact ep6 hb | exact ep8 hb) rfl (Nat.le_of_ble_eq_true rfl) (by decide) ?_
  rintro y2 ⟨m2, l2, hp2⟩
  rw [show (gH w1 (gN v r 0) 5 + -p : Int) = gH v (gN v r 0) 5 - hdF v r p by rw [e15, eh]; omega] at hp2
  have hvd2 : VV (B + 40000) (va_up w1 (66 + 7 * gN v r 0 + 5).toNat (gH v (gN v r 0) 5 - hdF v r p)) := by rw [hw1]; exact VV_pk hv h0 h1 hx
  generalize hw2 : va_up w1 (66 + 7 * gN v r 0 + 5).toNat (gH v (gN v r 0) 5 - hdF v r p) = w2 at hp2 hvd2
  refine eg_al_n dX2_bookNomination_137 rfl rfl ?_
  refine eg_get fl_X2_46 dX2_bookNomination_138 (by first | exact ep0 hb | exact ep1 hb | exact ep3 hb | exact ep5 hb | exact ep7 hb | exact ep9 hb | exact ep10 hb | exact ep11 hb | exact ep2 hb | exact ep4 hb | exact ep6 hb | exact ep8 hb) rfl ?_
  refine eg_iconst dX2_bookNomination_141 ?_
  refine eg_dup2 dX2_bookNomination_142 rfl rfl ?_
  refine eg_lald dX2_bookNomination_143 (by first | exact ep0 hb | exact ep1 hb | exact ep3 hb | exact ep5 hb | exact ep7 hb | exact ep9 hb | exact ep10 hb | exact ep11 hb | exact ep2 hb | exact ep4 hb | exact ep6 hb | exact ep8 hb) (by omega) (by omega) (by decide) ?_
  refine eg_iload dX2_bookNomination_144 rfl ?_
  refine eg_i2l dX2_bookNomination_146 ⟨by omega, by omega⟩ ?_
  refine eg_ladd dX2_bookNomination_147 ?_
  refine eg_last dX2_bookNomination_148 (by first | exact ep0 hb | exact ep1 hb | exact ep3 hb | exact ep5 hb | exact ep7 hb | exact ep9 hb | exact ep10 hb | exact ep11 hb | exact ep2 hb | exact ep4 hb | exact ep6 hb | exact ep8 hb) (by omega) (by omega) (by decide) ?_
  refine eg_eqM (es10 hb) ?_
  rw [show Int.toNat 0 = 0 from rfl]
  have hp3 := uT0 (x := y2 (b + 10) 0 + 0) hvd2 hp2
  have hvd3 : VV (B + 40000) (va_up w2 7 (y2 (b + 10) 0 + 0)) := k_E (by omega) hvd2 (Int.le_refl _)
  generalize hy3 : va_up y2 (b + 10) (va_up (y2 (b + 10)) 0 _) = y3 at hp3 ⊢
  generalize hw3 : va_up w2 7 _ = w3 at hp3 hvd3
  refine eg_al_n dX2_bookNomination_149 rfl rfl ?_
  refine eg_get fl_X2_46 dX2_bookNomination_150 (by first | exact ep0 hb | exact ep1 hb | exact ep3 hb | exact ep5 hb | exact ep7 hb | exact ep9 hb | exact ep10 hb | exact ep11 hb | exact ep2 hb | exact ep4 hb | exact ep6 hb | exact ep8 hb) rfl ?_
  refine eg_iconst dX2_bookNomination_153 ?_
  refine eg_dup2 dX2_bookNomination_154 rfl rfl ?_
  refine eg_lald dX2_bookNomination_155 (by first | exact ep0 hb | exact ep1 hb | exact ep3 hb | exact ep5 hb | exact ep7 hb | exact ep9 hb | exact ep10 hb | exact ep11 hb | exact ep2 hb | exact ep4 hb | exact ep6 hb | exact ep8 hb) (by omega) (by omega) (by decide) ?_
  refine eg_iload dX2_bookNomination_156 rfl ?_
  refine eg_i2l dX2_bookNomination_158 ⟨by omega, by omega⟩ ?_
  refine eg_ladd dX2_bookNomination_159 ?_
  refine eg_last dX2_bookNomination_160 (by first | exact ep0 hb | exact ep1 hb | exact ep3 hb | exact ep5 hb | exact ep7 hb | exact ep9 hb | exact ep10 hb | exact ep11 hb | exact ep2 hb | exact ep4 hb | exact ep6 hb | exact ep8 hb) (by omega) (by omega) (by decide) ?_
  refine eg_eqM (es10 hb) ?_
  rw [show Int.toNat 1 = 1 from rfl]
  have hp4 := uT1 (x := y3 (b + 10) 1 + (sDel v r p * (100 + gP v (gN v r 2) 3) / 100)) hvd3 hp3
  have hvd4 : VV (B + 40000) (va_up w3 8 (y3 (b + 10) 1 + (sDel v r p * (100 + gP v (gN v r 2) 3) / 100))) := k_E (by omega) hvd3 (Int.le_refl _)
  generalize hy4 : va_up y3 (b + 10) (va_up (y3 (b + 10)) 1 _) = y4 at hp4 ⊢
  generalize hw4 : va_up w3 8 _ = w4 at hp4 hvd4
  refine eg_al_n dX2_bookNomination_161 rfl rfl ?_
  refine eg_get fl_X2_46 dX2_bookNomination_162 (by first | exact ep0 hb | exact ep1 hb | exact ep3 hb | exact ep5 hb | exact ep7 hb | exact ep9 hb | exact ep10 hb | exact ep11 hb | exact ep2 hb | exact ep4 hb | exact ep6 hb | exact ep8 hb) rfl ?_
  refine eg_iconst dX2_bookNomination_165 ?_
  refine eg_dup2 dX2_bookNomination_166 rfl rfl ?_
  refine eg_lald dX2_bookNomination_167 (by first | exact ep0 hb | exact ep1 hb | exact ep3 hb | exact ep5 hb | exact ep7 hb | exact ep9 hb | exact ep10 hb | exact ep11 hb | exact ep2 hb | exact ep4 hb | exact ep6 hb | exact ep8 hb) (by omega) (by omega) (by decide) ?_
  refine eg_iload dX2_bookNomination_168 rfl ?_
  refine eg_i2l dX2_bookNomination_170 ⟨by omega, by omega⟩ ?_
  refine eg_ladd dX2_bookNomination_171 ?_
  refine eg_last dX2_bookNomination_172 (by first | exact ep0 hb | exact ep1 hb | exact ep3 hb | exact ep5 hb | exact ep7 hb | exact ep9 hb | exact ep10 hb | exact ep11 hb | exact ep2 hb | exact ep4 hb | exact ep6 hb | exact ep8 hb) (by omega) (by omega) (by decide) ?_
  refine eg_eqM (es10 hb) ?_
  rw [show Int.toNat 2 = 2 from rfl]
  have hp5 := uT2 (x := y4 (b + 10) 2 + (p - sDel v r p)) hvd4 hp4
  refine eg_return dX2_bookNomination_173 rfl ?_
  refine ⟨rfl, rfl, _, rfl, ?_, ?_, ?_⟩
  · refine m1.tr (m2.tr (Md.tr (z' := y3) ?_ (Md.tr (z' := y4) ?_ (md1 (by decide)))))
    · rw [← hy3]; exact md1 (by decide)
    · rw [← hy4]; exact md1 (by decide)
  · rw [va_up_n _ _ (by omega), ← hy4, va_up_n _ _ (by omega), ← hy3, va_up_n _ _ (by omega), l2, l1]
  · have t2 : y2 (b + 10) 0 = v 7 := by rw [hp2.2.2.2.2.2.2.2.1, ← hw2, va_up_n _ _ (by omega), hw1, va_up_n _ _ (by omega)]
    have t3 : y3 (b + 10) 1 = v 8 := by rw [hp3.2.2.2.2.2.2.2.2.1, ← hw3, va_up_n _ _ (by omega), ← hw2, va_up_n _ _ (by omega), hw1, va_up_n _ _ (by omega)]
    have t4 : y4 (b + 10) 2 = v 9 := by rw [hp4.2.2.2.2.2.2.2.2.2.1, ← hw4, va_up_n _ _ (by omega), ← hw3, va_up_n _ _ (by omega), ← hw2, va_up_n _ _ (by omega), hw1, va_up_n _ _ (by omega)]
    rw [← hw4, ← hw3, ← hw2, hw1, t2, t3, t4] at hp5
    unfold dayV
    rw [t4]
    rw [ec, eg, eb] at hp5 ⊢
    exact hp5
theorem c_X2_bookNomination {k : eg_K} {z : eg_Z} {X : eg_M} {n b : Nat} {v : eg_v} {B : Int} (hb : isB b = true) (hp : hP z b v) (hv : VV B v) {r p : Int} (hB : B ≤ 100000000) (h0 : 0 ≤ r) (h1 : r < v 3) (hx : 0 ≤ p ∧ p ≤ 9999) : eg_P k gX2_bookNomination 3 0 0 [vR k b, vI r, vI p] n (enc k z X) (eg_p k none n X (fun z' => Md z z' b ∧ z' (b + 11) = z (b + 11) ∧ hP z' b (dayV v r p))) := by
  by_cases hf : gN v r 1 = -1
  · have o1 := hv.N h0 h1
    unfold okN at o1
    exact c_bookL hb hp hv hB h0 h1 hx hf (by omega)
  · by_cases ht : gN v r 2 = -1
    · exact c_bookP hb hp hv hB h0 h1 hx hf ht
    · exact c_bookA hb hp hv hB h0 h1 hx hf ht
