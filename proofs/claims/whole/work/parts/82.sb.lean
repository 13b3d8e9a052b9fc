theorem enc_x {k : eg_K} {z : eg_Z} {X : eg_M} {a : Nat} (h : a = 198 ∨ 216 ≤ a) : enc k z X a = X a := by
  have hs : shA k a (z a) = none := by
    have hp : pbs a = none := by unfold pbs; rw [if_neg (by omega), if_neg (by omega), if_neg (by omega), if_neg (by omega)]
    unfold shA
    rw [hp]
    show shO k a (z a) = none
    unfold shO
    split <;> first | rfl | (exfalso; omega)
  unfold enc
  rw [hs]
theorem enc_xs {k : eg_K} {z : eg_Z} {X : eg_M} {a : Nat} {e : va_E} (h : a = 198 ∨ 216 ≤ a) : va_up (enc k z X) a (some e) = enc k z (va_up X a (some e)) := by
  funext q
  by_cases hq : q = a
  · subst hq; rw [va_up_s, enc_x h, va_up_s]
  · rw [va_up_n _ _ hq]
    unfold enc
    rw [va_up_n _ _ hq]
theorem es197_0 {k : eg_K} {z : eg_Z} {X : eg_M} {a : Nat} : va_up (enc k z X) 197 (some (oO 0 [vR k a, vI 0, vI (z 197 2), vI (z 197 3)])) = enc k (va_up z 197 (va_up (z 197) 0 (a : Int))) X := enc_st (va_up (z 197) 0 (a : Int)) rfl
/-- capacities, and the slots that they cost -/
def cpG : Nat → Nat
  | 0 => 16
  | g + 1 => 2 * cpG g + 2
def slG : Nat → Nat
  | 0 => 0
  | g + 1 => slG g + cpG (g + 1)
theorem cpG_b {g : Nat} (h : g ≤ 6) : 16 ≤ cpG g ∧ cpG g ≤ 1150 := by
  have : ∀ g, g ≤ 6 → 16 ≤ cpG g ∧ cpG g ≤ 1150 := by decide
  exact this g h
/-- the builder: what it holds is T, its capacity the g-th -/
def SB (k : eg_K) (z : eg_Z) (X : eg_M) (n : Nat) (T : List Int) (g : Nat) : Prop :=
  ((z 197 0).toNat = 198 ∨ 216 ≤ (z 197 0).toNat) ∧ (z 197 0).toNat < n ∧ 216 ≤ n ∧ g ≤ 6 ∧ T.length ≤ cpG g ∧ z 197 3 = (T.length : Int) ∧ ∃ f : Nat → Int, X (z 197 0).toNat = some (aB k (cpG g) f) ∧ (∀ j, j < cpG g → 0 ≤ f j ∧ f j < 128) ∧ ∀ j, j < T.length → f j = T.getD j 0
def eg_b (k : eg_K) (r : Option Value) (P : Nat → eg_Z → eg_M → Prop) : eg_Q := fun a n' M' => a = r ∧ ∃ z' X', M' = enc k z' X' ∧ P n' z' X'
def gI (g N : Nat) : Nat := if N ≤ cpG g then g else g + 1
theorem c_bLatin {k : eg_K} {z : eg_Z} {X : eg_M} {n : Nat} : eg_P k gJ5_isLatin1_aae02 0 0 0 [vR k 197] n (enc k z X) (eg_f (some (vI 1)) n (enc k z X)) := by
  refine eg_P.of (by decide) (Nat.le_of_ble_eq_true rfl) ?_
  show eg_E k gJ5_isLatin1_aae02 0 0 0 n (enc k z X) [vR k 197] [] 0 _
  refine eg_gcs fw_J5_18 dJ5_isLatin1_aae02_0 ?_
  refine eg_if_eq 17 dJ5_isLatin1_aae02_3 ⟨by omega, by omega⟩ rfl (fun h3 => absurd h3 (by omega)) (fun h3 => ?_)
  refine eg_al_n dJ5_isLatin1_aae02_6 rfl rfl ?_
  refine eg_get fl_J5_22 dJ5_isLatin1_aae02_7 (by exact er197) rfl ?_
  refine eg_if_ne 17 dJ5_isLatin1_aae02_10 ⟨by omega, by omega⟩ rfl (fun h10 => absurd h10 (by omega)) (fun h10 => ?_)
  refine eg_iconst dJ5_isLatin1_aae02_13 ?_
  refine eg_goto 18 dJ5_isLatin1_aae02_14 rfl ?_
  refine eg_ireturn dJ5_isLatin1_aae02_18 rfl rfl ?_
  exact ⟨congrArg (fun q => some (vI q)) (by first | rfl | (unfold bi; split <;> omega) | omega), rfl, rfl⟩
theorem c_newLength {k : eg_K} {M : eg_M} {n : Nat} {x y w : Int} (hx : 0 ≤ x ∧ x ≤ 100000) (hy : 0 < y ∧ y ≤ 100000) (hw : 0 < w ∧ w ≤ 100000) : eg_P k gJ8_newLength_cabcc 1 0 0 [vI x, vI y, vI w] n (M) (eg_f (some (vI (x + (if y < w then w else y)))) n M) := by
  refine eg_P.of (by decide) (Nat.le_of_ble_eq_true rfl) ?_
  show eg_E k gJ8_newLength_cabcc 1 0 0 n (M) [vI x, vI y, vI w, vU] [] 0 _
  have hb : 0 < (if y < w then w else y) ∧ (if y < w then w else y) ≤ 100000 := by split <;> omega
  refine eg_iload_n dJ8_newLength_cabcc_0 rfl ?_
  refine eg_iload_n dJ8_newLength_cabcc_1 rfl ?_
  refine eg_iload_n dJ8_newLength_cabcc_2 rfl ?_
  refine eg_mmax cs_J8_194 dJ8_newLength_cabcc_3 ⟨by omega, by omega⟩ ⟨by omega, by omega⟩ (Nat.le_of_ble_eq_true rfl) (by decide) ?_
  refine eg_iadd dJ8_newLength_cabcc_6 ?_
  refine eg_istore_n dJ8_newLength_cabcc_7 rfl rfl rfl ?_
  refine eg_iconst dJ8_newLength_cabcc_8 ?_
  refine eg_iload_n dJ8_newLength_cabcc_9 rfl ?_
  refine eg_icmp_ge 21 dJ8_newLength_cabcc_10 ⟨by omega, by omega⟩ ⟨by omega, by omega⟩ rfl (fun h10 => absurd h10 (by omega)) (fun h10 => ?_)
  refine eg_iload_n dJ8_newLength_cabcc_13 rfl ?_
  refine eg_ldc kw_J8_200 dJ8_newLength_cabcc_14 ?_
  refine eg_icmp_gt 21 dJ8_newLength_cabcc_16 ⟨by omega, by omega⟩ ⟨by omega, by omega⟩ rfl (fun h16 => absurd h16 (by omega)) (fun h16 => ?_)
  refine eg_iload_n dJ8_newLength_cabcc_19 rfl ?_
  refine eg_ireturn dJ8_newLength_cabcc_20 rfl rfl ?_
  exact ⟨rfl, rfl, rfl⟩
theorem c_newCap {k : eg_K} {z : eg_Z} {X : eg_M} {n : Nat} {N : Int} {cap : Nat} {f : Nat → Int} (hA : enc k z X (z 197 0).toNat = some (aB k cap f)) (hc : cap ≤ 5000) (h0 : (cap : Int) < N) (h1 : N ≤ 2 * (cap : Int) + 2) : eg_P k gJ5_newCapacity_0f7a4 2 0 0 [vR k 197, vI N] n (enc k z X) (eg_f (some (vI (2 * (cap : Int) + 2))) n (enc k z X)) := by
  refine eg_P.of (by decide) (Nat.le_of_ble_eq_true rfl) ?_
  show eg_E k gJ5_newCapacity_0f7a4 2 0 0 n (enc k z X) [vR k 197, vI N, vU, vU, vU, vU] [] 0 _
  refine eg_al_n dJ5_newCapacity_0f7a4_0 rfl rfl ?_
  refine eg_get fl_J5_15 dJ5_newCapacity_0f7a4_1 (by first | exact er197 | exact hA) rfl ?_
  refine eg_lenB dJ5_newCapacity_0f7a4_4 (by first | exact er197 | exact hA) ?_
  refine eg_istore_n dJ5_newCapacity_0f7a4_5 rfl rfl rfl ?_
  refine eg_iload_n dJ5_newCapacity_0f7a4_6 rfl ?_
  refine eg_al_n dJ5_newCapacity_0f7a4_7 rfl rfl ?_
  refine eg_get fl_J5_22 dJ5_newCapacity_0f7a4_8 (by first | exact er197 | exact hA) rfl ?_
  refine eg_ishl (j := 0) dJ5_newCapacity_0f7a4_11 (by decide) ?_
  refine eg_eqI (y := N) (by rw [Int.pow_zero]; omega) ?_
  refine eg_istore_n dJ5_newCapacity_0f7a4_12 rfl rfl rfl ?_
  refine eg_iload_n dJ5_newCapacity_0f7a4_13 rfl ?_
  refine eg_iload_n dJ5_newCapacity_0f7a4_14 rfl ?_
  refine eg_isub dJ5_newCapacity_0f7a4_15 ?_
  refine eg_istore dJ5_newCapacity_0f7a4_16 rfl rfl rfl ?_
  refine eg_iload_n dJ5_newCapacity_0f7a4_18 rfl ?_
  refine eg_iload dJ5_newCapacity_0f7a4_19 rfl ?_
  refine eg_iload_n dJ5_newCapacity_0f7a4_21 rfl ?_
  refine eg_iconst dJ5_newCapacity_0f7a4_22 ?_
  refine eg_al_n dJ5_newCapacity_0f7a4_23 rfl rfl ?_
  refine eg_get fl_J5_22 dJ5_newCapacity_0f7a4_24 (by first | exact er197 | exact hA) rfl ?_
  refine eg_ishl (j := 0) dJ5_newCapacity_0f7a4_27 (by decide) ?_
  refine eg_eqI (y := 2) (by rw [Int.pow_zero]; omega) ?_
  refine eg_iadd dJ5_newCapacity_0f7a4_28 ?_
  refine eg_Sf3 cs_J5_114 dJ5_newCapacity_0f7a4_29 (c_newLength (x := (cap : Int)) (y := N - (cap : Int)) (w := (cap : Int) + 2) ⟨by omega, by omega⟩ ⟨by omega, by omega⟩ ⟨by omega, by omega⟩) (Nat.le_of_ble_eq_true rfl) (by decide) ?_
  refine eg_eqI (y := 2 * (cap : Int) + 2) (by split <;> omega) ?_
  refine eg_istore dJ5_newCapacity_0f7a4_32 rfl rfl rfl ?_
  refine eg_iload dJ5_newCapacity_0f7a4_34 rfl ?_
  refine eg_ldc kw_J5_39 dJ5_newCapacity_0f7a4_36 ?_
  refine eg_icmp_ne 51 dJ5_newCapacity_0f7a4_38 ⟨by omega, by omega⟩ ⟨by omega, by omega⟩ rfl (fun h38 => ?_) (fun h38 => absurd h38 (by omega))
  refine eg_iload dJ5_newCapacity_0f7a4_51 rfl ?_
  refine eg_al_n dJ5_newCapacity_0f7a4_53 rfl rfl ?_
  refine eg_get fl_J5_22 dJ5_newCapacity_0f7a4_54 (by first | exact er197 | exact hA) rfl ?_
  refine eg_ishr (j := 0) dJ5_newCapacity_0f7a4_57 ⟨by omega, by omega⟩ (by decide) ?_
  refine eg_eqI (y := 2 * (cap : Int) + 2) (by rw [Int.pow_zero]; omega) ?_
  refine eg_ireturn dJ5_newCapacity_0f7a4_58 rfl rfl ?_
  exact ⟨rfl, rfl, rfl⟩
theorem by_fit {x : Int} (h : 0 ≤ x ∧ x < 128) : fits .byte (.int (Int32.ofInt x)) = true := by
  obtain ⟨m, rfl⟩ : ∃ m : Nat, x = (m : Int) := ⟨x.toNat, by omega⟩
  have h2 : m < 128 := by omega
  have : ∀ m : Nat, m < 128 → fits .byte (.int (Int32.ofInt (m : Int))) = true := by decide +kernel
  exact this m h2
theorem c_copyOf {k : eg_K} {M : eg_M} {n a len N : Nat} {f : Nat → Int} (hA : M a = some (aB k len f)) (han : a ≠ n) (h0 : len < N) (h1 : N ≤ 65536) (hf : ∀ j, j < len → 0 ≤ f j ∧ f j < 128) : eg_P k gJ7_copyOf_9075b 1 1 N [vR k a, vI (N : Int)] n M (eg_f (some (vR k n)) (n + 1) (va_up (va_up M n (some (aB k N (fun _ => 0)))) n (some (aB k N (va_cpy f (fun _ => 0) 0 0 len))))) := by
  refine eg_P.of (by decide) (Nat.le_of_ble_eq_true rfl) ?_
  show eg_E k gJ7_copyOf_9075b 1 1 N n M [vR k a, vI (N : Int), vU] [] 0 _
  have hA2 : va_up M n (some (aB k N (fun _ => 0))) a = some (aB k len f) := by rw [va_up_n _ _ han]; exact hA
  have hB2 : va_up M n (some (aB k N (fun _ => 0))) n = some (aB k N (fun _ => 0)) := va_up_s _ _ _
  refine eg_iload_n dJ7_copyOf_9075b_0 rfl ?_
  refine eg_al_n dJ7_copyOf_9075b_1 rfl rfl ?_
  refine eg_lenB dJ7_copyOf_9075b_2 (by first | exact hA | exact hA2) ?_
  refine eg_icmp_ne 14 dJ7_copyOf_9075b_3 ⟨by omega, by omega⟩ ⟨by omega, by omega⟩ rfl (fun h3 => ?_) (fun h3 => absurd h3 (by omega))
  refine eg_iload_n dJ7_copyOf_9075b_14 rfl ?_
  refine eg_nwB (bc' := 0) (bs' := 0) ka_byte dJ7_copyOf_9075b_15 rfl (by omega) rfl rfl ?_
  refine eg_as_n dJ7_copyOf_9075b_17 rfl rfl rfl rfl ?_
  refine eg_al_n dJ7_copyOf_9075b_18 rfl rfl ?_
  refine eg_iconst dJ7_copyOf_9075b_19 ?_
  refine eg_al_n dJ7_copyOf_9075b_20 rfl rfl ?_
  refine eg_iconst dJ7_copyOf_9075b_21 ?_
  refine eg_al_n dJ7_copyOf_9075b_22 rfl rfl ?_
  refine eg_lenB dJ7_copyOf_9075b_23 (by first | exact hA | exact hA2) ?_
  refine eg_iload_n dJ7_copyOf_9075b_24 rfl ?_
  refine eg_mmin cs_J7_304 dJ7_copyOf_9075b_25 ⟨by omega, by omega⟩ ⟨by omega, by omega⟩ (Nat.le_of_ble_eq_true rfl) (by decide) ?_
  refine eg_eqI (y := (len : Int)) (by rw [if_neg (by omega)]) ?_
  refine eg_acB ac_J7_150 ac_nat dJ7_copyOf_9075b_28 hA2 hB2 (show (0 : Int) = ((0 : Nat) : Int) from rfl) (show (0 : Int) = ((0 : Nat) : Int) from rfl) rfl (by omega) (by omega) (by omega) h1 (fun j hj => by_fit (by rw [Nat.zero_add]; exact hf j hj)) (Nat.le_of_ble_eq_true rfl) (by decide) ?_
  refine eg_al_n dJ7_copyOf_9075b_31 rfl rfl ?_
  refine eg_aret dJ7_copyOf_9075b_32 rfl rfl (Or.inr ⟨_, rfl⟩) ?_
  exact ⟨rfl, rfl, rfl⟩
