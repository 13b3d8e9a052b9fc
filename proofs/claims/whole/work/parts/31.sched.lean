theorem es25 {k : eg_K} {z : eg_Z} {X : eg_M} {x : Int} : va_up (enc k z X) 25 (some (oO 5 [vR k 26, vR k 27, vR k 28, vR k 29, vR k 30, vR k 31, vR k 32, vR k 33, vI x])) = enc k (va_up z 25 (va_up (z 25) 8 x)) X := enc_st (va_up (z 25) 8 x) rfl
theorem es26 {k : eg_K} {z : eg_Z} {X : eg_M} {f : Nat → Int} : va_up (enc k z X) 26 (some (aI k 16 f)) = enc k (va_up z 26 f) X := enc_st f rfl
theorem er26 {k : eg_K} {z : eg_Z} {X : eg_M} : enc k z X 26 = some (aI k 16 (z 26)) := rfl
theorem es27 {k : eg_K} {z : eg_Z} {X : eg_M} {f : Nat → Int} : va_up (enc k z X) 27 (some (aI k 16 f)) = enc k (va_up z 27 f) X := enc_st f rfl
theorem er27 {k : eg_K} {z : eg_Z} {X : eg_M} : enc k z X 27 = some (aI k 16 (z 27)) := rfl
theorem es28 {k : eg_K} {z : eg_Z} {X : eg_M} {f : Nat → Int} : va_up (enc k z X) 28 (some (aI k 16 f)) = enc k (va_up z 28 f) X := enc_st f rfl
theorem er28 {k : eg_K} {z : eg_Z} {X : eg_M} : enc k z X 28 = some (aI k 16 (z 28)) := rfl
theorem es29 {k : eg_K} {z : eg_Z} {X : eg_M} {f : Nat → Int} : va_up (enc k z X) 29 (some (aI k 46 f)) = enc k (va_up z 29 f) X := enc_st f rfl
theorem er29 {k : eg_K} {z : eg_Z} {X : eg_M} : enc k z X 29 = some (aI k 46 (z 29)) := rfl
theorem es30 {k : eg_K} {z : eg_Z} {X : eg_M} {f : Nat → Int} : va_up (enc k z X) 30 (some (aI k 46 f)) = enc k (va_up z 30 f) X := enc_st f rfl
theorem er30 {k : eg_K} {z : eg_Z} {X : eg_M} : enc k z X 30 = some (aI k 46 (z 30)) := rfl
theorem es31 {k : eg_K} {z : eg_Z} {X : eg_M} {f : Nat → Int} : va_up (enc k z X) 31 (some (aI k 16 f)) = enc k (va_up z 31 f) X := enc_st f rfl
theorem er31 {k : eg_K} {z : eg_Z} {X : eg_M} : enc k z X 31 = some (aI k 16 (z 31)) := rfl
theorem es32 {k : eg_K} {z : eg_Z} {X : eg_M} {f : Nat → Int} : va_up (enc k z X) 32 (some (aI k 16 f)) = enc k (va_up z 32 f) X := enc_st f rfl
theorem er32 {k : eg_K} {z : eg_Z} {X : eg_M} : enc k z X 32 = some (aI k 16 (z 32)) := rfl
theorem es33 {k : eg_K} {z : eg_Z} {X : eg_M} {f : Nat → Int} : va_up (enc k z X) 33 (some (aI k 16 f)) = enc k (va_up z 33 f) X := enc_st f rfl
theorem er33 {k : eg_K} {z : eg_Z} {X : eg_M} : enc k z X 33 = some (aI k 16 (z 33)) := rfl
theorem er25 {k : eg_K} {z : eg_Z} {X : eg_M} : enc k z X 25 = some (oO 5 [vR k 26, vR k 27, vR k 28, vR k 29, vR k 30, vR k 31, vR k 32, vR k 33, vI (z 25 8)]) := rfl
/-- nothing outside the schedule has changed -/
def MdS (z z' : eg_Z) : Prop := ∀ c : Nat, (c < 25 ∨ 34 ≤ c) → z' c = z c
theorem MdS.rf {z : eg_Z} : MdS z z := fun _ _ => rfl
theorem MdS.tr {z z' z'' : eg_Z} (h : MdS z z') (h' : MdS z' z'') : MdS z z'' := fun c hc => (h' c hc).trans (h c hc)
theorem mds1 {z : eg_Z} {j : Nat} {f : Nat → Int} (hj : 25 ≤ j ∧ j < 34) : MdS z (va_up z j f) := fun c hc => va_up_n _ _ (by omega)
theorem MdS.hP {z z' : eg_Z} {b : Nat} {v : eg_v} (h : MdS z z') (hb : isB b = true) (h2 : hP z b v) : hP z' b v := by
  refine hP_c h2 (fun j hj => h _ ?_)
  have h1 := isB_s b (isB_lt hb)
  simp [hb] at h1
  omega
theorem MdS.cell {z z' : eg_Z} {b j : Nat} (h : MdS z z') (hb : isB b = true) (hj : j < 12) : z' (b + j) = z (b + j) := by
  refine h _ ?_
  have h1 := isB_s b (isB_lt hb)
  simp [hb] at h1
  omega
/-- who goes by a stop, as bits -/
def gm (v : eg_v) (c : Int) : Nat → Nat
  | 0 => 0
  | m + 1 => gm v c m + (if gb v m c = true then 2 ^ m else 0)
theorem gm_lt (v : eg_v) (c : Int) : ∀ m : Nat, gm v c m < 2 ^ m
  | 0 => by show 0 < 2 ^ 0; decide
  | m + 1 => by
    have h := gm_lt v c m
    show gm v c m + _ < 2 ^ (m + 1)
    rw [Nat.pow_succ]
    split <;> omega
theorem gm_bit (v : eg_v) (c : Int) : ∀ (m i : Nat), i < m → (gm v c m).testBit i = gb v i c
  | 0, i, h => by omega
  | m + 1, i, h => by
    have hl := gm_lt v c m
    show (gm v c m + _).testBit i = _
    by_cases hg : gb v m c = true
    · rw [if_pos hg, Nat.add_comm]
      by_cases hi : i = m
      · subst hi
        rw [Nat.testBit_two_pow_add_eq, Nat.testBit_lt_two_pow hl, hg]
        rfl
      · rw [Nat.testBit_two_pow_add_gt (by omega)]
        exact gm_bit v c m i (by omega)
    · rw [if_neg hg, Nat.add_zero]
      by_cases hi : i = m
      · subst hi
        rw [Nat.testBit_lt_two_pow hl]
        simpa using hg
      · exact gm_bit v c m i (by omega)
theorem gm_and (v : eg_v) (c : Int) {m i : Nat} (h : i < m) : (gm v c m &&& 2 ^ i : Nat) = if gb v i c = true then 2 ^ i else 0 := by
  apply Nat.eq_of_testBit_eq
  intro j
  rw [Nat.testBit_and, Nat.testBit_two_pow]
  by_cases hj : i = j
  · subst hj
    rw [gm_bit v c m i h]
    by_cases hg : gb v i c = true
    · rw [if_pos hg, hg, Nat.testBit_two_pow]; simp
    · rw [if_neg hg]; simp at hg; rw [hg]; simp
  · by_cases hg : gb v i c = true
    · rw [if_pos hg, Nat.testBit_two_pow]; simp [hj]
    · rw [if_neg hg]; simp [hj]
theorem gm_0 (v : eg_v) (c : Int) : ∀ (m : Nat), gm v c m = 0 → ∀ i : Nat, i < m → gb v i c = false := by
  intro m h i hi
  have := gm_bit v c m i hi
  rw [h, Nat.zero_testBit] at this
  exact this.symm
theorem pw (q : Nat) : ((2 ^ q : Nat) : Int) = 2 ^ q := Int.natCast_pow 2 q
theorem pw_lt {q : Nat} (h : q < 16) : (2 : Nat) ^ q ≤ 32768 := Nat.pow_le_pow_right (n := 2) (by decide) (show q ≤ 15 by omega)
theorem c_X4_mark {k : eg_K} {z : eg_Z} {X : eg_M} {n : Nat} {s : Int} {a j : Nat} (hs : 0 ≤ s ∧ s < 46) (hj : j < 16) (ha : z 30 s.toNat = (a : Int)) (hl : a < 2 ^ j) : eg_P k gX4_mark 0 0 0 [vR k 25, vI s, vI ((2 ^ j : Nat) : Int)] n (enc k z X) (eg_p k none n X (fun z' => (∀ c, c ≠ 30 → z' c = z c) ∧ z' 30 = va_up (z 30) s.toNat ((a + 2 ^ j : Nat) : Int))) := by
  refine eg_P.of (by decide) (Nat.le_of_ble_eq_true rfl) ?_
  show eg_E k gX4_mark 0 0 0 n (enc k z X) [vR k 25, vI s, vI ((2 ^ j : Nat) : Int)] [] 0 _
  have hp := pw_lt hj
  refine eg_iload_n dX4_mark_0 rfl ?_
  refine eg_if_lt 20 dX4_mark_1 ⟨by omega, by omega⟩ rfl (fun h1 => absurd h1 (by omega)) (fun h1 => ?_)
  refine eg_iload_n dX4_mark_4 rfl ?_
  refine eg_bipush dX4_mark_5 (by decide) ?_
  refine eg_icmp_ge 20 dX4_mark_7 ⟨by omega, by omega⟩ ⟨by omega, by omega⟩ rfl (fun h7 => absurd h7 (by omega)) (fun h7 => ?_)
  refine eg_al_n dX4_mark_10 rfl rfl ?_
  refine eg_get fl_X4_24 dX4_mark_11 (by first | exact er25 | exact er30) rfl ?_
  refine eg_iload_n dX4_mark_14 rfl ?_
  refine eg_dup2 dX4_mark_15 rfl rfl ?_
  refine eg_iald dX4_mark_16 (by first | exact er25 | exact er30) (by omega) (by omega) (by decide) ?_
  refine eg_iload_n dX4_mark_17 rfl ?_
  rw [ha]
  refine eg_orN dX4_mark_18 (by omega) (by omega) ?_
  refine eg_iast dX4_mark_19 (by first | exact er25 | exact er30) (by omega) (by omega) (by decide) ?_
  refine eg_eqM (es30) ?_
  refine eg_return dX4_mark_20 rfl ?_
  refine ⟨rfl, rfl, _, rfl, fun c hc => va_up_n _ _ hc, ?_⟩
  rw [va_up_s]
  congr 1
  have e9 : (a ||| 2 ^ j : Nat) = 2 ^ j + a := by rw [Nat.or_comm]; have := Nat.two_pow_add_eq_or_of_lt hl 1; rw [Nat.mul_one] at this; exact this.symm
  omega
theorem c_markSegX {k : eg_K} {z : eg_Z} {X : eg_M} {n : Nat} {h o : Int} {a : Nat → Nat} {j : Nat} (hh : 0 ≤ h ∧ h < 8) (ho : 0 ≤ o ∧ o < 8) (hj : j < 16) (ha : ∀ c : Nat, c < 46 → z 30 c = (a c : Int)) (hl : ∀ c, 10 ≤ c → c < 24 → a c < 2 ^ j) : eg_P k gX4_markSegments 1 0 0 [vR k 25, vI h, vI o, vI ((2 ^ j : Nat) : Int)] n (enc k z X) (eg_p k none n X (fun z' => (∀ c, c ≠ 30 → z' c = z c) ∧ ∀ c : Nat, c < 46 → z' 30 c = ((a c + (if (10 ≤ c ∧ c < 17 ∧ h ≤ (c : Int) - 10 ∧ (c : Int) - 10 < o) ∨ (17 ≤ c ∧ c < 24 ∧ o ≤ (c : Int) - 17 ∧ (c : Int) - 17 < h) then 2 ^ j else 0) : Nat) : Int))) := by
  refine eg_P.of (by decide) (Nat.le_of_ble_eq_true rfl) ?_
  show eg_E k gX4_markSegments 1 0 0 n (enc k z X) [vR k 25, vI h, vI o, vI ((2 ^ j : Nat) : Int), vU] [] 0 _
  have hp := pw_lt hj
  have L2 : ∀ (m : Nat) (i : Int) (y : eg_Z), o ≤ i → i ≤ 7 → (i ≤ h ∨ i = o) → (∀ c, c ≠ 30 → y c = z c) → (∀ c : Nat, c < 46 → y 30 c = ((a c + (if (10 ≤ c ∧ c < 17 ∧ h ≤ (c : Int) - 10 ∧ (c : Int) - 10 < o) ∨ (17 ≤ c ∧ c < 24 ∧ o ≤ (c : Int) - 17 ∧ (c : Int) - 17 < i) then 2 ^ j else 0) : Nat) : Int)) → (h - i).toNat < m → eg_E k gX4_markSegments 1 0 0 n (enc k y X) [vR k 25, vI h, vI o, vI ((2 ^ j : Nat) : Int), vI i] [] 28 (eg_p k none n X (fun z' => (∀ c, c ≠ 30 → z' c = z c) ∧ ∀ c : Nat, c < 46 → z' 30 c = ((a c + (if (10 ≤ c ∧ c < 17 ∧ h ≤ (c : Int) - 10 ∧ (c : Int) - 10 < o) ∨ (17 ≤ c ∧ c < 24 ∧ o ≤ (c : Int) - 17 ∧ (c : Int) - 17 < h) then 2 ^ j else 0) : Nat) : Int))) := by
    intro m
    induction m with
    | zero => intro i y h0 h7 h1 hy hk hmm; exfalso; omega
    | succ m ih =>
      intro i y h0 h7 h1 hy hk hmm
      refine eg_iload dX4_markSegments_28 rfl ?_
      refine eg_iload_n dX4_markSegments_30 rfl ?_
      refine eg_icmp_ge 50 dX4_markSegments_31 ⟨by omega, by omega⟩ ⟨by omega, by omega⟩ rfl (fun h31 => ?_) (fun h31 => ?_)
      · refine eg_return dX4_markSegments_50 rfl ?_
        refine ⟨rfl, rfl, y, rfl, hy, fun c hc => ?_⟩
        rw [hk c hc]
        congr 2
        by_cases hq : (10 ≤ c ∧ c < 17 ∧ h ≤ (c : Int) - 10 ∧ (c : Int) - 10 < o) ∨ (17 ≤ c ∧ c < 24 ∧ o ≤ (c : Int) - 17 ∧ (c : Int) - 17 < i)
        · rw [if_pos hq, if_pos (by omega)]
        · rw [if_neg hq, if_neg (by omega)]
      · refine eg_al_n dX4_markSegments_34 rfl rfl ?_
        refine eg_bipush dX4_markSegments_35 (by decide) ?_
        refine eg_iload dX4_markSegments_37 rfl ?_
        refine eg_iadd dX4_markSegments_39 ?_
        refine eg_iload_n dX4_markSegments_40 rfl ?_
        refine eg_Vpv2 cs_X4_102 dX4_markSegments_41 (c_X4_mark (a := a (17 + i).toNat) ⟨by omega, by omega⟩ hj (by rw [hk _ (by omega), if_neg (by omega)]; rfl) (hl _ (by omega) (by omega))) (by exact er25) rfl (Nat.le_of_ble_eq_true rfl) (by decide) ?_
        rintro y1 ⟨n1, k1⟩
        refine eg_iinc dX4_markSegments_44 rfl rfl rfl ?_
        refine eg_goto 28 dX4_markSegments_47 rfl ?_
        refine ih (i + 1) y1 (by omega) (by omega) (by omega) (fun c hc => (n1 c hc).trans (hy c hc)) (fun c hc => ?_) (by omega)
        rw [k1]
        by_cases hci : c = (17 + i).toNat
        · subst hci; rw [va_up_s, if_pos (by omega)]
        · rw [va_up_n _ _ hci, hk c hc]
          congr 2
          by_cases hq : (10 ≤ c ∧ c < 17 ∧ h ≤ (c : Int) - 10 ∧ (c : Int) - 10 < o) ∨ (17 ≤ c ∧ c < 24 ∧ o ≤ (c : Int) - 17 ∧ (c : Int) - 17 < i)
          · rw [if_pos hq, if_pos (by omega)]
          · rw [if_neg hq, if_neg (by omega)]
  have L1 : ∀ (m : Nat) (i : Int) (y : eg_Z), h ≤ i → i ≤ 7 → (i ≤ o ∨ i = h) → (∀ c, c ≠ 30 → y c = z c) → (∀ c : Nat, c < 46 → y 30 c = ((a c + (if (10 ≤ c ∧ c < 17 ∧ h ≤ (c : Int) - 10 ∧ (c : Int) - 10 < i) then 2 ^ j else 0) : Nat) : Int)) → (o - i).toNat < m → eg_E k gX4_markSegments 1 0 0 n (enc k y X) [vR k 25, vI h, vI o, vI ((2 ^ j : Nat) : Int), vI i] [] 3 (eg_p k none n X (fun z' => (∀ c, c ≠ 30 → z' c = z c) ∧ ∀ c : Nat, c < 46 → z' 30 c = ((a c + (if (10 ≤ c ∧ c < 17 ∧ h ≤ (c : Int) - 10 ∧ (c : Int) - 10 < o) ∨ (17 ≤ c ∧ c < 24 ∧ o ≤ (c : Int) - 17 ∧ (c : Int) - 17 < h) then 2 ^ j else 0) : Nat) : Int))) := by
    intro m
    induction m with
    | zero => intro i y h0 h7 h1 hy hk hmm; exfalso; omega
    | succ m ih =>
      intro i y h0 h7 h1 hy hk hmm
      refine eg_iload dX4_markSegments_3 rfl ?_
      refine eg_iload_n dX4_markSegments_5 rfl ?_
      refine eg_icmp_ge 25 dX4_markSegments_6 ⟨by omega, by omega⟩ ⟨by omega, by omega⟩ rfl (fun h6 => ?_) (fun h6 => ?_)
      · refine eg_iload_n dX4_markSegments_25 rfl ?_
        refine eg_istore dX4_markSegments_26 rfl rfl rfl ?_
        refine L2 8 o y (by omega) (by omega) (by omega) hy (fun c hc => ?_) (by omega)
        rw [hk c hc]
        congr 2
        by_cases hq : (10 ≤ c ∧ c < 17 ∧ h ≤ (c : Int) - 10 ∧ (c : Int) - 10 < i)
        · rw [if_pos hq, if_pos (by omega)]
        · rw [if_neg hq, if_neg (by omega)]
      · refine eg_al_n dX4_markSegments_9 rfl rfl ?_
        refine eg_bipush dX4_markSegments_10 (by decide) ?_
        refine eg_iload dX4_markSegments_12 rfl ?_
        refine eg_iadd dX4_markSegments_14 ?_
        refine eg_iload_n dX4_markSegments_15 rfl ?_
        refine eg_Vpv2 cs_X4_102 dX4_markSegments_16 (c_X4_mark (a := a (10 + i).toNat) ⟨by omega, by omega⟩ hj (by rw [hk _ (by omega), if_neg (by omega)]; rfl) (hl _ (by omega) (by omega))) (by exact er25) rfl (Nat.le_of_ble_eq_true rfl) (by decide) ?_
        rintro y1 ⟨n1, k1⟩
        refine eg_iinc dX4_markSegments_19 rfl rfl rfl ?_
        refine eg_goto 3 dX4_markSegments_22 rfl ?_
        refine ih (i + 1) y1 (by omega) (by omega) (by omega) (fun c hc => (n1 c hc).trans (hy c hc)) (fun c hc => ?_) (by omega)
        rw [k1]
        by_cases hci : c = (10 + i).toNat
        · subst hci; rw [va_up_s, if_pos (by omega)]
        · rw [va_up_n _ _ hci, hk c hc]
          congr 2
          by_cases hq : (10 ≤ c ∧ c < 17 ∧ h ≤ (c : Int) - 10 ∧ (c : Int) - 10 < i)
          · rw [if_pos hq, if_pos (by omega)]
          · rw [if_neg hq, if_neg (by omega)]
  refine eg_iload_n dX4_markSegments_0 rfl ?_
  refine eg_istore dX4_markSegments_1 rfl rfl rfl ?_
  refine L1 8 h z (by omega) (by omega) (by omega) (fun _ _ => rfl) (fun c hc => ?_) (by omega)
  rw [ha c hc, if_neg (by omega)]
  rfl
