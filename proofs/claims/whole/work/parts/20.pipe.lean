theorem bh_m {v : eg_v} {i x y : Int} (hf : 0 ≤ gS v i 1 ∧ gS v i 1 ≤ 50) (h : x ≤ y) : bh v i x ≤ bh v i y := by
  have e1 : y * gS v i 1 = x * gS v i 1 + (y - x) * gS v i 1 := by rw [← Int.add_mul]; congr 1; omega
  have e2 : 0 ≤ (y - x) * gS v i 1 := Int.mul_nonneg (by omega) hf.1
  have e3 : (y - x) * gS v i 1 ≤ (y - x) * 50 := Int.mul_le_mul_of_nonneg_left hf.2 (by omega)
  unfold bh
  omega
theorem upF_m {v : eg_v} (hs : ∀ i : Int, 0 ≤ i → i < 7 → okS v i) : ∀ (m : Nat) (i x y : Int), 0 ≤ i → i + m ≤ 7 → x ≤ y → upF v m i x ≤ upF v m i y
  | 0, _, _, _, _, _, h => h
  | m + 1, i, x, y, h0, h1, h => upF_m hs m (i + 1) (bh v i x) (bh v i y) (by omega) (by omega) (bh_m (hs i h0 (by omega)).2 h)
theorem dnF_m {v : eg_v} (hs : ∀ i : Int, 0 ≤ i → i < 7 → okS v i) : ∀ (m : Nat) (i x y : Int), (m : Int) ≤ i + 1 → i < 7 → x ≤ y → dnF v m i x ≤ dnF v m i y
  | 0, _, _, _, _, _, h => h
  | m + 1, i, x, y, h0, h1, h => dnF_m hs m (i - 1) (bh v i x) (bh v i y) (by omega) (by omega) (bh_m (hs i (by omega) (by omega)).2 h)
theorem sLeft_m {v : eg_v} {B : Int} (hv : VV B v) {h o x y : Int} (h0 : 0 ≤ h ∧ h < v 0) (h1 : 0 ≤ o ∧ o < v 0) (hxy : x ≤ y) : sLeft v h o x ≤ sLeft v h o y := by
  have q := hv.r
  have hs : ∀ i : Int, 0 ≤ i → i < 7 → okS v i := fun i a b => hv.S a b
  unfold sLeft
  exact dnF_m hs _ _ _ _ (by omega) (by omega) (upF_m hs _ _ _ _ h0.1 (by omega) hxy)
/-- r is the least number that leaves m (-2: there is none) -/
def needR (v : eg_v) (h o m r : Int) : Prop := (r = -2 ∧ ∀ x : Int, 0 ≤ x → x ≤ 99999 → sLeft v h o x < m) ∨ (0 ≤ r ∧ r ≤ 99999 ∧ m ≤ sLeft v h o r ∧ ∀ x : Int, 0 ≤ x → x < r → sLeft v h o x < m)
theorem needR_u {v : eg_v} {h o m r r' : Int} (h1 : needR v h o m r) (h2 : needR v h o m r') : r = r' := by
  rcases h1 with ⟨a1, a2⟩ | ⟨a1, a2, a3, a4⟩ <;> rcases h2 with ⟨b1, b2⟩ | ⟨b1, b2, b3, b4⟩
  · omega
  · have := a2 r' b1 b2; omega
  · have := b2 r a1 a2; omega
  · rcases Int.lt_trichotomy r r' with h3 | h3 | h3
    · have := b4 r a1 h3; omega
    · exact h3
    · have := a4 r' b1 h3; omega
noncomputable def sNeed (v : eg_v) (h o m : Int) : Int := Classical.epsilon (fun r => needR v h o m r)
theorem sNeed_e {v : eg_v} {h o m r : Int} (h1 : needR v h o m r) : sNeed v h o m = r := needR_u (Classical.epsilon_spec (p := fun r => needR v h o m r) ⟨r, h1⟩) h1
def stp : Nat → Int
  | 0 => 0
  | e + 1 => 2 ^ e
theorem stp_h (e : Nat) : stp (e + 1) / 2 ^ 1 = stp e := by
  cases e with
  | zero => rfl
  | succ e =>
    show (2 : Int) ^ (e + 1) / 2 ^ 1 = 2 ^ e
    rw [Int.pow_succ, Int.pow_one]
    exact Int.mul_ediv_cancel _ (by decide)
theorem stp_b (e : Nat) (h : e ≤ 17) : 0 ≤ stp e ∧ stp e ≤ 65536 := by
  cases e with
  | zero => exact ⟨by decide, by decide⟩
  | succ e =>
    have h1 : (2 : Nat) ^ e ≤ 2 ^ 16 := Nat.pow_le_pow_right (by decide) (by omega)
    have h2 : stp (e + 1) = ((2 ^ e : Nat) : Int) := (Int.natCast_pow 2 e).symm
    have h3 : ((2 ^ e : Nat) : Int) ≤ ((2 ^ 16 : Nat) : Int) := Int.ofNat_le.mpr h1
    rw [h2]
    exact ⟨Int.natCast_nonneg _, h3⟩
theorem stp_p (e : Nat) : 0 < stp (e + 1) := by
  have h2 : stp (e + 1) = ((2 ^ e : Nat) : Int) := (Int.natCast_pow 2 e).symm
  have h1 : 0 < (2 : Nat) ^ e := Nat.pow_pos (by decide)
  omega
theorem stp_d (e : Nat) : (2 : Int) ^ (e + 1) = 2 ^ e + 2 ^ e := by rw [Int.pow_succ]; omega
theorem c_X2_leastFor {k : eg_K} {z : eg_Z} {X : eg_M} {n b : Nat} {v : eg_v} {B : Int} (hb : isB b = true) (hp : hP z b v) (hv : VV B v) {h o m : Int} (hh : 0 ≤ h ∧ h < v 0) (ho : 0 ≤ o ∧ o < v 0) (hm : 0 ≤ m ∧ m ≤ 99999) : eg_P k gX2_leastFor 2 0 0 [vR k b, vI h, vI o, vI m] n (enc k z X) (eg_f (some (vI (sNeed v h o m))) n (enc k z X)) := by
  refine eg_P.of (by decide) (Nat.le_of_ble_eq_true rfl) ?_
  show eg_E k gX2_leastFor 2 0 0 n (enc k z X) [vR k b, vI h, vI o, vI m, vU, vU, vU] [] 0 _
  have q := hv.r
  obtain ⟨⟨z0, z1, z2, z3⟩, ⟨c1, c3, c5, c7⟩, -⟩ := id hp
  have L : ∀ (e : Nat) (t : Int) (u : Value), e ≤ 17 → (t = -1 ∨ (0 ≤ t ∧ t ≤ 99999 ∧ sLeft v h o t < m)) → (∀ x : Int, t + 2 ^ e ≤ x → 0 ≤ x → x ≤ 99999 → m ≤ sLeft v h o x) → eg_E k gX2_leastFor 2 0 0 n (enc k z X) [vR k b, vI h, vI o, vI m, vI t, vI (stp e), u] [] 7 (eg_f (some (vI (sNeed v h o m))) n (enc k z X)) := by
    intro e
    induction e with
    | zero =>
      intro t u he i1 i2
      have e0 : (2 : Int) ^ 0 = 1 := rfl
      rw [e0] at i2
      have s0 : stp 0 = 0 := rfl
      refine eg_iload dX2_leastFor_7 rfl ?_
      refine eg_if_le 51 dX2_leastFor_9 ⟨by omega, by omega⟩ rfl (fun h9 => ?_) (fun h9 => absurd h9 (by have : stp 0 = 0 := rfl; omega))
      refine eg_iload dX2_leastFor_51 rfl ?_
      refine eg_ldc kw_X2_106 dX2_leastFor_53 ?_
      refine eg_icmp_ge 65 dX2_leastFor_55 ⟨by omega, by omega⟩ ⟨by omega, by omega⟩ rfl (fun h55 => ?_) (fun h55 => ?_)
      · refine eg_bipush dX2_leastFor_65 (by decide) ?_
        refine eg_ireturn dX2_leastFor_67 rfl rfl ?_
        refine ⟨congrArg (fun q => some (vI q)) ?_, rfl, rfl⟩
        symm
        apply sNeed_e
        first
          | exact Or.inl ⟨rfl, fun x x0 x1 => by have ht : x ≤ t := (by omega); have := sLeft_m hv hh ho ht; omega⟩
          | exact Or.inr ⟨by omega, by omega, i2 (t + 1) (by omega) (by omega) (by omega), fun x x0 x1 => by have ht : x ≤ t := (by omega); have := sLeft_m hv hh ho ht; omega⟩
      · refine eg_iload dX2_leastFor_58 rfl ?_
        refine eg_iconst dX2_leastFor_60 ?_
        refine eg_iadd dX2_leastFor_61 ?_
        refine eg_goto 67 dX2_leastFor_62 rfl ?_
        refine eg_ireturn dX2_leastFor_67 rfl rfl ?_
        refine ⟨congrArg (fun q => some (vI q)) ?_, rfl, rfl⟩
        symm
        apply sNeed_e
        first
          | exact Or.inl ⟨rfl, fun x x0 x1 => by have ht : x ≤ t := (by omega); have := sLeft_m hv hh ho ht; omega⟩
          | exact Or.inr ⟨by omega, by omega, i2 (t + 1) (by omega) (by omega) (by omega), fun x x0 x1 => by have ht : x ≤ t := (by omega); have := sLeft_m hv hh ho ht; omega⟩
    | succ e ih =>
      intro t u he i1 i2
      have sb := stp_b (e + 1) he
      have sp := stp_p e
      have sd := stp_d e
      have se : stp (e + 1) = 2 ^ e := rfl
      rw [sd, ← se] at i2
      refine eg_iload dX2_leastFor_7 rfl ?_
      refine eg_if_le 51 dX2_leastFor_9 ⟨by omega, by omega⟩ rfl (fun h9 => absurd h9 (by omega)) (fun h9 => ?_)
      refine eg_iload dX2_leastFor_12 rfl ?_
      refine eg_iload dX2_leastFor_14 rfl ?_
      refine eg_iadd dX2_leastFor_16 ?_
      refine eg_istore dX2_leastFor_17 rfl rfl rfl ?_
      refine eg_iload dX2_leastFor_19 rfl ?_
      refine eg_ldc kw_X2_106 dX2_leastFor_21 ?_
      refine eg_icmp_gt 42 dX2_leastFor_23 ⟨by omega, by omega⟩ ⟨by omega, by omega⟩ rfl (fun h23 => ?_) (fun h23 => ?_)
      · refine eg_iload dX2_leastFor_42 rfl ?_
        refine eg_iconst dX2_leastFor_44 ?_
        refine eg_ishr (j := 1) dX2_leastFor_45 ⟨by omega, by omega⟩ (by decide) ?_
        rw [stp_h]
        refine eg_istore dX2_leastFor_46 rfl rfl rfl ?_
        refine eg_goto 7 dX2_leastFor_48 rfl ?_
        refine ih _ _ (by omega) ?_ ?_
        · omega
        · intro x x1 x2 x3
          first
            | exact i2 x (by omega) x2 x3
            | (exfalso; omega)
            | (have := sLeft_m hv hh ho (show t + stp (e + 1) ≤ x by omega); omega)
      · have lb := sLeft_b hv hh ho (show 0 ≤ t + stp (e + 1) by omega)
        refine eg_al_n dX2_leastFor_26 rfl rfl ?_
        refine eg_iload_n dX2_leastFor_27 rfl ?_
        refine eg_iload_n dX2_leastFor_28 rfl ?_
        refine eg_iload dX2_leastFor_29 rfl ?_
        refine eg_Vf3 cs_X2_107 dX2_leastFor_31 (c_X2_leftOver hb hp hv hh ho (by omega)) (by first | exact ep0 hb | exact ep1 hb | exact ep3 hb | exact ep5 hb | exact ep7 hb | exact ep9 hb | exact ep10 hb | exact ep11 hb) rfl (Nat.le_of_ble_eq_true rfl) (by decide) ?_
        refine eg_iload_n dX2_leastFor_34 rfl ?_
        refine eg_icmp_ge 42 dX2_leastFor_35 ⟨by omega, by omega⟩ ⟨by omega, by omega⟩ rfl (fun h35 => ?_) (fun h35 => ?_)
        · refine eg_iload dX2_leastFor_42 rfl ?_
          refine eg_iconst dX2_leastFor_44 ?_
          refine eg_ishr (j := 1) dX2_leastFor_45 ⟨by omega, by omega⟩ (by decide) ?_
          rw [stp_h]
          refine eg_istore dX2_leastFor_46 rfl rfl rfl ?_
          refine eg_goto 7 dX2_leastFor_48 rfl ?_
          refine ih _ _ (by omega) ?_ ?_
          · omega
          · intro x x1 x2 x3
            first
              | exact i2 x (by omega) x2 x3
              | (exfalso; omega)
              | (have := sLeft_m hv hh ho (show t + stp (e + 1) ≤ x by omega); omega)
        · refine eg_iload dX2_leastFor_38 rfl ?_
          refine eg_istore dX2_leastFor_40 rfl rfl rfl ?_
          refine eg_iload dX2_leastFor_42 rfl ?_
          refine eg_iconst dX2_leastFor_44 ?_
          refine eg_ishr (j := 1) dX2_leastFor_45 ⟨by omega, by omega⟩ (by decide) ?_
          rw [stp_h]
          refine eg_istore dX2_leastFor_46 rfl rfl rfl ?_
          refine eg_goto 7 dX2_leastFor_48 rfl ?_
          refine ih _ _ (by omega) ?_ ?_
          · omega
          · intro x x1 x2 x3
            first
              | exact i2 x (by omega) x2 x3
              | (exfalso; omega)
              | (have := sLeft_m hv hh ho (show t + stp (e + 1) ≤ x by omega); omega)
  refine eg_iconst dX2_leastFor_0 ?_
  refine eg_istore dX2_leastFor_1 rfl rfl rfl ?_
  refine eg_ldc kw_X2_105 dX2_leastFor_3 ?_
  refine eg_istore dX2_leastFor_5 rfl rfl rfl ?_
  exact L 17 (-1) _ (by omega) (Or.inl rfl) (fun x x1 x2 x3 => by have e9 : (2 : Int) ^ 17 = 131072 := rfl; omega)
