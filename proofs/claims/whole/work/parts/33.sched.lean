theorem c_X4_codeOf {k : eg_K} {M : eg_M} {n : Nat} {c : Int} (hc : 0 ≤ c ∧ c < 46) : eg_P k gX4_codeOf 0 0 0 [vI c] n (M) (eg_f (some (vI (cdC c))) n (M)) := by
  refine eg_P.of (by decide) (Nat.le_of_ble_eq_true rfl) ?_
  show eg_E k gX4_codeOf 0 0 0 n (M) [vI c] [] 0 _
  refine eg_iload_n dX4_codeOf_0 rfl ?_
  refine eg_bipush dX4_codeOf_1 (by decide) ?_
  refine eg_icmp_ge 9 dX4_codeOf_3 ⟨by omega, by omega⟩ ⟨by omega, by omega⟩ rfl (fun h3 => ?_) (fun h3 => ?_)
  · refine eg_iload_n dX4_codeOf_9 rfl ?_
    refine eg_bipush dX4_codeOf_10 (by decide) ?_
    refine eg_icmp_ge 24 dX4_codeOf_12 ⟨by omega, by omega⟩ ⟨by omega, by omega⟩ rfl (fun h12 => ?_) (fun h12 => ?_)
    · refine eg_iload_n dX4_codeOf_24 rfl ?_
      refine eg_bipush dX4_codeOf_25 (by decide) ?_
      refine eg_icmp_ge 39 dX4_codeOf_27 ⟨by omega, by omega⟩ ⟨by omega, by omega⟩ rfl (fun h27 => ?_) (fun h27 => ?_)
      · refine eg_iload_n dX4_codeOf_39 rfl ?_
        refine eg_bipush dX4_codeOf_40 (by decide) ?_
        refine eg_icmp_ge 51 dX4_codeOf_42 ⟨by omega, by omega⟩ ⟨by omega, by omega⟩ rfl (fun h42 => ?_) (fun h42 => ?_)
        · refine eg_sipush dX4_codeOf_51 (by decide) ?_
          refine eg_ireturn dX4_codeOf_54 rfl rfl ?_
          exact ⟨congrArg (fun q => some (vI q)) (by unfold cdC; repeat (first | rw [if_pos (by omega)] | rw [if_neg (by omega)])), rfl, rfl⟩
        · refine eg_sipush dX4_codeOf_45 (by decide) ?_
          refine eg_goto 54 dX4_codeOf_48 rfl ?_
          refine eg_ireturn dX4_codeOf_54 rfl rfl ?_
          exact ⟨congrArg (fun q => some (vI q)) (by unfold cdC; repeat (first | rw [if_pos (by omega)] | rw [if_neg (by omega)])), rfl, rfl⟩
      · refine eg_sipush dX4_codeOf_30 (by decide) ?_
        refine eg_iload_n dX4_codeOf_33 rfl ?_
        refine eg_iadd dX4_codeOf_34 ?_
        refine eg_bipush dX4_codeOf_35 (by decide) ?_
        refine eg_isub dX4_codeOf_37 ?_
        refine eg_ireturn dX4_codeOf_38 rfl rfl ?_
        exact ⟨congrArg (fun q => some (vI q)) (by unfold cdC; repeat (first | rw [if_pos (by omega)] | rw [if_neg (by omega)])), rfl, rfl⟩
    · refine eg_sipush dX4_codeOf_15 (by decide) ?_
      refine eg_iload_n dX4_codeOf_18 rfl ?_
      refine eg_iadd dX4_codeOf_19 ?_
      refine eg_bipush dX4_codeOf_20 (by decide) ?_
      refine eg_isub dX4_codeOf_22 ?_
      refine eg_ireturn dX4_codeOf_23 rfl rfl ?_
      exact ⟨congrArg (fun q => some (vI q)) (by unfold cdC; repeat (first | rw [if_pos (by omega)] | rw [if_neg (by omega)])), rfl, rfl⟩
  · refine eg_bipush dX4_codeOf_6 (by decide) ?_
    refine eg_ireturn dX4_codeOf_8 rfl rfl ?_
    exact ⟨congrArg (fun q => some (vI q)) (by unfold cdC; repeat (first | rw [if_pos (by omega)] | rw [if_neg (by omega)])), rfl, rfl⟩
theorem pw16 {q : Nat} (h : q ≤ 16) : (2 : Nat) ^ q ≤ 65536 := Nat.pow_le_pow_right (n := 2) (by decide) h
theorem c_X4_together {k : eg_K} {z : eg_Z} {X : eg_M} {n : Nat} {v : eg_v} {B c : Int} (hv : VV B v) (hm : z 25 8 = v 3) (hk : okp v (fun q : Int => z 32 q.toNat)) : eg_P k gX4_together 0 0 0 [vR k 25, vI (gm v c (v 3).toNat : Int)] n (enc k z X) (eg_f (some (vI (tg v c (fun q : Int => z 32 q.toNat)))) n (enc k z X)) := by
  refine eg_P.of (by decide) (Nat.le_of_ble_eq_true rfl) ?_
  show eg_E k gX4_together 0 0 0 n (enc k z X) [vR k 25, vI (gm v c (v 3).toNat : Int), vU, vU] [] 0 _
  obtain ⟨-, -, -, q3, -⟩ := hv.r
  by_cases hz : gm v c (v 3).toNat = 0
  · rw [hz]
    refine eg_iconst dX4_together_0 ?_
    refine eg_istore_n dX4_together_1 rfl rfl rfl ?_
    refine eg_iconst dX4_together_2 ?_
    refine eg_istore_n dX4_together_3 rfl rfl rfl ?_
    refine eg_iload_n dX4_together_4 rfl ?_
    refine eg_if_eq 39 dX4_together_5 ⟨by omega, by omega⟩ rfl (fun h5 => ?_) (fun h5 => absurd h5 (by decide))
    refine eg_iload_n dX4_together_39 rfl ?_
    refine eg_ireturn dX4_together_40 rfl rfl ?_
    refine ⟨congrArg (fun q => some (vI q)) ?_, rfl, rfl⟩
    have e0 : tg v c (fun q : Int => z 32 q.toNat) = sm (fun _ => 0) (v 3).toNat := sm_c (fun i h0 h1 => by unfold tgF; rw [if_neg]; have := gm_0 v c _ hz i.toNat (by omega); rw [Int.toNat_of_nonneg h0] at this; rw [this]; decide)
    rw [e0]
    have e : ∀ m, sm (fun _ => 0) m = 0 := by intro m; induction m with
      | zero => rfl
      | succ m ih => show sm (fun _ => 0) m + 0 = 0; omega
    exact (e _).symm
  have hz2 : ((gm v c (v 3).toNat : Nat) : Int) ≠ 0 := by omega
  have L : ∀ (m : Nat) (i s : Int), 0 ≤ i → i ≤ v 3 → s = sm (tgF v c (fun q : Int => z 32 q.toNat)) i.toNat → v 3 - i < (m : Int) → eg_E k gX4_together 0 0 0 n (enc k z X) [vR k 25, vI (gm v c (v 3).toNat : Int), vI s, vI i] [] 4 (eg_f (some (vI (tg v c (fun q : Int => z 32 q.toNat)))) n (enc k z X)) := by
    intro m
    induction m with
    | zero => intro i s h0 h1 hs hmm; exfalso; omega
    | succ m ih =>
      intro i s h0 h1 hs hmm
      obtain ⟨j, rfl⟩ : ∃ j : Nat, i = j := ⟨i.toNat, by omega⟩
      have gl := gm_lt v c (v 3).toNat
      have g16 := pw16 (q := (v 3).toNat) (by omega)
      refine eg_iload_n dX4_together_4 rfl ?_
      refine eg_if_eq 39 dX4_together_5 ⟨by omega, by omega⟩ rfl (fun h5 => absurd h5 (by omega)) (fun h5 => ?_)
      refine eg_iload_n dX4_together_8 rfl ?_
      refine eg_al_n dX4_together_9 rfl rfl ?_
      refine eg_get fl_X4_36 dX4_together_10 (by first | exact er25 | exact er28 | exact er29 | exact er30 | exact er32 | exact er33) rfl ?_
      rw [hm]
      refine eg_icmp_ge 39 dX4_together_13 ⟨by omega, by omega⟩ ⟨by omega, by omega⟩ rfl (fun h13 => ?_) (fun h13 => ?_)
      · refine eg_iload_n dX4_together_39 rfl ?_
        refine eg_ireturn dX4_together_40 rfl rfl ?_
        have e9 : (j : Int).toNat = (v 3).toNat := by omega
        rw [e9] at hs
        exact ⟨congrArg (fun q => some (vI q)) hs, rfl, rfl⟩
      · refine eg_iload_n dX4_together_16 rfl ?_
        refine eg_iconst dX4_together_17 ?_
        refine eg_iload_n dX4_together_18 rfl ?_
        refine eg_ishl (j := j) dX4_together_19 (by omega) ?_
        refine eg_eqI (show (1 : Int) * 2 ^ j = ((2 ^ j : Nat) : Int) by rw [Int.one_mul, pw]) ?_
        have p2 := pw_lt (q := j) (by omega)
        refine eg_andN dX4_together_20 (by have := gm_lt v c (v 3).toNat; have := pw16 (q := (v 3).toNat) (by omega); omega) (by omega) ?_
        rw [gm_and v c (show j < (v 3).toNat by omega)]
        by_cases hg : gb v j c = true
        · rw [if_pos hg]
          have p3 : 0 < (2 : Nat) ^ j := Nat.pow_pos (by decide)
          refine eg_if_eq 33 dX4_together_21 ⟨by omega, by omega⟩ rfl (fun h9 => absurd h9 (by omega)) (fun _ => ?_)
          refine eg_iload_n dX4_together_24 rfl ?_
          refine eg_al_n dX4_together_25 rfl rfl ?_
          refine eg_get fl_X4_30 dX4_together_26 (by first | exact er25 | exact er28 | exact er29 | exact er30 | exact er32 | exact er33) rfl ?_
          refine eg_iload_n dX4_together_29 rfl ?_
          refine eg_iald dX4_together_30 (by first | exact er25 | exact er28 | exact er29 | exact er30 | exact er32 | exact er33) (by omega) (by omega) (by decide) ?_
          refine eg_iadd dX4_together_31 ?_
          refine eg_istore_n dX4_together_32 rfl rfl rfl ?_
          refine eg_iinc dX4_together_33 rfl rfl rfl ?_
          refine eg_goto 4 dX4_together_36 rfl ?_
          refine ih ((j : Int) + 1) _ (by omega) (by omega) ?_ (by omega)
          rw [sm_s _ (by omega), ← hs]
          unfold tgF
          rw [if_pos hg]
        · rw [if_neg hg]
          refine eg_if_eq 33 dX4_together_21 ⟨by decide, by decide⟩ rfl (fun _ => ?_) (fun h9 => absurd rfl h9)
          refine eg_iinc dX4_together_33 rfl rfl rfl ?_
          refine eg_goto 4 dX4_together_36 rfl ?_
          refine ih ((j : Int) + 1) _ (by omega) (by omega) ?_ (by omega)
          rw [sm_s _ (by omega), ← hs]
          unfold tgF
          rw [if_neg hg]; omega
  refine eg_iconst dX4_together_0 ?_
  refine eg_istore_n dX4_together_1 rfl rfl rfl ?_
  refine eg_iconst dX4_together_2 ?_
  refine eg_istore_n dX4_together_3 rfl rfl rfl ?_
  exact L 17 0 0 (by omega) (by omega) rfl (by omega)
set_option maxHeartbeats 600000 in
theorem c_X4_squeeze {k : eg_K} {z : eg_Z} {X : eg_M} {n : Nat} {v : eg_v} {B c : Int} (hv : VV B v) (hm : z 25 8 = v 3) (hk : okp v (fun q : Int => z 32 q.toNat)) (hc : 0 ≤ c ∧ c < 46) (hg0 : z 30 c.toNat = (gm v c (v 3).toNat : Int)) (hl : 0 ≤ z 29 c.toNat ∧ z 29 c.toNat ≤ 19998) (hcu : ∀ q : Int, 0 ≤ q → q < v 3 → -2 ≤ z 28 q.toNat ∧ z 28 q.toNat ≤ 600) : eg_P k gX4_squeeze 1 0 0 [vR k 25, vI c] n (enc k z X) (eg_p k none n X (fun z' => (∀ d, d ≠ 28 → d ≠ 32 → d ≠ 33 → z' d = z d) ∧ ∀ q : Int, 0 ≤ q → q < v 3 → z' 32 q.toNat = sqP v c (z 29 c.toNat) (fun q : Int => z 32 q.toNat) q ∧ z' 28 q.toNat = sqC v c (z 29 c.toNat) (fun q : Int => z 32 q.toNat) (fun q : Int => z 28 q.toNat) q)) := by
  refine eg_P.of (by decide) (Nat.le_of_ble_eq_true rfl) ?_
  show eg_E k gX4_squeeze 1 0 0 n (enc k z X) [vR k 25, vI c, vU, vU, vU, vU] [] 0 _
  obtain ⟨-, -, -, q3, -⟩ := hv.r
  have tb := tg_b (c := c) hk
  refine eg_al_n dX4_squeeze_0 rfl rfl ?_
  refine eg_get fl_X4_24 dX4_squeeze_1 (by first | exact er25 | exact er28 | exact er29 | exact er30 | exact er32 | exact er33) rfl ?_
  refine eg_iload_n dX4_squeeze_4 rfl ?_
  refine eg_iald dX4_squeeze_5 (by first | exact er25 | exact er28 | exact er29 | exact er30 | exact er32 | exact er33) (by omega) (by omega) (by decide) ?_
  rw [hg0]
  refine eg_istore_n dX4_squeeze_6 rfl rfl rfl ?_
  refine eg_al_n dX4_squeeze_7 rfl rfl ?_
  refine eg_iload_n dX4_squeeze_8 rfl ?_
  refine eg_Vf1 cs_X4_122 dX4_squeeze_9 (c_X4_together hv hm hk) (by first | exact er25 | exact er28 | exact er29 | exact er30 | exact er32 | exact er33) rfl (Nat.le_of_ble_eq_true rfl) (by decide) ?_
  refine eg_istore_n dX4_squeeze_12 rfl rfl rfl ?_
  refine eg_iload_n dX4_squeeze_13 rfl ?_
  refine eg_if_le 27 dX4_squeeze_14 ⟨by omega, by omega⟩ rfl (fun h14 => ?_) (fun h14 => ?_)
  · refine eg_return dX4_squeeze_27 rfl ?_
    refine ⟨rfl, rfl, z, rfl, fun _ _ _ _ => rfl, fun q g0 g1 => ?_⟩
    have e1 : sqP v c (z 29 c.toNat) (fun q : Int => z 32 q.toNat) q = z 32 q.toNat := by unfold sqP; rw [if_pos (by omega)]
    refine ⟨e1.symm, ?_⟩
    unfold sqC
    rw [e1]
    exact (if_neg (fun h => absurd h.1 (Int.lt_irrefl _))).symm
  · refine eg_iload_n dX4_squeeze_17 rfl ?_
    refine eg_al_n dX4_squeeze_18 rfl rfl ?_
    refine eg_get fl_X4_21 dX4_squeeze_19 (by first | exact er25 | exact er28 | exact er29 | exact er30 | exact er32 | exact er33) rfl ?_
    refine eg_iload_n dX4_squeeze_22 rfl ?_
    refine eg_iald dX4_squeeze_23 (by first | exact er25 | exact er28 | exact er29 | exact er30 | exact er32 | exact er33) (by omega) (by omega) (by decide) ?_
    refine eg_icmp_gt 28 dX4_squeeze_24 ⟨by omega, by omega⟩ ⟨by omega, by omega⟩ rfl (fun h24 => ?_) (fun h24 => ?_)
    · have ht : (z 29 c.toNat) < tg v c (fun q : Int => z 32 q.toNat) := by omega
      have o0 : 0 ≤ ov v c (z 29 c.toNat) (fun q : Int => z 32 q.toNat) 0 := by have := sqt hk hl.1 ht; show 0 ≤ (z 29 c.toNat) - _; omega
      have o1 : ov v c (z 29 c.toNat) (fun q : Int => z 32 q.toNat) 0 ≤ 19998 := by have h9 : 0 ≤ tg v c (qt v c (z 29 c.toNat) (fun q : Int => z 32 q.toNat)) := (tg_b (fun q g0 g1 => by have a1 : 0 ≤ qt v c (z 29 c.toNat) (fun q : Int => z 32 q.toNat) q ∧ qt v c (z 29 c.toNat) (fun q : Int => z 32 q.toNat) q ≤ z 32 q.toNat := qt_b hk hl.1 ht (q := q) g0 g1; have a2 : 0 ≤ z 32 q.toNat ∧ z 32 q.toNat ≤ 9999 := hk q g0 g1; omega)).1; show (z 29 c.toNat) - tg v c (qt v c (z 29 c.toNat) (fun q : Int => z 32 q.toNat)) ≤ _; omega
      have L2 : ∀ (m : Nat) (i : Int) (y : eg_Z), 0 ≤ i → i ≤ v 3 → (∀ d, d ≠ 28 → d ≠ 32 → d ≠ 33 → y d = z d) → (∀ q : Int, 0 ≤ q → q < v 3 → y 33 q.toNat = z 32 q.toNat ∧ y 32 q.toNat = (if q < i then sqP v c (z 29 c.toNat) (fun q : Int => z 32 q.toNat) q else qt v c (z 29 c.toNat) (fun q : Int => z 32 q.toNat) q) ∧ y 28 q.toNat = (if q < i then sqC v c (z 29 c.toNat) (fun q : Int => z 32 q.toNat) (fun q : Int => z 28 q.toNat) q else z 28 q.toNat)) → v 3 - i < (m : Int) → eg_E k gX4_squeeze 1 0 0 n (enc k y X) [vR k 25, vI c, vI (gm v c (v 3).toNat : Int), vI (tg v c (fun q : Int => z 32 q.toNat)), vI (ov v c (z 29 c.toNat) (fun q : Int => z 32 q.toNat) i.toNat), vI i] [] 115 (eg_p k none n X (fun z' => (∀ d, d ≠ 28 → d ≠ 32 → d ≠ 33 → z' d = z d) ∧ ∀ q : Int, 0 ≤ q → q < v 3 → z' 32 q.toNat = sqP v c (z 29 c.toNat) (fun q : Int => z 32 q.toNat) q ∧ z' 28 q.toNat = sqC v c (z 29 c.toNat) (fun q : Int => z 32 q.toNat) (fun q : Int => z 28 q.toNat) q)) := by
        intro m
        induction m with
        | zero => intro i y h0 h1 hy hi hmm; exfalso; omega
        | succ m ih =>
          intro i y h0 h1 hy hi hmm
          have my : y 25 8 = v 3 := by rw [hy _ (by decide) (by decide) (by decide)]; exact hm
          have obi := ov_b o0 i.toNat
          refine eg_iload dX4_squeeze_115 rfl ?_
          refine eg_al_n dX4_squeeze_117 rfl rfl ?_
          refine eg_get fl_X4_36 dX4_squeeze_118 (by first | exact er25 | exact er28 | exact er29 | exact er30 | exact er32 | exact er33) rfl ?_
          rw [my]
          refine eg_icmp_ge 206 dX4_squeeze_121 ⟨by omega, by omega⟩ ⟨by omega, by omega⟩ rfl (fun h121 => ?_) (fun h121 => ?_)
          · refine eg_return dX4_squeeze_206 rfl ?_
            have e9 : i = v 3 := by omega
            refine ⟨rfl, rfl, y, rfl, hy, fun q g0 g1 => ?_⟩
            obtain ⟨j1, j2, j3⟩ := hi q g0 g1
            rw [if_pos (by omega)] at j2 j3
            exact ⟨j2, j3⟩
          · have b1 : 0 ≤ z 32 i.toNat ∧ z 32 i.toNat ≤ 9999 := hk i h0 h121
            have b2 : 0 ≤ qt v c (z 29 c.toNat) (fun q : Int => z 32 q.toNat) i ∧ qt v c (z 29 c.toNat) (fun q : Int => z 32 q.toNat) i ≤ z 32 i.toNat := qt_b hk hl.1 ht (q := i) h0 h121
            have b3 := hcu i h0 h121
            obtain ⟨i1, i2, i3⟩ := hi i h0 h121
            rw [if_neg (by omega)] at i2 i3
            have os : ov v c (z 29 c.toNat) (fun q : Int => z 32 q.toNat) (i + 1).toNat = if 0 < ov v c (z 29 c.toNat) (fun q : Int => z 32 q.toNat) i.toNat ∧ qt v c (z 29 c.toNat) (fun q : Int => z 32 q.toNat) i < z 32 i.toNat then ov v c (z 29 c.toNat) (fun q : Int => z 32 q.toNat) i.toNat - 1 else ov v c (z 29 c.toNat) (fun q : Int => z 32 q.toNat) i.toNat := by rw [show (i + 1).toNat = i.toNat + 1 by omega]; show (if 0 < ov v c (z 29 c.toNat) (fun q : Int => z 32 q.toNat) i.toNat ∧ qt v c (z 29 c.toNat) (fun q : Int => z 32 q.toNat) (i.toNat : Int) < z 32 (i.toNat : Int).toNat then _ else _) = _; rw [Int.toNat_of_nonneg h0]
            have es : sqP v c (z 29 c.toNat) (fun q : Int => z 32 q.toNat) i = if 0 < ov v c (z 29 c.toNat) (fun q : Int => z 32 q.toNat) i.toNat ∧ qt v c (z 29 c.toNat) (fun q : Int => z 32 q.toNat) i < z 32 i.toNat then qt v c (z 29 c.toNat) (fun q : Int => z 32 q.toNat) i + 1 else qt v c (z 29 c.toNat) (fun q : Int => z 32 q.toNat) i := by unfold sqP; rw [if_neg (by omega)]
            have ec : sqC v c (z 29 c.toNat) (fun q : Int => z 32 q.toNat) (fun q : Int => z 28 q.toNat) i = if sqP v c (z 29 c.toNat) (fun q : Int => z 32 q.toNat) i < z 32 i.toNat ∧ z 28 i.toNat = -2 then cdC c else z 28 i.toNat := rfl
            refine eg_iload dX4_squeeze_124 rfl ?_
            refine eg_if_le 160 dX4_squeeze_126 ⟨by omega, by omega⟩ rfl (fun h126 => ?_) (fun h126 => ?_)
            · have f32 : y 32 i.toNat = qt v c (z 29 c.toNat) (fun q : Int => z 32 q.toNat) i := i2
              have f33 : y 33 i.toNat = z 32 i.toNat := i1
              have f28 : y 28 i.toNat = z 28 i.toNat := i3
              refine eg_al_n dX4_squeeze_160 rfl rfl ?_
              refine eg_get fl_X4_30 dX4_squeeze_161 (by first | exact er25 | exact er28 | exact er29 | exact er30 | exact er32 | exact er33) rfl ?_
              refine eg_iload dX4_squeeze_164 rfl ?_
              refine eg_iald dX4_squeeze_166 (by first | exact er25 | exact er28 | exact er29 | exact er30 | exact er32 | exact er33) (by omega) (by omega) (by decide) ?_
              rw [f32]
              refine eg_al_n dX4_squeeze_167 rfl rfl ?_
              refine eg_get fl_X4_33 dX4_squeeze_168 (by first | exact er25 | exact er28 | exact er29 | exact er30 | exact er32 | exact er33) rfl ?_
              refine eg_iload dX4_squeeze_171 rfl ?_
              refine eg_iald dX4_squeeze_173 (by first | exact er25 | exact er28 | exact er29 | exact er30 | exact er32 | exact er33) (by omega) (by omega) (by decide) ?_
              rw [f33]
              refine eg_icmp_ge 200 dX4_squeeze_174 ⟨by omega, by omega⟩ ⟨by omega, by omega⟩ rfl (fun h174 => ?_) (fun h174 => ?_)
              · refine eg_iinc dX4_squeeze_200 rfl rfl rfl ?_
                refine eg_goto 115 dX4_squeeze_203 rfl ?_
                rw [show ov v c (z 29 c.toNat) (fun q : Int => z 32 q.toNat) i.toNat = ov v c (z 29 c.toNat) (fun q : Int => z 32 q.toNat) (i + 1).toNat from (by rw [os, if_neg (by omega)])]
                refine ih (i + 1) y (by omega) (by omega) ?_ ?_ (by omega)
                · intro d h28 h32 h33
                  exact hy d h28 h32 h33
                · intro q g0 g1
                  obtain ⟨j1, j2, j3⟩ := hi q g0 g1
                  by_cases hq : q = i
                  · subst hq
                    exact ⟨by exact j1, by rw [if_pos (by omega), es, if_neg (by omega)]; exact i2, by rw [if_pos (by omega), ec, if_neg (by rw [es]; rw [if_neg (by omega)]; omega)]; exact i3⟩
                  · have e2 : (if q < i then sqP v c (z 29 c.toNat) (fun q : Int => z 32 q.toNat) q else qt v c (z 29 c.toNat) (fun q : Int => z 32 q.toNat) q) = (if q < i + 1 then sqP v c (z 29 c.toNat) (fun q : Int => z 32 q.toNat) q else qt v c (z 29 c.toNat) (fun q : Int => z 32 q.toNat) q) := by
                      by_cases g : q < i
                      · rw [if_pos g, if_pos (by omega)]
                      · rw [if_neg g, if_neg (by omega)]
                    have e3 : (if q < i then sqC v c (z 29 c.toNat) (fun q : Int => z 32 q.toNat) (fun q : Int => z 28 q.toNat) q else z 28 q.toNat) = (if q < i + 1 then sqC v c (z 29 c.toNat) (fun q : Int => z 32 q.toNat) (fun q : Int => z 28 q.toNat) q else z 28 q.toNat) := by
                      by_cases g : q < i
                      · rw [if_pos g, if_pos (by omega)]
                      · rw [if_neg g, if_neg (by omega)]
                    rw [← e2, ← e3]
                    exact ⟨by exact j1, by rw [j2], by rw [j3]⟩
              · refine eg_al_n dX4_squeeze_177 rfl rfl ?_
                refine eg_get fl_X4_18 dX4_squeeze_178 (by first | exact er25 | exact er28 | exact er29 | exact er30 | exact er32 | exact er33) rfl ?_
                refine eg_iload dX4_squeeze_181 rfl ?_
                refine eg_iald dX4_squeeze_183 (by first | exact er25 | exact er28 | exact er29 | exact er30 | exact er32 | exact er33) (by omega) (by omega) (by decide) ?_
                rw [f28]
                refine eg_bipush dX4_squeeze_184 (by decide) ?_
                refine eg_icmp_ne 200 dX4_squeeze_186 ⟨by omega, by omega⟩ ⟨by omega, by omega⟩ rfl (fun h186 => ?_) (fun h186 => ?_)
                · refine eg_iinc dX4_squeeze_200 rfl rfl rfl ?_
                  refine eg_goto 115 dX4_squeeze_203 rfl ?_
                  rw [show ov v c (z 29 c.toNat) (fun q : Int => z 32 q.toNat) i.toNat = ov v c (z 29 c.toNat) (fun q : Int => z 32 q.toNat) (i + 1).toNat from (by rw [os, if_neg (by omega)])]
                  refine ih (i + 1) y (by omega) (by omega) ?_ ?_ (by omega)
                  · intro d h28 h32 h33
                    exact hy d h28 h32 h33
                  · intro q g0 g1
                    obtain ⟨j1, j2, j3⟩ := hi q g0 g1
                    by_cases hq : q = i
                    · subst hq
                      exact ⟨by exact j1, by rw [if_pos (by omega), es, if_neg (by omega)]; exact i2, by rw [if_pos (by omega), ec, if_neg (by rw [es]; rw [if_neg (by omega)]; omega)]; exact i3⟩
                    · have e2 : (if q < i then sqP v c (z 29 c.toNat) (fun q : Int => z 32 q.toNat) q else qt v c (z 29 c.toNat) (fun q : Int => z 32 q.toNat) q) = (if q < i + 1 then sqP v c (z 29 c.toNat) (fun q : Int => z 32 q.toNat) q else qt v c (z 29 c.toNat) (fun q : Int => z 32 q.toNat) q) := by
                        by_cases g : q < i
                        · rw [if_pos g, if_pos (by omega)]
                        · rw [if_neg g, if_neg (by omega)]
                      have e3 : (if q < i then sqC v c (z 29 c.toNat) (fun q : Int => z 32 q.toNat) (fun q : Int => z 28 q.toNat) q else z 28 q.toNat) = (if q < i + 1 then sqC v c (z 29 c.toNat) (fun q : Int => z 32 q.toNat) (fun q : Int => z 28 q.toNat) q else z 28 q.toNat) := by
                        by_cases g : q < i
                        · rw [if_pos g, if_pos (by omega)]
                        · rw [if_neg g, if_neg (by omega)]
                      rw [← e2, ← e3]
                      exact ⟨by exact j1, by rw [j2], by rw [j3]⟩
                · refine eg_al_n dX4_squeeze_189 rfl rfl ?_
                  refine eg_get fl_X4_18 dX4_squeeze_190 (by first | exact er25 | exact er28 | exact er29 | exact er30 | exact er32 | exact er33) rfl ?_
                  refine eg_iload dX4_squeeze_193 rfl ?_
                  refine eg_iload_n dX4_squeeze_195 rfl ?_
                  refine eg_Sf1 cs_X4_125 dX4_squeeze_196 (c_X4_codeOf hc) (Nat.le_of_ble_eq_true rfl) (by decide) ?_
                  refine eg_iast dX4_squeeze_199 (by first | exact er25 | exact er28 | exact er29 | exact er30 | exact er32 | exact er33) (by omega) (by omega) (by decide) ?_
                  refine eg_eqM (es28) ?_
                  generalize w2 : va_up y 28 _ = y2
                  refine eg_iinc dX4_squeeze_200 rfl rfl rfl ?_
                  refine eg_goto 115 dX4_squeeze_203 rfl ?_
                  rw [show ov v c (z 29 c.toNat) (fun q : Int => z 32 q.toNat) i.toNat = ov v c (z 29 c.toNat) (fun q : Int => z 32 q.toNat) (i + 1).toNat from (by rw [os, if_neg (by omega)])]
                  refine ih (i + 1) y2 (by omega) (by omega) ?_ ?_ (by omega)
                  · intro d h28 h32 h33
                    rw [← w2, va_up_n _ _ h28]; exact hy d h28 h32 h33
                  · intro q g0 g1
                    obtain ⟨j1, j2, j3⟩ := hi q g0 g1
                    by_cases hq : q = i
                    · subst hq
                      exact ⟨by rw [← w2, va_up_n _ _ (by decide)]; exact j1, by rw [if_pos (by omega), es, if_neg (by omega), ← w2, va_up_n _ _ (by decide)]; exact i2, by rw [if_pos (by omega), ec, if_pos (by rw [es]; rw [if_neg (by omega)]; omega), ← w2, va_up_s, va_up_s]⟩
                    · have e2 : (if q < i then sqP v c (z 29 c.toNat) (fun q : Int => z 32 q.toNat) q else qt v c (z 29 c.toNat) (fun q : Int => z 32 q.toNat) q) = (if q < i + 1 then sqP v c (z 29 c.toNat) (fun q : Int => z 32 q.toNat) q else qt v c (z 29 c.toNat) (fun q : Int => z 32 q.toNat) q) := by
                        by_cases g : q < i
                        · rw [if_pos g, if_pos (by omega)]
                        · rw [if_neg g, if_neg (by omega)]
                      have e3 : (if q < i then sqC v c (z 29 c.toNat) (fun q : Int => z 32 q.toNat) (fun q : Int => z 28 q.toNat) q else z 28 q.toNat) = (if q < i + 1 then sqC v c (z 29 c.toNat) (fun q : Int => z 32 q.toNat) (fun q : Int => z 28 q.toNat) q else z 28 q.toNat) := by
                        by_cases g : q < i
                        · rw [if_pos g, if_pos (by omega)]
                        · rw [if_neg g, if_neg (by omega)]
                      rw [← e2, ← e3]
                      exact ⟨by rw [← w2, va_up_n _ _ (by decide)]; exact j1, by rw [← w2, va_up_n _ _ (by decide), j2], by rw [← w2, va_up_s, va_up_n _ _ (by omega), j3]⟩
            · refine eg_al_n dX4_squeeze_129 rfl rfl ?_
              refine eg_get fl_X4_30 dX4_squeeze_130 (by first | exact er25 | exact er28 | exact er29 | exact er30 | exact er32 | exact er33) rfl ?_
              refine eg_iload dX4_squeeze_133 rfl ?_
              refine eg_iald dX4_squeeze_135 (by first | exact er25 | exact er28 | exact er29 | exact er30 | exact er32 | exact er33) (by omega) (by omega) (by decide) ?_
              rw [i2]
              refine eg_al_n dX4_squeeze_136 rfl rfl ?_
              refine eg_get fl_X4_33 dX4_squeeze_137 (by first | exact er25 | exact er28 | exact er29 | exact er30 | exact er32 | exact er33) rfl ?_
              refine eg_iload dX4_squeeze_140 rfl ?_
              refine eg_iald dX4_squeeze_142 (by first | exact er25 | exact er28 | exact er29 | exact er30 | exact er32 | exact er33) (by omega) (by omega) (by decide) ?_
              rw [i1]
              refine eg_icmp_ge 160 dX4_squeeze_143 ⟨by omega, by omega⟩ ⟨by omega, by omega⟩ rfl (fun h143 => ?_) (fun h143 => ?_)
              · have f32 : y 32 i.toNat = qt v c (z 29 c.toNat) (fun q : Int => z 32 q.toNat) i := i2
                have f33 : y 33 i.toNat = z 32 i.toNat := i1
                have f28 : y 28 i.toNat = z 28 i.toNat := i3
                refine eg_al_n dX4_squeeze_160 rfl rfl ?_
                refine eg_get fl_X4_30 dX4_squeeze_161 (by first | exact er25 | exact er28 | exact er29 | exact er30 | exact er32 | exact er33) rfl ?_
                refine eg_iload dX4_squeeze_164 rfl ?_
                refine eg_iald dX4_squeeze_166 (by first | exact er25 | exact er28 | exact er29 | exact er30 | exact er32 | exact er33) (by omega) (by omega) (by decide) ?_
                rw [f32]
                refine eg_al_n dX4_squeeze_167 rfl rfl ?_
                refine eg_get fl_X4_33 dX4_squeeze_168 (by first | exact er25 | exact er28 | exact er29 | exact er30 | exact er32 | exact er33) rfl ?_
                refine eg_iload dX4_squeeze_171 rfl ?_
                refine eg_iald dX4_squeeze_173 (by first | exact er25 | exact er28 | exact er29 | exact er30 | exact er32 | exact er33) (by omega) (by omega) (by decide) ?_
                rw [f33]
                refine eg_icmp_ge 200 dX4_squeeze_174 ⟨by omega, by omega⟩ ⟨by omega, by omega⟩ rfl (fun h174 => ?_) (fun h174 => ?_)
                · refine eg_iinc dX4_squeeze_200 rfl rfl rfl ?_
                  refine eg_goto 115 dX4_squeeze_203 rfl ?_
                  rw [show ov v c (z 29 c.toNat) (fun q : Int => z 32 q.toNat) i.toNat = ov v c (z 29 c.toNat) (fun q : Int => z 32 q.toNat) (i + 1).toNat from (by rw [os, if_neg (by omega)])]
                  refine ih (i + 1) y (by omega) (by omega) ?_ ?_ (by omega)
                  · intro d h28 h32 h33
                    exact hy d h28 h32 h33
                  · intro q g0 g1
                    obtain ⟨j1, j2, j3⟩ := hi q g0 g1
                    by_cases hq : q = i
                    · subst hq
                      exact ⟨by exact j1, by rw [if_pos (by omega), es, if_neg (by omega)]; exact i2, by rw [if_pos (by omega), ec, if_neg (by rw [es]; rw [if_neg (by omega)]; omega)]; exact i3⟩
                    · have e2 : (if q < i then sqP v c (z 29 c.toNat) (fun q : Int => z 32 q.toNat) q else qt v c (z 29 c.toNat) (fun q : Int => z 32 q.toNat) q) = (if q < i + 1 then sqP v c (z 29 c.toNat) (fun q : Int => z 32 q.toNat) q else qt v c (z 29 c.toNat) (fun q : Int => z 32 q.toNat) q) := by
                        by_cases g : q < i
                        · rw [if_pos g, if_pos (by omega)]
                        · rw [if_neg g, if_neg (by omega)]
                      have e3 : (if q < i then sqC v c (z 29 c.toNat) (fun q : Int => z 32 q.toNat) (fun q : Int => z 28 q.toNat) q else z 28 q.toNat) = (if q < i + 1 then sqC v c (z 29 c.toNat) (fun q : Int => z 32 q.toNat) (fun q : Int => z 28 q.toNat) q else z 28 q.toNat) := by
                        by_cases g : q < i
                        · rw [if_pos g, if_pos (by omega)]
                        · rw [if_neg g, if_neg (by omega)]
                      rw [← e2, ← e3]
                      exact ⟨by exact j1, by rw [j2], by rw [j3]⟩
                · refine eg_al_n dX4_squeeze_177 rfl rfl ?_
                  refine eg_get fl_X4_18 dX4_squeeze_178 (by first | exact er25 | exact er28 | exact er29 | exact er30 | exact er32 | exact er33) rfl ?_
                  refine eg_iload dX4_squeeze_181 rfl ?_
                  refine eg_iald dX4_squeeze_183 (by first | exact er25 | exact er28 | exact er29 | exact er30 | exact er32 | exact er33) (by omega) (by omega) (by decide) ?_
                  rw [f28]
                  refine eg_bipush dX4_squeeze_184 (by decide) ?_
                  refine eg_icmp_ne 200 dX4_squeeze_186 ⟨by omega, by omega⟩ ⟨by omega, by omega⟩ rfl (fun h186 => ?_) (fun h186 => ?_)
                  · refine eg_iinc dX4_squeeze_200 rfl rfl rfl ?_
                    refine eg_goto 115 dX4_squeeze_203 rfl ?_
                    rw [show ov v c (z 29 c.toNat) (fun q : Int => z 32 q.toNat) i.toNat = ov v c (z 29 c.toNat) (fun q : Int => z 32 q.toNat) (i + 1).toNat from (by rw [os, if_neg (by omega)])]
                    refine ih (i + 1) y (by omega) (by omega) ?_ ?_ (by omega)
                    · intro d h28 h32 h33
                      exact hy d h28 h32 h33
                    · intro q g0 g1
                      obtain ⟨j1, j2, j3⟩ := hi q g0 g1
                      by_cases hq : q = i
                      · subst hq
                        exact ⟨by exact j1, by rw [if_pos (by omega), es, if_neg (by omega)]; exact i2, by rw [if_pos (by omega), ec, if_neg (by rw [es]; rw [if_neg (by omega)]; omega)]; exact i3⟩
                      · have e2 : (if q < i then sqP v c (z 29 c.toNat) (fun q : Int => z 32 q.toNat) q else qt v c (z 29 c.toNat) (fun q : Int => z 32 q.toNat) q) = (if q < i + 1 then sqP v c (z 29 c.toNat) (fun q : Int => z 32 q.toNat) q else qt v c (z 29 c.toNat) (fun q : Int => z 32 q.toNat) q) := by
                          by_cases g : q < i
                          · rw [if_pos g, if_pos (by omega)]
                          · rw [if_neg g, if_neg (by omega)]
                        have e3 : (if q < i then sqC v c (z 29 c.toNat) (fun q : Int => z 32 q.toNat) (fun q : Int => z 28 q.toNat) q else z 28 q.toNat) = (if q < i + 1 then sqC v c (z 29 c.toNat) (fun q : Int => z 32 q.toNat) (fun q : Int => z 28 q.toNat) q else z 28 q.toNat) := by
                          by_cases g : q < i
                          · rw [if_pos g, if_pos (by omega)]
                          · rw [if_neg g, if_neg (by omega)]
                        rw [← e2, ← e3]
                        exact ⟨by exact j1, by rw [j2], by rw [j3]⟩
                  · refine eg_al_n dX4_squeeze_189 rfl rfl ?_
                    refine eg_get fl_X4_18 dX4_squeeze_190 (by first | exact er25 | exact er28 | exact er29 | exact er30 | exact er32 | exact er33) rfl ?_
                    refine eg_iload dX4_squeeze_193 rfl ?_
                    refine eg_iload_n dX4_squeeze_195 rfl ?_
                    refine eg_Sf1 cs_X4_125 dX4_squeeze_196 (c_X4_codeOf hc) (Nat.le_of_ble_eq_true rfl) (by decide) ?_
                    refine eg_iast dX4_squeeze_199 (by first | exact er25 | exact er28 | exact er29 | exact er30 | exact er32 | exact er33) (by omega) (by omega) (by decide) ?_
                    refine eg_eqM (es28) ?_
                    generalize w2 : va_up y 28 _ = y2
                    refine eg_iinc dX4_squeeze_200 rfl rfl rfl ?_
                    refine eg_goto 115 dX4_squeeze_203 rfl ?_
                    rw [show ov v c (z 29 c.toNat) (fun q : Int => z 32 q.toNat) i.toNat = ov v c (z 29 c.toNat) (fun q : Int => z 32 q.toNat) (i + 1).toNat from (by rw [os, if_neg (by omega)])]
                    refine ih (i + 1) y2 (by omega) (by omega) ?_ ?_ (by omega)
                    · intro d h28 h32 h33
                      rw [← w2, va_up_n _ _ h28]; exact hy d h28 h32 h33
                    · intro q g0 g1
                      obtain ⟨j1, j2, j3⟩ := hi q g0 g1
                      by_cases hq : q = i
                      · subst hq
                        exact ⟨by rw [← w2, va_up_n _ _ (by decide)]; exact j1, by rw [if_pos (by omega), es, if_neg (by omega), ← w2, va_up_n _ _ (by decide)]; exact i2, by rw [if_pos (by omega), ec, if_pos (by rw [es]; rw [if_neg (by omega)]; omega), ← w2, va_up_s, va_up_s]⟩
                      · have e2 : (if q < i then sqP v c (z 29 c.toNat) (fun q : Int => z 32 q.toNat) q else qt v c (z 29 c.toNat) (fun q : Int => z 32 q.toNat) q) = (if q < i + 1 then sqP v c (z 29 c.toNat) (fun q : Int => z 32 q.toNat) q else qt v c (z 29 c.toNat) (fun q : Int => z 32 q.toNat) q) := by
                          by_cases g : q < i
                          · rw [if_pos g, if_pos (by omega)]
                          · rw [if_neg g, if_neg (by omega)]
                        have e3 : (if q < i then sqC v c (z 29 c.toNat) (fun q : Int => z 32 q.toNat) (fun q : Int => z 28 q.toNat) q else z 28 q.toNat) = (if q < i + 1 then sqC v c (z 29 c.toNat) (fun q : Int => z 32 q.toNat) (fun q : Int => z 28 q.toNat) q else z 28 q.toNat) := by
                          by_cases g : q < i
                          · rw [if_pos g, if_pos (by omega)]
                          · rw [if_neg g, if_neg (by omega)]
                        rw [← e2, ← e3]
                        exact ⟨by rw [← w2, va_up_n _ _ (by decide)]; exact j1, by rw [← w2, va_up_n _ _ (by decide), j2], by rw [← w2, va_up_s, va_up_n _ _ (by omega), j3]⟩
              · refine eg_al_n dX4_squeeze_146 rfl rfl ?_
                refine eg_get fl_X4_30 dX4_squeeze_147 (by first | exact er25 | exact er28 | exact er29 | exact er30 | exact er32 | exact er33) rfl ?_
                refine eg_iload dX4_squeeze_150 rfl ?_
                refine eg_dup2 dX4_squeeze_152 rfl rfl ?_
                refine eg_iald dX4_squeeze_153 (by first | exact er25 | exact er28 | exact er29 | exact er30 | exact er32 | exact er33) (by omega) (by omega) (by decide) ?_
                rw [i2]
                refine eg_iconst dX4_squeeze_154 ?_
                refine eg_iadd dX4_squeeze_155 ?_
                refine eg_iast dX4_squeeze_156 (by first | exact er25 | exact er28 | exact er29 | exact er30 | exact er32 | exact er33) (by omega) (by omega) (by decide) ?_
                refine eg_eqM (es32) ?_
                generalize w1 : va_up y 32 _ = y1
                have f32 : y1 32 i.toNat = qt v c (z 29 c.toNat) (fun q : Int => z 32 q.toNat) i + 1 := by rw [← w1, va_up_s, va_up_s]
                have f33 : y1 33 i.toNat = z 32 i.toNat := by rw [← w1, va_up_n _ _ (by decide)]; exact i1
                have f28 : y1 28 i.toNat = z 28 i.toNat := by rw [← w1, va_up_n _ _ (by decide)]; exact i3
                refine eg_iinc dX4_squeeze_157 rfl rfl rfl ?_
                refine eg_al_n dX4_squeeze_160 rfl rfl ?_
                refine eg_get fl_X4_30 dX4_squeeze_161 (by first | exact er25 | exact er28 | exact er29 | exact er30 | exact er32 | exact er33) rfl ?_
                refine eg_iload dX4_squeeze_164 rfl ?_
                refine eg_iald dX4_squeeze_166 (by first | exact er25 | exact er28 | exact er29 | exact er30 | exact er32 | exact er33) (by omega) (by omega) (by decide) ?_
                rw [f32]
                refine eg_al_n dX4_squeeze_167 rfl rfl ?_
                refine eg_get fl_X4_33 dX4_squeeze_168 (by first | exact er25 | exact er28 | exact er29 | exact er30 | exact er32 | exact er33) rfl ?_
                refine eg_iload dX4_squeeze_171 rfl ?_
                refine eg_iald dX4_squeeze_173 (by first | exact er25 | exact er28 | exact er29 | exact er30 | exact er32 | exact er33) (by omega) (by omega) (by decide) ?_
                rw [f33]
                refine eg_icmp_ge 200 dX4_squeeze_174 ⟨by omega, by omega⟩ ⟨by omega, by omega⟩ rfl (fun h174 => ?_) (fun h174 => ?_)
                · refine eg_iinc dX4_squeeze_200 rfl rfl rfl ?_
                  refine eg_goto 115 dX4_squeeze_203 rfl ?_
                  rw [show ov v c (z 29 c.toNat) (fun q : Int => z 32 q.toNat) i.toNat + -1 = ov v c (z 29 c.toNat) (fun q : Int => z 32 q.toNat) (i + 1).toNat from (by rw [os, if_pos (by omega)]; omega)]
                  refine ih (i + 1) y1 (by omega) (by omega) ?_ ?_ (by omega)
                  · intro d h28 h32 h33
                    rw [← w1, va_up_n _ _ h32]; exact hy d h28 h32 h33
                  · intro q g0 g1
                    obtain ⟨j1, j2, j3⟩ := hi q g0 g1
                    by_cases hq : q = i
                    · subst hq
                      exact ⟨by rw [← w1, va_up_n _ _ (by decide)]; exact j1, by rw [if_pos (by omega), es, if_pos (by omega), ← w1, va_up_s, va_up_s], by rw [if_pos (by omega), ec, if_neg (by rw [es]; rw [if_pos (by omega)]; omega), ← w1, va_up_n _ _ (by decide)]; exact i3⟩
                    · have e2 : (if q < i then sqP v c (z 29 c.toNat) (fun q : Int => z 32 q.toNat) q else qt v c (z 29 c.toNat) (fun q : Int => z 32 q.toNat) q) = (if q < i + 1 then sqP v c (z 29 c.toNat) (fun q : Int => z 32 q.toNat) q else qt v c (z 29 c.toNat) (fun q : Int => z 32 q.toNat) q) := by
                        by_cases g : q < i
                        · rw [if_pos g, if_pos (by omega)]
                        · rw [if_neg g, if_neg (by omega)]
                      have e3 : (if q < i then sqC v c (z 29 c.toNat) (fun q : Int => z 32 q.toNat) (fun q : Int => z 28 q.toNat) q else z 28 q.toNat) = (if q < i + 1 then sqC v c (z 29 c.toNat) (fun q : Int => z 32 q.toNat) (fun q : Int => z 28 q.toNat) q else z 28 q.toNat) := by
                        by_cases g : q < i
                        · rw [if_pos g, if_pos (by omega)]
                        · rw [if_neg g, if_neg (by omega)]
                      rw [← e2, ← e3]
                      exact ⟨by rw [← w1, va_up_n _ _ (by decide)]; exact j1, by rw [← w1, va_up_s, va_up_n _ _ (by omega), j2], by rw [← w1, va_up_n _ _ (by decide), j3]⟩
                · refine eg_al_n dX4_squeeze_177 rfl rfl ?_
                  refine eg_get fl_X4_18 dX4_squeeze_178 (by first | exact er25 | exact er28 | exact er29 | exact er30 | exact er32 | exact er33) rfl ?_
                  refine eg_iload dX4_squeeze_181 rfl ?_
                  refine eg_iald dX4_squeeze_183 (by first | exact er25 | exact er28 | exact er29 | exact er30 | exact er32 | exact er33) (by omega) (by omega) (by decide) ?_
                  rw [f28]
                  refine eg_bipush dX4_squeeze_184 (by decide) ?_
                  refine eg_icmp_ne 200 dX4_squeeze_186 ⟨by omega, by omega⟩ ⟨by omega, by omega⟩ rfl (fun h186 => ?_) (fun h186 => ?_)
                  · refine eg_iinc dX4_squeeze_200 rfl rfl rfl ?_
                    refine eg_goto 115 dX4_squeeze_203 rfl ?_
                    rw [show ov v c (z 29 c.toNat) (fun q : Int => z 32 q.toNat) i.toNat + -1 = ov v c (z 29 c.toNat) (fun q : Int => z 32 q.toNat) (i + 1).toNat from (by rw [os, if_pos (by omega)]; omega)]
                    refine ih (i + 1) y1 (by omega) (by omega) ?_ ?_ (by omega)
                    · intro d h28 h32 h33
                      rw [← w1, va_up_n _ _ h32]; exact hy d h28 h32 h33
                    · intro q g0 g1
                      obtain ⟨j1, j2, j3⟩ := hi q g0 g1
                      by_cases hq : q = i
                      · subst hq
                        exact ⟨by rw [← w1, va_up_n _ _ (by decide)]; exact j1, by rw [if_pos (by omega), es, if_pos (by omega), ← w1, va_up_s, va_up_s], by rw [if_pos (by omega), ec, if_neg (by rw [es]; rw [if_pos (by omega)]; omega), ← w1, va_up_n _ _ (by decide)]; exact i3⟩
                      · have e2 : (if q < i then sqP v c (z 29 c.toNat) (fun q : Int => z 32 q.toNat) q else qt v c (z 29 c.toNat) (fun q : Int => z 32 q.toNat) q) = (if q < i + 1 then sqP v c (z 29 c.toNat) (fun q : Int => z 32 q.toNat) q else qt v c (z 29 c.toNat) (fun q : Int => z 32 q.toNat) q) := by
                          by_cases g : q < i
                          · rw [if_pos g, if_pos (by omega)]
                          · rw [if_neg g, if_neg (by omega)]
                        have e3 : (if q < i then sqC v c (z 29 c.toNat) (fun q : Int => z 32 q.toNat) (fun q : Int => z 28 q.toNat) q else z 28 q.toNat) = (if q < i + 1 then sqC v c (z 29 c.toNat) (fun q : Int => z 32 q.toNat) (fun q : Int => z 28 q.toNat) q else z 28 q.toNat) := by
                          by_cases g : q < i
                          · rw [if_pos g, if_pos (by omega)]
                          · rw [if_neg g, if_neg (by omega)]
                        rw [← e2, ← e3]
                        exact ⟨by rw [← w1, va_up_n _ _ (by decide)]; exact j1, by rw [← w1, va_up_s, va_up_n _ _ (by omega), j2], by rw [← w1, va_up_n _ _ (by decide), j3]⟩
                  · refine eg_al_n dX4_squeeze_189 rfl rfl ?_
                    refine eg_get fl_X4_18 dX4_squeeze_190 (by first | exact er25 | exact er28 | exact er29 | exact er30 | exact er32 | exact er33) rfl ?_
                    refine eg_iload dX4_squeeze_193 rfl ?_
                    refine eg_iload_n dX4_squeeze_195 rfl ?_
                    refine eg_Sf1 cs_X4_125 dX4_squeeze_196 (c_X4_codeOf hc) (Nat.le_of_ble_eq_true rfl) (by decide) ?_
                    refine eg_iast dX4_squeeze_199 (by first | exact er25 | exact er28 | exact er29 | exact er30 | exact er32 | exact er33) (by omega) (by omega) (by decide) ?_
                    refine eg_eqM (es28) ?_
                    generalize w2 : va_up y1 28 _ = y2
                    refine eg_iinc dX4_squeeze_200 rfl rfl rfl ?_
                    refine eg_goto 115 dX4_squeeze_203 rfl ?_
                    rw [show ov v c (z 29 c.toNat) (fun q : Int => z 32 q.toNat) i.toNat + -1 = ov v c (z 29 c.toNat) (fun q : Int => z 32 q.toNat) (i + 1).toNat from (by rw [os, if_pos (by omega)]; omega)]
                    refine ih (i + 1) y2 (by omega) (by omega) ?_ ?_ (by omega)
                    · intro d h28 h32 h33
                      rw [← w2, va_up_n _ _ h28, ← w1, va_up_n _ _ h32]; exact hy d h28 h32 h33
                    · intro q g0 g1
                      obtain ⟨j1, j2, j3⟩ := hi q g0 g1
                      by_cases hq : q = i
                      · subst hq
                        exact ⟨by rw [← w2, va_up_n _ _ (by decide), ← w1, va_up_n _ _ (by decide)]; exact j1, by rw [if_pos (by omega), es, if_pos (by omega), ← w2, va_up_n _ _ (by decide), ← w1, va_up_s, va_up_s], by rw [if_pos (by omega), ec, if_pos (by rw [es]; rw [if_pos (by omega)]; omega), ← w2, va_up_s, va_up_s]⟩
                      · have e2 : (if q < i then sqP v c (z 29 c.toNat) (fun q : Int => z 32 q.toNat) q else qt v c (z 29 c.toNat) (fun q : Int => z 32 q.toNat) q) = (if q < i + 1 then sqP v c (z 29 c.toNat) (fun q : Int => z 32 q.toNat) q else qt v c (z 29 c.toNat) (fun q : Int => z 32 q.toNat) q) := by
                          by_cases g : q < i
                          · rw [if_pos g, if_pos (by omega)]
                          · rw [if_neg g, if_neg (by omega)]
                        have e3 : (if q < i then sqC v c (z 29 c.toNat) (fun q : Int => z 32 q.toNat) (fun q : Int => z 28 q.toNat) q else z 28 q.toNat) = (if q < i + 1 then sqC v c (z 29 c.toNat) (fun q : Int => z 32 q.toNat) (fun q : Int => z 28 q.toNat) q else z 28 q.toNat) := by
                          by_cases g : q < i
                          · rw [if_pos g, if_pos (by omega)]
                          · rw [if_neg g, if_neg (by omega)]
                        rw [← e2, ← e3]
                        exact ⟨by rw [← w2, va_up_n _ _ (by decide), ← w1, va_up_n _ _ (by decide)]; exact j1, by rw [← w2, va_up_n _ _ (by decide), ← w1, va_up_s, va_up_n _ _ (by omega), j2], by rw [← w2, va_up_s, va_up_n _ _ (by omega), ← w1, va_up_n _ _ (by decide), j3]⟩
      have L1 : ∀ (m : Nat) (i s : Int) (y : eg_Z), 0 ≤ i → i ≤ v 3 → s = (z 29 c.toNat) - sm (tgF v c (qt v c (z 29 c.toNat) (fun q : Int => z 32 q.toNat))) i.toNat → (∀ d, d ≠ 28 → d ≠ 32 → d ≠ 33 → y d = z d) → (∀ q : Int, 0 ≤ q → q < v 3 → y 28 q.toNat = z 28 q.toNat ∧ (q < i → y 33 q.toNat = z 32 q.toNat) ∧ y 32 q.toNat = (if q < i then qt v c (z 29 c.toNat) (fun q : Int => z 32 q.toNat) q else z 32 q.toNat)) → v 3 - i < (m : Int) → eg_E k gX4_squeeze 1 0 0 n (enc k y X) [vR k 25, vI c, vI (gm v c (v 3).toNat : Int), vI (tg v c (fun q : Int => z 32 q.toNat)), vI s, vI i] [] 39 (eg_p k none n X (fun z' => (∀ d, d ≠ 28 → d ≠ 32 → d ≠ 33 → z' d = z d) ∧ ∀ q : Int, 0 ≤ q → q < v 3 → z' 32 q.toNat = sqP v c (z 29 c.toNat) (fun q : Int => z 32 q.toNat) q ∧ z' 28 q.toNat = sqC v c (z 29 c.toNat) (fun q : Int => z 32 q.toNat) (fun q : Int => z 28 q.toNat) q)) := by
        intro m
        induction m with
        | zero => intro i s y h0 h1 hs hy hi hmm; exfalso; omega
        | succ m ih =>
          intro i s y h0 h1 hs hy hi hmm
          obtain ⟨j, rfl⟩ : ∃ j : Nat, i = j := ⟨i.toNat, by omega⟩
          have my : y 25 8 = v 3 := by rw [hy _ (by decide) (by decide) (by decide)]; exact hm
          have ly : y 29 = z 29 := hy _ (by decide) (by decide) (by decide)
          refine eg_iload dX4_squeeze_39 rfl ?_
          refine eg_al_n dX4_squeeze_41 rfl rfl ?_
          refine eg_get fl_X4_36 dX4_squeeze_42 (by first | exact er25 | exact er28 | exact er29 | exact er30 | exact er32 | exact er33) rfl ?_
          rw [my]
          refine eg_icmp_ge 112 dX4_squeeze_45 ⟨by omega, by omega⟩ ⟨by omega, by omega⟩ rfl (fun h45 => ?_) (fun h45 => ?_)
          · refine eg_iconst dX4_squeeze_112 ?_
            refine eg_istore dX4_squeeze_113 rfl rfl rfl ?_
            rw [show s = ov v c (z 29 c.toNat) (fun q : Int => z 32 q.toNat) 0 from (by rw [hs, show ((j : Int)).toNat = (v 3).toNat by omega]; rfl)]
            refine L2 17 0 y (by omega) (by omega) hy (fun q g0 g1 => ?_) (by omega)
            obtain ⟨j1, j2, j3⟩ := hi q g0 g1
            rw [if_pos (by omega)] at j3
            rw [if_neg (by omega), if_neg (by omega)]
            exact ⟨j2 (by omega), j3, j1⟩
          · have b1 := hk j (by omega) h45
            have b1 : 0 ≤ z 32 j ∧ z 32 j ≤ 9999 := b1
            obtain ⟨i1, i2, i3⟩ := hi j (by omega) h45
            rw [if_neg (by omega)] at i3
            have i3 : y 32 j = z 32 j := i3
            refine eg_al_n dX4_squeeze_48 rfl rfl ?_
            refine eg_get fl_X4_33 dX4_squeeze_49 (by first | exact er25 | exact er28 | exact er29 | exact er30 | exact er32 | exact er33) rfl ?_
            refine eg_iload dX4_squeeze_52 rfl ?_
            refine eg_al_n dX4_squeeze_54 rfl rfl ?_
            refine eg_get fl_X4_30 dX4_squeeze_55 (by first | exact er25 | exact er28 | exact er29 | exact er30 | exact er32 | exact er33) rfl ?_
            refine eg_iload dX4_squeeze_58 rfl ?_
            refine eg_iald dX4_squeeze_60 (by first | exact er25 | exact er28 | exact er29 | exact er30 | exact er32 | exact er33) (by omega) (by omega) (by decide) ?_
            rw [show ((j : Int)).toNat = j from rfl, i3]
            refine eg_iast dX4_squeeze_61 (by first | exact er25 | exact er28 | exact er29 | exact er30 | exact er32 | exact er33) (by omega) (by omega) (by decide) ?_
            refine eg_eqM (es33) ?_
            rw [show ((j : Int)).toNat = j from rfl]
            generalize w1 : va_up y 33 _ = y1
            have g32 : y1 32 j = z 32 j := by rw [← w1, va_up_n _ _ (by decide)]; exact i3
            have g33 : y1 33 j = z 32 j := by rw [← w1, va_up_s, va_up_s]
            have g29 : y1 29 = z 29 := by rw [← w1, va_up_n _ _ (by decide)]; exact ly
            refine eg_iload_n dX4_squeeze_62 rfl ?_
            refine eg_iconst dX4_squeeze_63 ?_
            refine eg_iload dX4_squeeze_64 rfl ?_
            refine eg_ishl (j := j) dX4_squeeze_66 (by omega) ?_
            refine eg_eqI (show (1 : Int) * 2 ^ j = ((2 ^ j : Nat) : Int) by rw [Int.one_mul, pw]) ?_
            have p2 := pw_lt (q := j) (by omega)
            refine eg_andN dX4_squeeze_67 (by have := gm_lt v c (v 3).toNat; have := pw16 (q := (v 3).toNat) (by omega); omega) (by omega) ?_
            rw [gm_and v c (show j < (v 3).toNat by omega)]
            by_cases hg : gb v j c = true
            · rw [if_pos hg]
              have p3 : 0 < (2 : Nat) ^ j := Nat.pow_pos (by decide)
              refine eg_if_eq 106 dX4_squeeze_68 ⟨by omega, by omega⟩ rfl (fun h9 => absurd h9 (by omega)) (fun _ => ?_)
              refine eg_al_n dX4_squeeze_71 rfl rfl ?_
              refine eg_get fl_X4_30 dX4_squeeze_72 (by first | exact er25 | exact er28 | exact er29 | exact er30 | exact er32 | exact er33) rfl ?_
              refine eg_iload dX4_squeeze_75 rfl ?_
              refine eg_al_n dX4_squeeze_77 rfl rfl ?_
              refine eg_get fl_X4_33 dX4_squeeze_78 (by first | exact er25 | exact er28 | exact er29 | exact er30 | exact er32 | exact er33) rfl ?_
              refine eg_iload dX4_squeeze_81 rfl ?_
              refine eg_iald dX4_squeeze_83 (by first | exact er25 | exact er28 | exact er29 | exact er30 | exact er32 | exact er33) (by omega) (by omega) (by decide) ?_
              rw [show ((j : Int)).toNat = j from rfl, g33]
              refine eg_al_n dX4_squeeze_84 rfl rfl ?_
              refine eg_get fl_X4_21 dX4_squeeze_85 (by first | exact er25 | exact er28 | exact er29 | exact er30 | exact er32 | exact er33) rfl ?_
              refine eg_iload_n dX4_squeeze_88 rfl ?_
              refine eg_iald dX4_squeeze_89 (by first | exact er25 | exact er28 | exact er29 | exact er30 | exact er32 | exact er33) (by omega) (by omega) (by decide) ?_
              rw [g29]
              have m1 := mul_b b1.1 b1.2 hl.1 hl.2
              have hqt : qt v c (z 29 c.toNat) (fun q : Int => z 32 q.toNat) j = z 32 j * (z 29 c.toNat) / tg v c (fun q : Int => z 32 q.toNat) := by unfold qt; rw [if_pos hg]; rfl
              refine eg_imul dX4_squeeze_90 ?_
              refine eg_iload_n dX4_squeeze_91 rfl ?_
              refine eg_idiv dX4_squeeze_92 ⟨by omega, by omega⟩ ⟨by omega, by omega⟩ (by omega) (by omega) ?_
              refine eg_iast dX4_squeeze_93 (by first | exact er25 | exact er28 | exact er29 | exact er30 | exact er32 | exact er33) (by omega) (by omega) (by decide) ?_
              refine eg_eqM (es32) ?_
              rw [show ((j : Int)).toNat = j from rfl]
              generalize w2 : va_up y1 32 _ = y2
              have g322 : y2 32 j = z 32 j * (z 29 c.toNat) / tg v c (fun q : Int => z 32 q.toNat) := by rw [← w2, va_up_s, va_up_s]
              refine eg_iload dX4_squeeze_94 rfl ?_
              refine eg_al_n dX4_squeeze_96 rfl rfl ?_
              refine eg_get fl_X4_30 dX4_squeeze_97 (by first | exact er25 | exact er28 | exact er29 | exact er30 | exact er32 | exact er33) rfl ?_
              refine eg_iload dX4_squeeze_100 rfl ?_
              refine eg_iald dX4_squeeze_102 (by first | exact er25 | exact er28 | exact er29 | exact er30 | exact er32 | exact er33) (by omega) (by omega) (by decide) ?_
              rw [show ((j : Int)).toNat = j from rfl, g322]
              refine eg_isub dX4_squeeze_103 ?_
              refine eg_istore dX4_squeeze_104 rfl rfl rfl ?_
              refine eg_iinc dX4_squeeze_106 rfl rfl rfl ?_
              refine eg_goto 39 dX4_squeeze_109 rfl ?_
              refine ih ((j : Int) + 1) _ y2 (by omega) (by omega) ?_ ?_ ?_ (by omega)
              · rw [sm_s _ (by omega), hs]; unfold tgF; rw [if_pos hg]; rw [hqt]; omega
              · intro d h28 h32 h33; rw [← w2, va_up_n _ _ h32, ← w1, va_up_n _ _ h33]; exact hy d h28 h32 h33
              · intro q g0 g1
                obtain ⟨j1, j2, j3⟩ := hi q g0 g1
                by_cases hq : q = (j : Int)
                · subst hq
                  refine ⟨?_, fun _ => ?_, ?_⟩
                  · rw [← w2, va_up_n _ _ (by decide), ← w1, va_up_n _ _ (by decide)]; exact j1
                  · rw [← w2, va_up_n _ _ (by decide), ← w1, va_up_s, Int.toNat_natCast, va_up_s]
                  · rw [if_pos (by omega), ← w2, va_up_s, Int.toNat_natCast, va_up_s, hqt]
                · refine ⟨?_, fun hlt => ?_, ?_⟩
                  · rw [← w2, va_up_n _ _ (by decide), ← w1, va_up_n _ _ (by decide)]; exact j1
                  · rw [← w2, va_up_n _ _ (by decide), ← w1, va_up_s, va_up_n _ _ (by omega)]; exact j2 (by omega)
                  · rw [← w2, va_up_s, va_up_n _ _ (by omega), ← w1, va_up_n _ _ (by decide), j3]
                    by_cases g : q < (j : Int)
                    · rw [if_pos g, if_pos (by omega)]
                    · rw [if_neg g, if_neg (by omega)]
            · rw [if_neg hg]
              refine eg_if_eq 106 dX4_squeeze_68 ⟨by decide, by decide⟩ rfl (fun _ => ?_) (fun h9 => absurd rfl h9)
              refine eg_iinc dX4_squeeze_106 rfl rfl rfl ?_
              refine eg_goto 39 dX4_squeeze_109 rfl ?_
              refine ih ((j : Int) + 1) _ y1 (by omega) (by omega) ?_ ?_ ?_ (by omega)
              · rw [sm_s _ (by omega), hs]; unfold tgF; rw [if_neg hg]; omega
              · intro d h28 h32 h33; rw [← w1, va_up_n _ _ h33]; exact hy d h28 h32 h33
              · intro q g0 g1
                obtain ⟨j1, j2, j3⟩ := hi q g0 g1
                by_cases hq : q = (j : Int)
                · subst hq
                  refine ⟨?_, fun _ => ?_, ?_⟩
                  · rw [← w1, va_up_n _ _ (by decide)]; exact j1
                  · rw [← w1, va_up_s, Int.toNat_natCast, va_up_s]
                  · rw [if_pos (by omega), ← w1, va_up_n _ _ (by decide)]; rw [if_neg (by omega)] at j3; rw [j3]; unfold qt; rw [if_neg hg]
                · refine ⟨?_, fun hlt => ?_, ?_⟩
                  · rw [← w1, va_up_n _ _ (by decide)]; exact j1
                  · rw [← w1, va_up_s, va_up_n _ _ (by omega)]; exact j2 (by omega)
                  · rw [← w1, va_up_n _ _ (by decide), j3]
                    by_cases g : q < (j : Int)
                    · rw [if_pos g, if_pos (by omega)]
                    · rw [if_neg g, if_neg (by omega)]
      refine eg_al_n dX4_squeeze_28 rfl rfl ?_
      refine eg_get fl_X4_21 dX4_squeeze_29 (by first | exact er25 | exact er28 | exact er29 | exact er30 | exact er32 | exact er33) rfl ?_
      refine eg_iload_n dX4_squeeze_32 rfl ?_
      refine eg_iald dX4_squeeze_33 (by first | exact er25 | exact er28 | exact er29 | exact er30 | exact er32 | exact er33) (by omega) (by omega) (by decide) ?_
      refine eg_istore dX4_squeeze_34 rfl rfl rfl ?_
      refine eg_iconst dX4_squeeze_36 ?_
      refine eg_istore dX4_squeeze_37 rfl rfl rfl ?_
      refine L1 17 0 _ z (by omega) (by omega) ?_ (fun _ _ _ _ => rfl) (fun q g0 g1 => ?_) (by omega)
      · show _ = (z 29 c.toNat) - 0; omega
      · exact ⟨rfl, fun h => absurd h (by omega), by rw [if_neg (by omega)]⟩
    · refine eg_return dX4_squeeze_27 rfl ?_
      refine ⟨rfl, rfl, z, rfl, fun _ _ _ _ => rfl, fun q g0 g1 => ?_⟩
      have e1 : sqP v c (z 29 c.toNat) (fun q : Int => z 32 q.toNat) q = z 32 q.toNat := by unfold sqP; rw [if_pos (by omega)]
      refine ⟨e1.symm, ?_⟩
      unfold sqC
      rw [e1]
      exact (if_neg (fun h => absurd h.1 (Int.lt_irrefl _))).symm
