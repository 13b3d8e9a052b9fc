theorem lwc_45 {k : eg_K} {i : Int} {Q : eg_Q} {n : Nat} {z : eg_Z} {X : eg_M} {s : eg_S} {T : List Int} {g bc bs : Nat} (H : lwN k i Q) (h0 : 0 ≤ i) (h1 : i + 6 ≤ eg_sl k) (hl : eg_sl k ≤ 3072) (hC : IC z s) (hM : IM z s) (hS : SB k z X n T g) (b1 : 6 - g ≤ bc) (b2 : slG 6 - slG g ≤ bs) : eg_E k gL_law 10 bc bs n (enc k z X) [.ref (eg_sb k), vR k 0, vR k 202, vI i] [] 1641 Q := by
  refine eg_al_n dL_law_1641 rfl rfl ?_
  refine eg_al_n dL_law_1642 rfl rfl ?_
  refine eg_iload_n dL_law_1643 rfl ?_
  refine eg_iconst dL_law_1644 ?_
  refine eg_iadd dL_law_1645 ?_
  refine eg_sc dL_law_1646 (by omega) (by omega) (by omega) ?_
  by_cases ha : scv k (i + 1) < -1
  · refine eg_Vf1 cs_L_202 dL_law_1647 (p_letL scv_R ha) er0 rfl (Nat.le_of_ble_eq_true rfl) (by decide) ?_
    refine eg_al_n dL_law_1650 rfl rfl ?_
    refine eg_al_n dL_law_1651 rfl rfl ?_
    refine eg_iload_n dL_law_1652 rfl ?_
    refine eg_iconst dL_law_1653 ?_
    refine eg_iadd dL_law_1654 ?_
    refine eg_sc dL_law_1655 (by omega) (by omega) (by omega) ?_
    refine eg_Vpf1 cs_L_205 dL_law_1656 (m_letter hM hC.os scv_R) er202 rfl (Nat.le_of_ble_eq_true rfl) (by decide) ?_
    rintro z2 ⟨f2, hM2⟩
    rw [show A_letter s (scv k (i + 1)) = -1 from if_pos ha]
    refine eg_icmp_same 1687 dL_law_1659 rfl ?_
    exact lw_end H hS FC.rf hC f2 hM2 b1 b2
  · have hg := hS.2.2.2.1
    have g1 := gF_6 (N := (lT s.1).length) hg
    have g2 := gF_ge (g := g) (N := (lT s.1).length)
    have g3 := slG_m g2
    have g4 := slG_m g1
    refine eg_Vb1 (bc' := bc - (gF g (lT s.1).length - g)) (bs' := bs - (slG (gF g (lT s.1).length) - slG g)) cs_L_202 dL_law_1647 (p_letter hC hS scv_R (by omega)) er0 rfl (Nat.le_of_ble_eq_true rfl) (by decide) (by omega) (by omega) ?_
    rintro n1 z1 X1 ⟨f1, hS1⟩
    have hM1 := IM_o (fun c hc => f1 c (by omega)) hM
    have hC1 := IC_o (fun c hc => f1 c (by omega)) hC
    refine eg_al_n dL_law_1650 rfl rfl ?_
    refine eg_al_n dL_law_1651 rfl rfl ?_
    refine eg_iload_n dL_law_1652 rfl ?_
    refine eg_iconst dL_law_1653 ?_
    refine eg_iadd dL_law_1654 ?_
    refine eg_sc dL_law_1655 (by omega) (by omega) (by omega) ?_
    refine eg_Vpf1 cs_L_205 dL_law_1656 (m_letter hM1 hC.os scv_R) er202 rfl (Nat.le_of_ble_eq_true rfl) (by decide) ?_
    rintro z2 ⟨f2, hM2⟩
    refine eg_icmp_same 1687 dL_law_1659 rfl ?_
    exact lw_end H hS1 FC.rf hC1 f2 hM2 (by omega) (by omega)
theorem lw_loop {k : eg_K} (hl : eg_sl k ≤ 3072) : ∀ (m : Nat) (i : Int), 0 ≤ i → i ≤ eg_sl k → (eg_sl k : Int) - i < m → ∀ (n : Nat) (z : eg_Z) (X : eg_M) (s : eg_S) (T : List Int) (g bc bs : Nat), IC z s → IM z s → SB k z X n T g → 6 - g ≤ bc → slG 6 - slG g ≤ bs → eg_E k gL_law 10 bc bs n (enc k z X) [.ref (eg_sb k), vR k 0, vR k 202, vI i] [] 18 (fun r _ _ => r = some (vI 1)) := by
  intro m
  induction m with
  | zero => intro i h0 h1 h2; exfalso; omega
  | succ m ih =>
    intro i h0 h1 h2 n z X s T g bc bs hC hM hS b1 b2
    refine eg_iload_n dL_law_18 rfl ?_
    refine eg_al_n dL_law_19 rfl rfl ?_
    refine eg_scl dL_law_20 ?_
    refine eg_bipush dL_law_21 (by decide) ?_
    refine eg_isub dL_law_23 ?_
    refine eg_icmp_gt 1693 dL_law_24 ⟨by omega, by omega⟩ ⟨by omega, by omega⟩ rfl (fun h24 => ?_) (fun h24 => ?_)
    · refine eg_iconst dL_law_1693 ?_
      refine eg_ireturn dL_law_1694 rfl rfl ?_
      rfl
    · have H : lwN k i (fun r _ _ => r = some (vI 1)) := by
        intro n z X s T g bc bs hC hM hS b1 b2
        refine eg_iinc dL_law_1687 rfl rfl rfl ?_
        refine eg_goto 18 dL_law_1690 rfl ?_
        exact ih (i + 6) (by omega) (by omega) (by omega) n z X s T g bc bs hC hM hS b1 b2
      have h6 : i + 6 ≤ eg_sl k := by omega
      refine eg_al_n dL_law_27 rfl rfl ?_
      refine eg_iload_n dL_law_28 rfl ?_
      refine eg_sc dL_law_29 (by omega) (by omega) (by omega) ?_
      refine eg_bipush dL_law_30 (by decide) ?_
      refine eg_andM 6 dL_law_32 (by decide) (by decide) ?_
      have w1 : 0 ≤ scv k i % 2 ^ 6 := Int.emod_nonneg _ (by decide)
      have w2 : scv k i % 2 ^ 6 < 2 ^ 6 := Int.emod_lt_of_pos _ (by decide)
      generalize scv k i % 2 ^ 6 = w at w1 w2 ⊢
      have w2 : w < 64 := w2
      by_cases t0 : w = 0
      · refine eg_tbI 236 dL_law_33 ⟨by omega, by omega⟩ (by omega) (by omega) (by rw [t0]; rfl) rfl ?_
        exact lwc_0 H h0 h6 hl hC hM hS b1 b2
      have w1 : 1 ≤ w := by omega
      clear t0
      by_cases t1 : w = 1
      · refine eg_tbI 299 dL_law_33 ⟨by omega, by omega⟩ (by omega) (by omega) (by rw [t1]; rfl) rfl ?_
        exact lwc_1 H h0 h6 hl hC hM hS b1 b2
      have w1 : 2 ≤ w := by omega
      clear t1
      by_cases t2 : w = 2
      · refine eg_tbI 322 dL_law_33 ⟨by omega, by omega⟩ (by omega) (by omega) (by rw [t2]; rfl) rfl ?_
        exact lwc_2 H h0 h6 hl hC hM hS b1 b2
      have w1 : 3 ≤ w := by omega
      clear t2
      by_cases t3 : w = 3
      · refine eg_tbI 335 dL_law_33 ⟨by omega, by omega⟩ (by omega) (by omega) (by rw [t3]; rfl) rfl ?_
        exact lwc_3 H h0 h6 hl hC hM hS b1 b2
      have w1 : 4 ≤ w := by omega
      clear t3
      by_cases t4 : w = 4
      · refine eg_tbI 388 dL_law_33 ⟨by omega, by omega⟩ (by omega) (by omega) (by rw [t4]; rfl) rfl ?_
        exact lwc_4 H h0 h6 hl hC hM hS b1 b2
      have w1 : 5 ≤ w := by omega
      clear t4
      by_cases t5 : w = 5
      · refine eg_tbI 421 dL_law_33 ⟨by omega, by omega⟩ (by omega) (by omega) (by rw [t5]; rfl) rfl ?_
        exact lwc_5 H h0 h6 hl hC hM hS b1 b2
      have w1 : 6 ≤ w := by omega
      clear t5
      by_cases t6 : w = 6
      · refine eg_tbI 444 dL_law_33 ⟨by omega, by omega⟩ (by omega) (by omega) (by rw [t6]; rfl) rfl ?_
        exact lwc_6 H h0 h6 hl hC hM hS b1 b2
      have w1 : 7 ≤ w := by omega
      clear t6
      by_cases t7 : w = 7
      · refine eg_tbI 487 dL_law_33 ⟨by omega, by omega⟩ (by omega) (by omega) (by rw [t7]; rfl) rfl ?_
        exact lwc_7 H h0 h6 hl hC hM hS b1 b2
      have w1 : 8 ≤ w := by omega
      clear t7
      by_cases t8 : w = 8
      · refine eg_tbI 520 dL_law_33 ⟨by omega, by omega⟩ (by omega) (by omega) (by rw [t8]; rfl) rfl ?_
        exact lwc_8 H h0 h6 hl hC hM hS b1 b2
      have w1 : 9 ≤ w := by omega
      clear t8
      by_cases t9 : w = 9
      · refine eg_tbI 563 dL_law_33 ⟨by omega, by omega⟩ (by omega) (by omega) (by rw [t9]; rfl) rfl ?_
        exact lwc_9 H h0 h6 hl hC hM hS b1 b2
      have w1 : 10 ≤ w := by omega
      clear t9
      by_cases t10 : w = 10
      · refine eg_tbI 606 dL_law_33 ⟨by omega, by omega⟩ (by omega) (by omega) (by rw [t10]; rfl) rfl ?_
        exact lwc_10 H h0 h6 hl hC hM hS b1 b2
      have w1 : 11 ≤ w := by omega
      clear t10
      by_cases t11 : w = 11
      · refine eg_tbI 639 dL_law_33 ⟨by omega, by omega⟩ (by omega) (by omega) (by rw [t11]; rfl) rfl ?_
        exact lwc_11 H h0 h6 hl hC hM hS b1 b2
      have w1 : 12 ≤ w := by omega
      clear t11
      by_cases t12 : w = 12
      · refine eg_tbI 682 dL_law_33 ⟨by omega, by omega⟩ (by omega) (by omega) (by rw [t12]; rfl) rfl ?_
        exact lwc_12 H h0 h6 hl hC hM hS b1 b2
      have w1 : 13 ≤ w := by omega
      clear t12
      by_cases t13 : w = 13
      · refine eg_tbI 715 dL_law_33 ⟨by omega, by omega⟩ (by omega) (by omega) (by rw [t13]; rfl) rfl ?_
        exact lwc_13 H h0 h6 hl hC hM hS b1 b2
      have w1 : 14 ≤ w := by omega
      clear t13
      by_cases t14 : w = 14
      · refine eg_tbI 728 dL_law_33 ⟨by omega, by omega⟩ (by omega) (by omega) (by rw [t14]; rfl) rfl ?_
        exact lwc_14 H h0 h6 hl hC hM hS b1 b2
      have w1 : 15 ≤ w := by omega
      clear t14
      by_cases t15 : w = 15
      · refine eg_tbI 741 dL_law_33 ⟨by omega, by omega⟩ (by omega) (by omega) (by rw [t15]; rfl) rfl ?_
        exact lwc_15 H h0 h6 hl hC hM hS b1 b2
      have w1 : 16 ≤ w := by omega
      clear t15
      by_cases t16 : w = 16
      · refine eg_tbI 754 dL_law_33 ⟨by omega, by omega⟩ (by omega) (by omega) (by rw [t16]; rfl) rfl ?_
        exact lwc_16 H h0 h6 hl hC hM hS b1 b2
      have w1 : 17 ≤ w := by omega
      clear t16
      by_cases t17 : w = 17
      · refine eg_tbI 777 dL_law_33 ⟨by omega, by omega⟩ (by omega) (by omega) (by rw [t17]; rfl) rfl ?_
        exact lwc_17 H h0 h6 hl hC hM hS b1 b2
      have w1 : 18 ≤ w := by omega
      clear t17
      by_cases t18 : w = 18
      · refine eg_tbI 800 dL_law_33 ⟨by omega, by omega⟩ (by omega) (by omega) (by rw [t18]; rfl) rfl ?_
        exact lwc_18 H h0 h6 hl hC hM hS b1 b2
      have w1 : 19 ≤ w := by omega
      clear t18
      by_cases t19 : w = 19
      · refine eg_tbI 833 dL_law_33 ⟨by omega, by omega⟩ (by omega) (by omega) (by rw [t19]; rfl) rfl ?_
        exact lwc_19 H h0 h6 hl hC hM hS b1 b2
      have w1 : 20 ≤ w := by omega
      clear t19
      by_cases t20 : w = 20
      · refine eg_tbI 866 dL_law_33 ⟨by omega, by omega⟩ (by omega) (by omega) (by rw [t20]; rfl) rfl ?_
        exact lwc_20 H h0 h6 hl hC hM hS b1 b2
      have w1 : 21 ≤ w := by omega
      clear t20
      by_cases t21 : w = 21
      · refine eg_tbI 900 dL_law_33 ⟨by omega, by omega⟩ (by omega) (by omega) (by rw [t21]; rfl) rfl ?_
        exact lwc_21 H h0 h6 hl hC hM hS b1 b2
      have w1 : 22 ≤ w := by omega
      clear t21
      by_cases t22 : w = 22
      · refine eg_tbI 933 dL_law_33 ⟨by omega, by omega⟩ (by omega) (by omega) (by rw [t22]; rfl) rfl ?_
        exact lwc_22 H h0 h6 hl hC hM hS b1 b2
      have w1 : 23 ≤ w := by omega
      clear t22
      by_cases t23 : w = 23
      · refine eg_tbI 966 dL_law_33 ⟨by omega, by omega⟩ (by omega) (by omega) (by rw [t23]; rfl) rfl ?_
        exact lwc_23 H h0 h6 hl hC hM hS b1 b2
      have w1 : 24 ≤ w := by omega
      clear t23
      by_cases t24 : w = 24
      · refine eg_tbI 989 dL_law_33 ⟨by omega, by omega⟩ (by omega) (by omega) (by rw [t24]; rfl) rfl ?_
        exact lwc_24 H h0 h6 hl hC hM hS b1 b2
      have w1 : 25 ≤ w := by omega
      clear t24
      by_cases t25 : w = 25
      · refine eg_tbI 1012 dL_law_33 ⟨by omega, by omega⟩ (by omega) (by omega) (by rw [t25]; rfl) rfl ?_
        exact lwc_25 H h0 h6 hl hC hM hS b1 b2
      have w1 : 26 ≤ w := by omega
      clear t25
      by_cases t26 : w = 26
      · refine eg_tbI 1061 dL_law_33 ⟨by omega, by omega⟩ (by omega) (by omega) (by rw [t26]; rfl) rfl ?_
        exact lwc_26 H h0 h6 hl hC hM hS b1 b2
      have w1 : 27 ≤ w := by omega
      clear t26
      by_cases t27 : w = 27
      · refine eg_tbI 1104 dL_law_33 ⟨by omega, by omega⟩ (by omega) (by omega) (by rw [t27]; rfl) rfl ?_
        exact lwc_27 H h0 h6 hl hC hM hS b1 b2
      have w1 : 28 ≤ w := by omega
      clear t27
      by_cases t28 : w = 28
      · refine eg_tbI 1147 dL_law_33 ⟨by omega, by omega⟩ (by omega) (by omega) (by rw [t28]; rfl) rfl ?_
        exact lwc_28 H h0 h6 hl hC hM hS b1 b2
      have w1 : 29 ≤ w := by omega
      clear t28
      by_cases t29 : w = 29
      · refine eg_tbI 1200 dL_law_33 ⟨by omega, by omega⟩ (by omega) (by omega) (by rw [t29]; rfl) rfl ?_
        exact lwc_29 H h0 h6 hl hC hM hS b1 b2
      have w1 : 30 ≤ w := by omega
      clear t29
      by_cases t30 : w = 30
      · refine eg_tbI 1223 dL_law_33 ⟨by omega, by omega⟩ (by omega) (by omega) (by rw [t30]; rfl) rfl ?_
        exact lwc_30 H h0 h6 hl hC hM hS b1 b2
      have w1 : 31 ≤ w := by omega
      clear t30
      by_cases t31 : w = 31
      · refine eg_tbI 1266 dL_law_33 ⟨by omega, by omega⟩ (by omega) (by omega) (by rw [t31]; rfl) rfl ?_
        exact lwc_31 H h0 h6 hl hC hM hS b1 b2
      have w1 : 32 ≤ w := by omega
      clear t31
      by_cases t32 : w = 32
      · refine eg_tbI 1300 dL_law_33 ⟨by omega, by omega⟩ (by omega) (by omega) (by rw [t32]; rfl) rfl ?_
        exact lwc_32 H h0 h6 hl hC hM hS b1 b2
      have w1 : 33 ≤ w := by omega
      clear t32
      by_cases t33 : w = 33
      · refine eg_tbI 1323 dL_law_33 ⟨by omega, by omega⟩ (by omega) (by omega) (by rw [t33]; rfl) rfl ?_
        exact lwc_33 H h0 h6 hl hC hM hS b1 b2
      have w1 : 34 ≤ w := by omega
      clear t33
      by_cases t34 : w = 34
      · refine eg_tbI 1356 dL_law_33 ⟨by omega, by omega⟩ (by omega) (by omega) (by rw [t34]; rfl) rfl ?_
        exact lwc_34 H h0 h6 hl hC hM hS b1 b2
      have w1 : 35 ≤ w := by omega
      clear t34
      by_cases t35 : w = 35
      · refine eg_tbI 1379 dL_law_33 ⟨by omega, by omega⟩ (by omega) (by omega) (by rw [t35]; rfl) rfl ?_
        exact lwc_35 H h0 h6 hl hC hM hS b1 b2
      have w1 : 36 ≤ w := by omega
      clear t35
      by_cases t36 : w = 36
      · refine eg_tbI 1422 dL_law_33 ⟨by omega, by omega⟩ (by omega) (by omega) (by rw [t36]; rfl) rfl ?_
        exact lwc_36 H h0 h6 hl hC hM hS b1 b2
      have w1 : 37 ≤ w := by omega
      clear t36
      by_cases t37 : w = 37
      · refine eg_tbI 1445 dL_law_33 ⟨by omega, by omega⟩ (by omega) (by omega) (by rw [t37]; rfl) rfl ?_
        exact lwc_37 H h0 h6 hl hC hM hS b1 b2
      have w1 : 38 ≤ w := by omega
      clear t37
      by_cases t38 : w = 38
      · refine eg_tbI 1468 dL_law_33 ⟨by omega, by omega⟩ (by omega) (by omega) (by rw [t38]; rfl) rfl ?_
        exact lwc_38 H h0 h6 hl hC hM hS b1 b2
      have w1 : 39 ≤ w := by omega
      clear t38
      by_cases t39 : w = 39
      · refine eg_tbI 1491 dL_law_33 ⟨by omega, by omega⟩ (by omega) (by omega) (by rw [t39]; rfl) rfl ?_
        exact lwc_39 H h0 h6 hl hC hM hS b1 b2
      have w1 : 40 ≤ w := by omega
      clear t39
      by_cases t40 : w = 40
      · refine eg_tbI 1504 dL_law_33 ⟨by omega, by omega⟩ (by omega) (by omega) (by rw [t40]; rfl) rfl ?_
        exact lwc_40 H h0 h6 hl hC hM hS b1 b2
      have w1 : 41 ≤ w := by omega
      clear t40
      by_cases t41 : w = 41
      · refine eg_tbI 1537 dL_law_33 ⟨by omega, by omega⟩ (by omega) (by omega) (by rw [t41]; rfl) rfl ?_
        exact lwc_41 H h0 h6 hl hC hM hS b1 b2
      have w1 : 42 ≤ w := by omega
      clear t41
      by_cases t42 : w = 42
      · refine eg_tbI 1571 dL_law_33 ⟨by omega, by omega⟩ (by omega) (by omega) (by rw [t42]; rfl) rfl ?_
        exact lwc_42 H h0 h6 hl hC hM hS b1 b2
      have w1 : 43 ≤ w := by omega
      clear t42
      by_cases t43 : w = 43
      · refine eg_tbI 1594 dL_law_33 ⟨by omega, by omega⟩ (by omega) (by omega) (by rw [t43]; rfl) rfl ?_
        exact lwc_43 H h0 h6 hl hC hM hS b1 b2
      have w1 : 44 ≤ w := by omega
      clear t43
      by_cases t44 : w = 44
      · refine eg_tbI 1618 dL_law_33 ⟨by omega, by omega⟩ (by omega) (by omega) (by rw [t44]; rfl) rfl ?_
        exact lwc_44 H h0 h6 hl hC hM hS b1 b2
      have w1 : 45 ≤ w := by omega
      clear t44
      by_cases t45 : w = 45
      · refine eg_tbI 1641 dL_law_33 ⟨by omega, by omega⟩ (by omega) (by omega) (by rw [t45]; rfl) rfl ?_
        exact lwc_45 H h0 h6 hl hC hM hS b1 b2
      have w1 : 46 ≤ w := by omega
      clear t45
      by_cases t46 : w = 46
      · refine eg_tbI 1664 dL_law_33 ⟨by omega, by omega⟩ (by omega) (by omega) (by rw [t46]; rfl) rfl ?_
        exact lwc_46 H h0 h6 hl hC hM hS b1 b2
      have w1 : 47 ≤ w := by omega
      clear t46
      refine eg_tbO 1687 dL_law_33 ⟨by omega, by omega⟩ (by omega) rfl ?_
      exact H n z X s T g bc bs hC hM hS b1 b2
def vvI : eg_v := fun _ => 0
def ssI : eg_S := (vvI, 0, (fun _ => vvI), (fun _ => false), (fun _ => vvI), 0, (fun _ => 0))
theorem okV_I : okV vvI := by
  refine ⟨⟨Or.inl ⟨rfl, rfl, rfl, rfl⟩, ⟨by decide, by decide⟩, ⟨by decide, by decide⟩, ⟨by decide, by decide⟩, ⟨by decide, by decide⟩, ⟨by decide, by decide⟩, ⟨by decide, by decide⟩, fun i _ _ => ⟨⟨?_, ?_⟩, ⟨?_, ?_⟩⟩, fun p a b => ?_, fun p a b => ?_, fun p a b => ?_⟩, fun p a b => ?_, by decide⟩
  · show (0 : Int) ≤ 0; decide
  · show (0 : Int) ≤ 9999; decide
  · show (0 : Int) ≤ 0; decide
  · show (0 : Int) ≤ 50; decide
  · have b : p < 0 := b
    omega
  · have b : p < 0 := b
    omega
  · have b : p < 0 := b
    omega
  · have b : p < 0 := b
    omega
theorem IC_I : IC zzI ssI := by
  refine ⟨⟨⟨⟨rfl, rfl, rfl, rfl⟩, ⟨rfl, rfl, rfl, rfl⟩, fun _ _ _ _ _ _ => rfl, fun _ _ _ _ _ _ => rfl, fun _ _ _ _ _ _ => rfl, fun _ _ _ => rfl, fun _ _ _ _ _ _ => rfl, rfl, rfl, rfl, rfl⟩, ⟨fun _ _ _ _ _ _ _ => rfl, rfl⟩, okV_I⟩, ⟨⟨by decide, rfl, by decide, by decide⟩, fun j hj => absurd hj (Nat.not_lt_zero j)⟩, ⟨rfl, fun j _ hk => absurd (show false = true from hk) (by decide)⟩, ⟨by decide, fun i hi => absurd hi (Nat.not_lt_zero i)⟩, rfl, fun i hi => absurd hi (Nat.not_lt_zero i)⟩
theorem IM_I : IM zzI ssI :=
  ⟨fun _ _ => rfl, ⟨by decide, rfl, fun j hj => absurd hj (Nat.not_lt_zero j)⟩, fun j _ => ⟨rfl, fun h => absurd (show false = true from h) (by decide)⟩, by decide, rfl, fun i hi => absurd hi (Nat.not_lt_zero i)⟩
theorem SB_I {k : eg_K} : SB k zzI (xxI k) 216 [] 0 :=
  ⟨Or.inl rfl, by decide, by decide, by decide, by decide, rfl, (fun _ => 0), if_pos rfl, fun _ _ => ⟨show (0 : Int) ≤ 0 by decide, show (0 : Int) < 128 by decide⟩, fun j hj => absurd hj (Nat.not_lt_zero j)⟩
theorem mem_I {k : eg_K} {a b : Option va_E} : mkN (ffI k) (va_up (mkN (ffI k) (va_up (fun _ => none) 0 a) 0 202) 202 b) 202 216 = enc k zzI (xxI k) := by
  funext c
  unfold mkN va_up
  by_cases h : 202 ≤ c ∧ c < 216
  · rw [if_pos h]; rfl
  · rw [if_neg h]
    by_cases h1 : c < 202
    · rw [if_neg (by omega)]
      show (if 0 ≤ c ∧ c < 202 then ffI k c else if c = 0 then a else none) = _
      rw [if_pos ⟨Nat.zero_le _, h1⟩]; rfl
    · rw [if_neg (by omega)]
      show (if 0 ≤ c ∧ c < 202 then ffI k c else if c = 0 then a else none) = _
      rw [if_neg (by omega), if_neg (by omega), enc_x (by omega)]
      exact (if_neg (by omega)).symm
theorem lw_all {k : eg_K} (hl : eg_sl k ≤ 3072) : eg_E k gL_law 10 600000 7302250 0 (fun _ => none) [.ref (eg_sb k), vU, vU, vU] [] 0 (fun r _ _ => r = some (vI 1)) := by
  refine eg_newN (N := 9) (bc' := 599999) (bs' := 7302241) nw_L_7 dL_law_0 rfl (by omega) (by omega) ?_
  refine eg_dup dL_law_3 rfl ?_
  refine eg_cI (As := []) (bc' := 599798) (bs' := 7297988) cs_L_9 dL_law_4 (c_X8_init (va_up_s _ _ _)) rfl (Nat.le_of_ble_eq_true rfl) (by decide) (by omega) (by omega) ?_
  rintro _ _ _ ⟨rfl, rfl, rfl⟩
  refine eg_as_n dL_law_7 rfl rfl rfl rfl ?_
  refine eg_newN (N := 21) (bc' := 599797) (bs' := 7297967) nw_L_10 dL_law_8 rfl (by omega) (by omega) ?_
  refine eg_dup dL_law_11 rfl ?_
  refine eg_cI (As := []) (bc' := 599784) (bs' := 7294149) cs_L_12 dL_law_12 (c_X9_init (va_up_s _ _ _)) rfl (Nat.le_of_ble_eq_true rfl) (by decide) (by omega) (by omega) ?_
  rintro _ _ _ ⟨rfl, rfl, rfl⟩
  refine eg_eqM mem_I ?_
  refine eg_as_n dL_law_15 rfl rfl rfl rfl ?_
  refine eg_iconst dL_law_16 ?_
  refine eg_istore_n dL_law_17 rfl rfl rfl ?_
  exact lw_loop hl (eg_sl k + 1) 0 (by omega) (by omega) (by omega) 216 zzI (xxI k) ssI [] 0 599784 7294149 IC_I IM_I SB_I (by omega) (Nat.le_of_ble_eq_true rfl)
