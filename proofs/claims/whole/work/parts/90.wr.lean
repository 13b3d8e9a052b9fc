theorem rp4_l {f : Int → List Int} : (rpT f 4).length = (f 0).length + (f 1).length + (f 2).length + (f 3).length := by
  show ((([] ++ f 0 ++ f 1) ++ f 2) ++ f 3).length = _
  rw [List.length_append, List.length_append, List.length_append, List.nil_append]
theorem noP_n {v : eg_v} {i c : Int} (h : ¬ (gN v i c = -1 ∧ c ≠ 3)) : noP v i c = nmT (gN v i c) := if_neg h
theorem noP_y {v : eg_v} {i c : Int} (h : gN v i c = -1 ∧ c ≠ 3) : noP v i c = [] := if_pos h
theorem c_putNominations {k : eg_K} {z : eg_Z} {X : eg_M} {n : Nat} {v : eg_v} {B : Int} (hp : hP z 1 v) (hv : VV B v) {T : List Int} {g F : Nat} (hS : SB k z X n T (gF g T.length)) (hFe : F = (T ++ rpT (noT v) (v 3).toNat).length) (hF : F ≤ 1150) : eg_P k gX7_putNominations 7 (gF g F - gF g (T).length) (slG (gF g F) - slG (gF g (T).length)) [vR k 196, vR k 1] n (enc k z X) (eg_b k none (fun n' z' X' => (∀ c, c ≠ 197 → z' c = z c) ∧ SB k z' X' n' (T ++ rpT (noT v) (v 3).toNat) (gF g (T ++ rpT (noT v) (v 3).toNat).length))) := by
  refine eg_P.of (by decide) (Nat.le_of_ble_eq_true rfl) ?_
  show eg_E k gX7_putNominations 7 (gF g F - gF g (T).length) (slG (gF g F) - slG (gF g (T).length)) n (enc k z X) [vR k 196, vR k 1, vU, vU, vU, vU] [] 0 _
  have hb : isB 1 = true := by decide
  have q := hv.r.2
  have L2 : ∀ (mm : Nat) (i : Int) (y : eg_Z) (Y : eg_M) (m : Nat) (u3 : Value) (u4 : Value) (u5 : Value), (0 ≤ i) → (i ≤ v 3) → (∀ c, c ≠ 197 → y c = z c) → (SB k y Y m (T ++ rpT (noT v) i.toNat) (gF g (T ++ rpT (noT v) i.toNat).length)) → v 3 - i < (mm : Int) → eg_E k gX7_putNominations 7 (gF g F - gF g (T ++ rpT (noT v) i.toNat).length) (slG (gF g F) - slG (gF g (T ++ rpT (noT v) i.toNat).length)) m (enc k y Y) [vR k 196, vR k 1, vI i, u3, u4, u5] [] 2 (eg_b k none (fun n' z' X' => (∀ c, c ≠ 197 → z' c = z c) ∧ SB k z' X' n' (T ++ rpT (noT v) (v 3).toNat) (gF g (T ++ rpT (noT v) (v 3).toNat).length))) := by
    intro mm
    induction mm with
    | zero => intro i y Y m u3 u4 u5 h0 h1 fr hw hmm; exfalso; omega
    | succ mm ih =>
      intro i y Y m u3 u4 u5 h0 h1 fr hw hmm
      have hpy : hP y 1 v := hP_k (fun j hj => fr _ (by omega)) hp
      refine eg_iload_n dX7_putNominations_2 rfl ?_
      refine eg_al_n dX7_putNominations_3 rfl rfl ?_
      refine eg_get fl_X7_105 dX7_putNominations_4 (by first | exact er196 | exact ep0 hb | exact ep1 hb | exact ep3 hb | exact ep5 hb | exact ep7 hb) rfl ?_
      refine eg_get fl_X7_74 dX7_putNominations_7 (by first | exact er196 | exact ep0 hb | exact ep1 hb | exact ep3 hb | exact ep5 hb | exact ep7 hb) rfl ?_
      refine eg_eqI hpy.2.1.2.2.2 ?_
      refine eg_icmp_ge 117 dX7_putNominations_10 ⟨by omega, by omega⟩ ⟨by omega, by omega⟩ rfl (fun h10 => ?_) (fun h10 => ?_)
      · refine eg_return dX7_putNominations_117 rfl ?_
        have ei : i = v 3 := by omega
        subst ei
        exact ⟨rfl, y, Y, rfl, fr, hw⟩
      · have on := hv.N h0 (show i < v 3 by omega)
        unfold okN at on
        have o1 := on.2.1
        have o2 := on.2.2.1
        unfold isIn at o1
        unfold isOut at o2
        have n0e : noP v i 0 = nmT (gN v i 0) := noP_n (by omega)
        have n3e : noP v i 3 = nmT (gN v i 3) := noP_n (fun hh => hh.2 rfl)
        have hFi : (T ++ rpT (noT v) (i + 1).toNat).length ≤ F := by rw [hFe, List.length_append, List.length_append]; have := rp_mo (f := noT v) (show (i + 1).toNat ≤ (v 3).toNat by omega); omega
        rw [rp_s h0, List.length_append, List.length_append, noT_l, rp4_l, n0e, n3e] at hFi
        have l15 : (eg_tx 15).length = 4 := rfl
        have l16 : (eg_tx 16).length = 4 := rfl
        have l17 : (eg_tx 17).length = 3 := rfl
        rw [List.length_cons] at hFi
        have J98 : ∀ (z0 : eg_Z) (X0 : eg_M) (n0 : Nat) (w5 : Value), (∀ c, c ≠ 197 → z0 c = z c) → SB k z0 X0 n0 (T ++ rpT (noT v) i.toNat ++ 59 :: noW v i ++ nmT (gN v i 0) ++ noP v i 1 ++ noP v i 2) (gF g (T ++ rpT (noT v) i.toNat ++ 59 :: noW v i ++ nmT (gN v i 0) ++ noP v i 1 ++ noP v i 2).length) → eg_E k gX7_putNominations 7 (gF g F - gF g (T ++ rpT (noT v) i.toNat ++ 59 :: noW v i ++ nmT (gN v i 0) ++ noP v i 1 ++ noP v i 2).length) (slG (gF g F) - slG (gF g (T ++ rpT (noT v) i.toNat ++ 59 :: noW v i ++ nmT (gN v i 0) ++ noP v i 1 ++ noP v i 2).length)) n0 (enc k z0 X0) [vR k 196, vR k 1, vI i, vI (gN v i 1), vI (gN v i 2), w5] [] 98 (eg_b k none (fun n' z' X' => (∀ c, c ≠ 197 → z' c = z c) ∧ SB k z' X' n' (T ++ rpT (noT v) (v 3).toNat) (gF g (T ++ rpT (noT v) (v 3).toNat).length))) := by
          intro z0 X0 n0 w5 fr0 hS0
          have hp0 : hP z0 1 v := hP_k (fun j hj => fr0 _ (by omega)) hp
          refine eg_al_n dX7_putNominations_98 rfl rfl ?_
          refine eg_al_n dX7_putNominations_99 rfl rfl ?_
          refine eg_get fl_X7_105 dX7_putNominations_100 (by first | exact er196 | exact ep0 hb | exact ep1 hb | exact ep3 hb | exact ep5 hb | exact ep7 hb) rfl ?_
          refine eg_iload_n dX7_putNominations_103 rfl ?_
          refine eg_iconst dX7_putNominations_104 ?_
          refine eg_Vf2 cs_X7_81 dX7_putNominations_105 (nm_at hb hp0 hv h0 (by omega) (by omega) (by omega)) (by first | exact er196 | exact ep0 hb | exact ep1 hb | exact ep3 hb | exact ep5 hb | exact ep7 hb) rfl (Nat.le_of_ble_eq_true rfl) (by decide) ?_
          refine eg_Vb1 (bc' := gF g F - gF g (T ++ rpT (noT v) i.toNat ++ 59 :: noW v i ++ nmT (gN v i 0) ++ noP v i 1 ++ noP v i 2 ++ nmT (gN v i 3)).length) (bs' := slG (gF g F) - slG (gF g (T ++ rpT (noT v) i.toNat ++ 59 :: noW v i ++ nmT (gN v i 0) ++ noP v i 1 ++ noP v i 2 ++ nmT (gN v i 3)).length)) cs_X7_37 dX7_putNominations_108 (c_pN hS0 ⟨by omega, by omega⟩ (by simp only [List.length_append, List.length_cons]; omega)) er196 rfl (Nat.le_of_ble_eq_true rfl) (by decide) (bc_a (by simp only [List.length_append, List.length_cons]; omega) (by simp only [List.length_append, List.length_cons]; omega)) (bs_a (by simp only [List.length_append, List.length_cons]; omega) (by simp only [List.length_append, List.length_cons]; omega)) ?_
          rintro n1 z1 X1 ⟨fr1, hS1⟩
          refine eg_iinc dX7_putNominations_111 rfl rfl rfl ?_
          refine eg_goto 2 dX7_putNominations_114 rfl ?_
          have eU : T ++ rpT (noT v) i.toNat ++ 59 :: noW v i ++ nmT (gN v i 0) ++ noP v i 1 ++ noP v i 2 ++ nmT (gN v i 3) = T ++ rpT (noT v) (i + 1).toNat := by rw [rp_s h0]; unfold noT; rw [show rpT (noP v i) 4 = [] ++ noP v i 0 ++ noP v i 1 ++ noP v i 2 ++ noP v i 3 from rfl, n0e, n3e, List.nil_append]; simp only [List.append_assoc]
          rw [eU] at hS1 ⊢
          exact ih (i + 1) z1 X1 n1 _ _ _ (by omega) (by omega) (fun c hc => (fr1 c hc).trans (fr0 c hc)) hS1 (by omega)
        have J86 : ∀ (z0 : eg_Z) (X0 : eg_M) (n0 : Nat) (w5 : Value), (∀ c, c ≠ 197 → z0 c = z c) → SB k z0 X0 n0 (T ++ rpT (noT v) i.toNat ++ 59 :: noW v i ++ nmT (gN v i 0) ++ noP v i 1) (gF g (T ++ rpT (noT v) i.toNat ++ 59 :: noW v i ++ nmT (gN v i 0) ++ noP v i 1).length) → eg_E k gX7_putNominations 7 (gF g F - gF g (T ++ rpT (noT v) i.toNat ++ 59 :: noW v i ++ nmT (gN v i 0) ++ noP v i 1).length) (slG (gF g F) - slG (gF g (T ++ rpT (noT v) i.toNat ++ 59 :: noW v i ++ nmT (gN v i 0) ++ noP v i 1).length)) n0 (enc k z0 X0) [vR k 196, vR k 1, vI i, vI (gN v i 1), vI (gN v i 2), w5] [] 86 (eg_b k none (fun n' z' X' => (∀ c, c ≠ 197 → z' c = z c) ∧ SB k z' X' n' (T ++ rpT (noT v) (v 3).toNat) (gF g (T ++ rpT (noT v) (v 3).toNat).length))) := by
          intro z0 X0 n0 w5 fr0 hS0
          have hp0 : hP z0 1 v := hP_k (fun j hj => fr0 _ (by omega)) hp
          refine eg_iload dX7_putNominations_86 rfl ?_
          refine eg_iconst dX7_putNominations_88 ?_
          refine eg_icmp_eq 98 dX7_putNominations_89 ⟨by omega, by omega⟩ ⟨by omega, by omega⟩ rfl (fun h89 => ?_) (fun h89 => ?_)
          · have ne : noP v i 2 = [] := noP_y ⟨h89, by decide⟩
            have eU : T ++ rpT (noT v) i.toNat ++ 59 :: noW v i ++ nmT (gN v i 0) ++ noP v i 1 = T ++ rpT (noT v) i.toNat ++ 59 :: noW v i ++ nmT (gN v i 0) ++ noP v i 1 ++ noP v i 2 := by rw [ne, List.append_nil]
            rw [eU] at hS0 ⊢
            exact J98 z0 X0 n0 w5 fr0 hS0
          · have ne : noP v i 2 = nmT (gN v i 2) := noP_n (fun hh => h89 hh.1)
            rw [ne] at hFi
            refine eg_al_n dX7_putNominations_92 rfl rfl ?_
            refine eg_iload dX7_putNominations_93 rfl ?_
            refine eg_Vb1 (bc' := gF g F - gF g (T ++ rpT (noT v) i.toNat ++ 59 :: noW v i ++ nmT (gN v i 0) ++ noP v i 1 ++ nmT (gN v i 2)).length) (bs' := slG (gF g F) - slG (gF g (T ++ rpT (noT v) i.toNat ++ 59 :: noW v i ++ nmT (gN v i 0) ++ noP v i 1 ++ nmT (gN v i 2)).length)) cs_X7_37 dX7_putNominations_95 (c_pN hS0 ⟨by omega, by omega⟩ (by simp only [List.length_append, List.length_cons]; omega)) er196 rfl (Nat.le_of_ble_eq_true rfl) (by decide) (bc_a (by simp only [List.length_append, List.length_cons]; omega) (by simp only [List.length_append, List.length_cons]; omega)) (bs_a (by simp only [List.length_append, List.length_cons]; omega) (by simp only [List.length_append, List.length_cons]; omega)) ?_
            rintro n1 z1 X1 ⟨fr1, hS1⟩
            rw [← ne] at hS1 ⊢
            exact J98 z1 X1 n1 w5 (fun c hc => (fr1 c hc).trans (fr0 c hc)) hS1
        have J76 : ∀ (z0 : eg_Z) (X0 : eg_M) (n0 : Nat) (w5 : Value), (∀ c, c ≠ 197 → z0 c = z c) → SB k z0 X0 n0 (T ++ rpT (noT v) i.toNat ++ 59 :: noW v i ++ nmT (gN v i 0)) (gF g (T ++ rpT (noT v) i.toNat ++ 59 :: noW v i ++ nmT (gN v i 0)).length) → eg_E k gX7_putNominations 7 (gF g F - gF g (T ++ rpT (noT v) i.toNat ++ 59 :: noW v i ++ nmT (gN v i 0)).length) (slG (gF g F) - slG (gF g (T ++ rpT (noT v) i.toNat ++ 59 :: noW v i ++ nmT (gN v i 0)).length)) n0 (enc k z0 X0) [vR k 196, vR k 1, vI i, vI (gN v i 1), vI (gN v i 2), w5] [] 76 (eg_b k none (fun n' z' X' => (∀ c, c ≠ 197 → z' c = z c) ∧ SB k z' X' n' (T ++ rpT (noT v) (v 3).toNat) (gF g (T ++ rpT (noT v) (v 3).toNat).length))) := by
          intro z0 X0 n0 w5 fr0 hS0
          have hp0 : hP z0 1 v := hP_k (fun j hj => fr0 _ (by omega)) hp
          refine eg_iload_n dX7_putNominations_76 rfl ?_
          refine eg_iconst dX7_putNominations_77 ?_
          refine eg_icmp_eq 86 dX7_putNominations_78 ⟨by omega, by omega⟩ ⟨by omega, by omega⟩ rfl (fun h78 => ?_) (fun h78 => ?_)
          · have ne : noP v i 1 = [] := noP_y ⟨h78, by decide⟩
            have eU : T ++ rpT (noT v) i.toNat ++ 59 :: noW v i ++ nmT (gN v i 0) = T ++ rpT (noT v) i.toNat ++ 59 :: noW v i ++ nmT (gN v i 0) ++ noP v i 1 := by rw [ne, List.append_nil]
            rw [eU] at hS0 ⊢
            exact J86 z0 X0 n0 w5 fr0 hS0
          · have ne : noP v i 1 = nmT (gN v i 1) := noP_n (fun hh => h78 hh.1)
            rw [ne] at hFi
            refine eg_al_n dX7_putNominations_81 rfl rfl ?_
            refine eg_iload_n dX7_putNominations_82 rfl ?_
            refine eg_Vb1 (bc' := gF g F - gF g (T ++ rpT (noT v) i.toNat ++ 59 :: noW v i ++ nmT (gN v i 0) ++ nmT (gN v i 1)).length) (bs' := slG (gF g F) - slG (gF g (T ++ rpT (noT v) i.toNat ++ 59 :: noW v i ++ nmT (gN v i 0) ++ nmT (gN v i 1)).length)) cs_X7_37 dX7_putNominations_83 (c_pN hS0 ⟨by omega, by omega⟩ (by simp only [List.length_append, List.length_cons]; omega)) er196 rfl (Nat.le_of_ble_eq_true rfl) (by decide) (bc_a (by simp only [List.length_append, List.length_cons]; omega) (by simp only [List.length_append, List.length_cons]; omega)) (bs_a (by simp only [List.length_append, List.length_cons]; omega) (by simp only [List.length_append, List.length_cons]; omega)) ?_
            rintro n1 z1 X1 ⟨fr1, hS1⟩
            rw [← ne] at hS1 ⊢
            exact J86 z1 X1 n1 w5 (fun c hc => (fr1 c hc).trans (fr0 c hc)) hS1
        have J67 : ∀ (z0 : eg_Z) (X0 : eg_M) (n0 : Nat) (w5 : Value), (∀ c, c ≠ 197 → z0 c = z c) → SB k z0 X0 n0 (T ++ rpT (noT v) i.toNat ++ 59 :: noW v i) (gF g (T ++ rpT (noT v) i.toNat ++ 59 :: noW v i).length) → eg_E k gX7_putNominations 7 (gF g F - gF g (T ++ rpT (noT v) i.toNat ++ 59 :: noW v i).length) (slG (gF g F) - slG (gF g (T ++ rpT (noT v) i.toNat ++ 59 :: noW v i).length)) n0 (enc k z0 X0) [vR k 196, vR k 1, vI i, vI (gN v i 1), vI (gN v i 2), w5] [] 67 (eg_b k none (fun n' z' X' => (∀ c, c ≠ 197 → z' c = z c) ∧ SB k z' X' n' (T ++ rpT (noT v) (v 3).toNat) (gF g (T ++ rpT (noT v) (v 3).toNat).length))) := by
          intro z0 X0 n0 w5 fr0 hS0
          have hp0 : hP z0 1 v := hP_k (fun j hj => fr0 _ (by omega)) hp
          refine eg_al_n dX7_putNominations_67 rfl rfl ?_
          refine eg_al_n dX7_putNominations_68 rfl rfl ?_
          refine eg_iload_n dX7_putNominations_69 rfl ?_
          refine eg_Vf1 cs_X7_117 dX7_putNominations_70 (c_X2_shipperOf hb hp0 hv h0 (by omega)) (by first | exact er196 | exact ep0 hb | exact ep1 hb | exact ep3 hb | exact ep5 hb | exact ep7 hb) rfl (Nat.le_of_ble_eq_true rfl) (by decide) ?_
          refine eg_Vb1 (bc' := gF g F - gF g (T ++ rpT (noT v) i.toNat ++ 59 :: noW v i ++ nmT (gN v i 0)).length) (bs' := slG (gF g F) - slG (gF g (T ++ rpT (noT v) i.toNat ++ 59 :: noW v i ++ nmT (gN v i 0)).length)) cs_X7_37 dX7_putNominations_73 (c_pN hS0 ⟨by omega, by omega⟩ (by simp only [List.length_append, List.length_cons]; omega)) er196 rfl (Nat.le_of_ble_eq_true rfl) (by decide) (bc_a (by simp only [List.length_append, List.length_cons]; omega) (by simp only [List.length_append, List.length_cons]; omega)) (bs_a (by simp only [List.length_append, List.length_cons]; omega) (by simp only [List.length_append, List.length_cons]; omega)) ?_
          rintro n1 z1 X1 ⟨fr1, hS1⟩
          exact J76 z1 X1 n1 w5 (fun c hc => (fr1 c hc).trans (fr0 c hc)) hS1
        refine eg_al_n dX7_putNominations_13 rfl rfl ?_
        refine eg_get fl_X7_105 dX7_putNominations_14 (by first | exact er196 | exact ep0 hb | exact ep1 hb | exact ep3 hb | exact ep5 hb | exact ep7 hb) rfl ?_
        refine eg_iload_n dX7_putNominations_17 rfl ?_
        refine eg_iconst dX7_putNominations_18 ?_
        refine eg_Vf2 cs_X7_81 dX7_putNominations_19 (nm_at hb hpy hv h0 (by omega) (by omega) (by omega)) (by first | exact er196 | exact ep0 hb | exact ep1 hb | exact ep3 hb | exact ep5 hb | exact ep7 hb) rfl (Nat.le_of_ble_eq_true rfl) (by decide) ?_
        refine eg_istore_n dX7_putNominations_22 rfl rfl rfl ?_
        refine eg_al_n dX7_putNominations_23 rfl rfl ?_
        refine eg_get fl_X7_105 dX7_putNominations_24 (by first | exact er196 | exact ep0 hb | exact ep1 hb | exact ep3 hb | exact ep5 hb | exact ep7 hb) rfl ?_
        refine eg_iload_n dX7_putNominations_27 rfl ?_
        refine eg_iconst dX7_putNominations_28 ?_
        refine eg_Vf2 cs_X7_81 dX7_putNominations_29 (nm_at hb hpy hv h0 (by omega) (by omega) (by omega)) (by first | exact er196 | exact ep0 hb | exact ep1 hb | exact ep3 hb | exact ep5 hb | exact ep7 hb) rfl (Nat.le_of_ble_eq_true rfl) (by decide) ?_
        refine eg_istore dX7_putNominations_32 rfl rfl rfl ?_
        refine eg_iload_n dX7_putNominations_34 rfl ?_
        refine eg_iconst dX7_putNominations_35 ?_
        refine eg_icmp_ne 44 dX7_putNominations_36 ⟨by omega, by omega⟩ ⟨by omega, by omega⟩ rfl (fun h36 => ?_) (fun h36 => ?_)
        · refine eg_ldcS (i := 16) rfl dX7_putNominations_44 ?_
          refine eg_as dX7_putNominations_46 rfl rfl rfl rfl ?_
          refine eg_al_n dX7_putNominations_48 rfl rfl ?_
          refine eg_al_n dX7_putNominations_49 rfl rfl ?_
          refine eg_iload_n dX7_putNominations_50 rfl ?_
          refine eg_Vf1 cs_X7_112 dX7_putNominations_51 (c_X2_goesAlong hb hpy hv h0 (by omega)) (by first | exact er196 | exact ep0 hb | exact ep1 hb | exact ep3 hb | exact ep5 hb | exact ep7 hb) rfl (Nat.le_of_ble_eq_true rfl) (by decide) ?_
          refine eg_bi_eq 62 dX7_putNominations_54 rfl (fun h54 => ?_) (fun h54 => ?_)
          · refine eg_al dX7_putNominations_62 rfl rfl ?_
            have nW : noW v i = wPrk := by unfold noW; rw [if_pos (by by_cases e9 : gN v i 2 = -1; exact e9; exact absurd ⟨h36, e9⟩ h54)]
            have nL : noW v i = eg_tx 16 := nW
            rw [nL] at hFi
            refine eg_Vb1 (bc' := gF g F - gF g (T ++ rpT (noT v) i.toNat ++ 59 :: eg_tx 16).length) (bs' := slG (gF g F) - slG (gF g (T ++ rpT (noT v) i.toNat ++ 59 :: eg_tx 16).length)) cs_X7_55 dX7_putNominations_64 (c_pW (i := 16) hw (by decide) (by simp only [List.length_append, List.length_cons]; omega)) er196 rfl (Nat.le_of_ble_eq_true rfl) (by decide) (bc_a (by simp only [List.length_append, List.length_cons]; omega) (by simp only [List.length_append, List.length_cons]; omega)) (bs_a (by simp only [List.length_append, List.length_cons]; omega) (by simp only [List.length_append, List.length_cons]; omega)) ?_
            rintro n1 z1 X1 ⟨fr1, hS1⟩
            have eW : (59 :: eg_tx 16 : List Int) = 59 :: noW v i := by rw [nL]
            rw [eW] at hS1 ⊢
            exact J67 z1 X1 n1 _ (fun c hc => (fr1 c hc).trans (fr c hc)) hS1
          · refine eg_ldcS (i := 17) rfl dX7_putNominations_57 ?_
            refine eg_goto 64 dX7_putNominations_59 rfl ?_
            have nW : noW v i = wNom := by unfold noW; rw [if_neg h54.2, if_neg h54.1]
            have nL : noW v i = eg_tx 17 := nW
            rw [nL] at hFi
            refine eg_Vb1 (bc' := gF g F - gF g (T ++ rpT (noT v) i.toNat ++ 59 :: eg_tx 17).length) (bs' := slG (gF g F) - slG (gF g (T ++ rpT (noT v) i.toNat ++ 59 :: eg_tx 17).length)) cs_X7_55 dX7_putNominations_64 (c_pW (i := 17) hw (by decide) (by simp only [List.length_append, List.length_cons]; omega)) er196 rfl (Nat.le_of_ble_eq_true rfl) (by decide) (bc_a (by simp only [List.length_append, List.length_cons]; omega) (by simp only [List.length_append, List.length_cons]; omega)) (bs_a (by simp only [List.length_append, List.length_cons]; omega) (by simp only [List.length_append, List.length_cons]; omega)) ?_
            rintro n1 z1 X1 ⟨fr1, hS1⟩
            have eW : (59 :: eg_tx 17 : List Int) = 59 :: noW v i := by rw [nL]
            rw [eW] at hS1 ⊢
            exact J67 z1 X1 n1 _ (fun c hc => (fr1 c hc).trans (fr c hc)) hS1
        · refine eg_ldcS (i := 15) rfl dX7_putNominations_39 ?_
          refine eg_goto 46 dX7_putNominations_41 rfl ?_
          refine eg_as dX7_putNominations_46 rfl rfl rfl rfl ?_
          refine eg_al_n dX7_putNominations_48 rfl rfl ?_
          refine eg_al_n dX7_putNominations_49 rfl rfl ?_
          refine eg_iload_n dX7_putNominations_50 rfl ?_
          refine eg_Vf1 cs_X7_112 dX7_putNominations_51 (c_X2_goesAlong hb hpy hv h0 (by omega)) (by first | exact er196 | exact ep0 hb | exact ep1 hb | exact ep3 hb | exact ep5 hb | exact ep7 hb) rfl (Nat.le_of_ble_eq_true rfl) (by decide) ?_
          refine eg_bi_eq 62 dX7_putNominations_54 rfl (fun h54 => ?_) (fun h54 => ?_)
          · refine eg_al dX7_putNominations_62 rfl rfl ?_
            have nW : noW v i = wLon := by unfold noW; rw [if_neg (by omega), if_pos h36]
            have nL : noW v i = eg_tx 15 := nW
            rw [nL] at hFi
            refine eg_Vb1 (bc' := gF g F - gF g (T ++ rpT (noT v) i.toNat ++ 59 :: eg_tx 15).length) (bs' := slG (gF g F) - slG (gF g (T ++ rpT (noT v) i.toNat ++ 59 :: eg_tx 15).length)) cs_X7_55 dX7_putNominations_64 (c_pW (i := 15) hw (by decide) (by simp only [List.length_append, List.length_cons]; omega)) er196 rfl (Nat.le_of_ble_eq_true rfl) (by decide) (bc_a (by simp only [List.length_append, List.length_cons]; omega) (by simp only [List.length_append, List.length_cons]; omega)) (bs_a (by simp only [List.length_append, List.length_cons]; omega) (by simp only [List.length_append, List.length_cons]; omega)) ?_
            rintro n1 z1 X1 ⟨fr1, hS1⟩
            have eW : (59 :: eg_tx 15 : List Int) = 59 :: noW v i := by rw [nL]
            rw [eW] at hS1 ⊢
            exact J67 z1 X1 n1 _ (fun c hc => (fr1 c hc).trans (fr c hc)) hS1
          · refine eg_ldcS (i := 17) rfl dX7_putNominations_57 ?_
            refine eg_goto 64 dX7_putNominations_59 rfl ?_
            exact absurd h36 h54.1
  refine eg_iconst dX7_putNominations_0 ?_
  refine eg_istore_n dX7_putNominations_1 rfl rfl rfl ?_
  have e0 : T ++ rpT (noT v) (0 : Int).toNat = T := List.append_nil T
  have L9 := L2 20 0 z X n vU vU vU (by omega) (by omega) (fun _ _ => rfl) (by rw [e0]; exact hS) (by omega)
  rw [e0] at L9
  exact L9
