theorem gF_m {g a b : Nat} (h : a ≤ b) : gF g a ≤ gF g b := by have := ix_m h; unfold gF; (repeat' split) <;> omega
theorem gF_0 {g N : Nat} (hg : g ≤ 6) (h : N ≤ cpG g) : gF g N = g := by
  have cb := cpG_b hg
  rw [← gI_F hg (by omega) (by omega)]
  exact if_pos h
theorem bc_a {g a b F : Nat} (h1 : a ≤ b) (h2 : b ≤ F) : gF g F - gF g a = (gF g b - gF g a) + (gF g F - gF g b) := by
  have a1 := gF_m (g := g) h1
  have a2 := gF_m (g := g) h2
  omega
theorem bs_a {g a b F : Nat} (h1 : a ≤ b) (h2 : b ≤ F) : slG (gF g F) - slG (gF g a) = (slG (gF g b) - slG (gF g a)) + (slG (gF g F) - slG (gF g b)) := by
  have a1 := slG_m (gF_m (g := g) h1)
  have a2 := slG_m (gF_m (g := g) h2)
  omega
theorem rp_mo {f : Int → List Int} {a b : Nat} (h : a ≤ b) : (rpT f a).length ≤ (rpT f b).length := by
  induction b with
  | zero => rw [Nat.le_zero.mp h]; exact Nat.le_refl _
  | succ b ih =>
    by_cases e : a = b + 1
    · rw [e]; exact Nat.le_refl _
    · have := ih (by omega)
      show _ ≤ (rpT f b ++ f (b : Int)).length
      rw [List.length_append]
      omega
theorem sgT_l (v : eg_v) (i : Int) : (sgT v i).length = 8 + (nmT i).length + (nmT (gS v i 0)).length + (nmT (gS v i 1)).length := by
  unfold sgT; rw [List.length_append, List.length_append, List.length_append]; rfl
theorem ptT_l (v : eg_v) (i : Int) : (ptT v i).length = (59 :: (if gP v i 1 = 1 then wIn else wOut)).length + (nmT (gP v i 0)).length + (nmT (gP v i 2)).length := by
  unfold ptT; rw [List.length_append, List.length_append]
theorem shT_l (v : eg_v) (i : Int) : (shT v i).length = 8 + (rpT (fun c => nmT (gH v i c)) 4).length := by
  unfold shT; rw [List.length_append]; rfl
theorem noT_l (v : eg_v) (i : Int) : (noT v i).length = (59 :: noW v i).length + (rpT (noP v i) 4).length := by
  unfold noT; rw [List.length_append]
theorem c_pW {k : eg_K} {z : eg_Z} {X : eg_M} {n : Nat} {U : List Int} {g : Nat} (hS : SB k z X n U (gF g U.length)) {i : Nat} (hi : i < 35) (h9 : (U ++ 59 :: eg_tx i).length ≤ 1150) : eg_P k gX7_putWord 6 (gF g (U ++ 59 :: eg_tx i).length - gF g U.length) (slG (gF g (U ++ 59 :: eg_tx i).length) - slG (gF g U.length)) [vR k 196, vS k i] n (enc k z X) (eg_b k none (fun n' z' X' => (∀ c, c ≠ 197 → z' c = z c) ∧ SB k z' X' n' (U ++ 59 :: eg_tx i) (gF g (U ++ 59 :: eg_tx i).length))) := by
  have e : (U ++ 59 :: eg_tx i).length = U.length + (1 + (eg_tx i).length) := by rw [List.length_append, Nat.add_comm 1]; rfl
  have s := c_putWord (k := k) hS hi e h9
  rw [gF_c (show U.length ≤ (U ++ 59 :: eg_tx i).length by omega)] at s
  exact s
theorem c_pN {k : eg_K} {z : eg_Z} {X : eg_M} {n : Nat} {U : List Int} {g : Nat} (hS : SB k z X n U (gF g U.length)) {x : Int} (hx : 0 ≤ x ∧ x ≤ 9999) (h9 : (U ++ nmT x).length ≤ 1150) : eg_P k gX7_putNumber 6 (gF g (U ++ nmT x).length - gF g U.length) (slG (gF g (U ++ nmT x).length) - slG (gF g U.length)) [vR k 196, vI x] n (enc k z X) (eg_b k none (fun n' z' X' => (∀ c, c ≠ 197 → z' c = z c) ∧ SB k z' X' n' (U ++ nmT x) (gF g (U ++ nmT x).length))) := by
  have e : (U ++ nmT x).length = U.length + (1 + (ndF 3 x).length) := by rw [List.length_append, Nat.add_comm 1]; rfl
  have s := c_putNumber (k := k) hS hx e h9
  rw [gF_c (show U.length ≤ (U ++ nmT x).length by omega)] at s
  exact s
theorem c_putSegments {k : eg_K} {z : eg_Z} {X : eg_M} {n : Nat} {v : eg_v} {B : Int} (hp : hP z 1 v) (hv : VV B v) {T : List Int} {g F : Nat} (hS : SB k z X n T (gF g T.length)) (hFe : F = (T ++ rpT (sgT v) (segs v).toNat).length) (hF : F ≤ 1150) : eg_P k gX7_putSegments 7 (gF g F - gF g (T).length) (slG (gF g F) - slG (gF g (T).length)) [vR k 196, vR k 1] n (enc k z X) (eg_b k none (fun n' z' X' => (∀ c, c ≠ 197 → z' c = z c) ∧ SB k z' X' n' (T ++ rpT (sgT v) (segs v).toNat) (gF g (T ++ rpT (sgT v) (segs v).toNat).length))) := by
  refine eg_P.of (by decide) (Nat.le_of_ble_eq_true rfl) ?_
  show eg_E k gX7_putSegments 7 (gF g F - gF g (T).length) (slG (gF g F) - slG (gF g (T).length)) n (enc k z X) [vR k 196, vR k 1, vU] [] 0 _
  have hb : isB 1 = true := by decide
  have sg := hv.sgs
  have L2 : ∀ (mm : Nat) (i : Int) (y : eg_Z) (Y : eg_M) (m : Nat), (0 ≤ i) → (i ≤ segs v) → (∀ c, c ≠ 197 → y c = z c) → (SB k y Y m (T ++ rpT (sgT v) i.toNat) (gF g (T ++ rpT (sgT v) i.toNat).length)) → segs v - i < (mm : Int) → eg_E k gX7_putSegments 7 (gF g F - gF g (T ++ rpT (sgT v) i.toNat).length) (slG (gF g F) - slG (gF g (T ++ rpT (sgT v) i.toNat).length)) m (enc k y Y) [vR k 196, vR k 1, vI i] [] 2 (eg_b k none (fun n' z' X' => (∀ c, c ≠ 197 → z' c = z c) ∧ SB k z' X' n' (T ++ rpT (sgT v) (segs v).toNat) (gF g (T ++ rpT (sgT v) (segs v).toNat).length))) := by
    intro mm
    induction mm with
    | zero => intro i y Y m h0 h1 fr hw hmm; exfalso; omega
    | succ mm ih =>
      intro i y Y m h0 h1 fr hw hmm
      have hpy : hP y 1 v := hP_k (fun j hj => fr _ (by omega)) hp
      refine eg_iload_n dX7_putSegments_2 rfl ?_
      refine eg_al_n dX7_putSegments_3 rfl rfl ?_
      refine eg_get fl_X7_70 dX7_putSegments_4 (by first | exact er196 | exact ep0 hb | exact ep1 hb | exact ep3 hb | exact ep5 hb | exact ep7 hb) rfl ?_
      refine eg_get fl_X7_74 dX7_putSegments_7 (by first | exact er196 | exact ep0 hb | exact ep1 hb | exact ep3 hb | exact ep5 hb | exact ep7 hb) rfl ?_
      refine eg_eqI hpy.2.1.1 ?_
      refine eg_icmp_ge 56 dX7_putSegments_10 ⟨by omega, by omega⟩ ⟨by omega, by omega⟩ rfl (fun h10 => ?_) (fun h10 => ?_)
      · refine eg_return dX7_putSegments_56 rfl ?_
        have ei : i = segs v := by omega
        subst ei
        exact ⟨rfl, y, Y, rfl, fr, hw⟩
      · have os := hv.S h0 (show i < 7 by omega)
        unfold okS at os
        have hFi : (T ++ rpT (sgT v) (i + 1).toNat).length ≤ F := by rw [hFe, List.length_append, List.length_append]; have := rp_mo (f := sgT v) (show (i + 1).toNat ≤ (segs v).toNat by omega); omega
        rw [rp_s h0, List.length_append, List.length_append, sgT_l] at hFi
        have l11 : (eg_tx 11).length = 7 := rfl
        have lw : wSeg.length = 7 := rfl
        refine eg_al_n dX7_putSegments_13 rfl rfl ?_
        refine eg_ldcS (i := 11) rfl dX7_putSegments_14 ?_
        refine eg_Vb1 (bc' := gF g F - gF g (T ++ rpT (sgT v) i.toNat ++ 59 :: wSeg).length) (bs' := slG (gF g F) - slG (gF g (T ++ rpT (sgT v) i.toNat ++ 59 :: wSeg).length)) cs_X7_55 dX7_putSegments_16 (c_pW (i := 11) hw (by decide) (by simp only [List.length_append, List.length_cons]; omega)) er196 rfl (Nat.le_of_ble_eq_true rfl) (by decide) (bc_a (by simp only [List.length_append, List.length_cons]; omega) (by simp only [List.length_append, List.length_cons]; omega)) (bs_a (by simp only [List.length_append, List.length_cons]; omega) (by simp only [List.length_append, List.length_cons]; omega)) ?_
        rintro n1 z1 X1 ⟨fr1, hS1⟩
        have hS1 : SB k z1 X1 n1 (T ++ rpT (sgT v) i.toNat ++ 59 :: wSeg) (gF g (T ++ rpT (sgT v) i.toNat ++ 59 :: wSeg).length) := hS1
        refine eg_al_n dX7_putSegments_19 rfl rfl ?_
        refine eg_iload_n dX7_putSegments_20 rfl ?_
        refine eg_Vb1 (bc' := gF g F - gF g (T ++ rpT (sgT v) i.toNat ++ 59 :: wSeg ++ nmT i).length) (bs' := slG (gF g F) - slG (gF g (T ++ rpT (sgT v) i.toNat ++ 59 :: wSeg ++ nmT i).length)) cs_X7_37 dX7_putSegments_21 (c_pN hS1 ⟨h0, by omega⟩ (by simp only [List.length_append, List.length_cons]; omega)) er196 rfl (Nat.le_of_ble_eq_true rfl) (by decide) (bc_a (by simp only [List.length_append, List.length_cons]; omega) (by simp only [List.length_append, List.length_cons]; omega)) (bs_a (by simp only [List.length_append, List.length_cons]; omega) (by simp only [List.length_append, List.length_cons]; omega)) ?_
        rintro n2 z2 X2 ⟨fr2, hS2⟩
        have hp2 : hP z2 1 v := hP_k (fun j hj => (fr2 _ (by omega)).trans (fr1 _ (by omega))) hpy
        refine eg_al_n dX7_putSegments_24 rfl rfl ?_
        refine eg_al_n dX7_putSegments_25 rfl rfl ?_
        refine eg_get fl_X7_70 dX7_putSegments_26 (by first | exact er196 | exact ep0 hb | exact ep1 hb | exact ep3 hb | exact ep5 hb | exact ep7 hb) rfl ?_
        refine eg_iload_n dX7_putSegments_29 rfl ?_
        refine eg_iconst dX7_putSegments_30 ?_
        refine eg_Vf2 cs_X7_81 dX7_putSegments_31 (sg_at hb hp2 hv h0 (by omega) (by omega) (by omega)) (by first | exact er196 | exact ep0 hb | exact ep1 hb | exact ep3 hb | exact ep5 hb | exact ep7 hb) rfl (Nat.le_of_ble_eq_true rfl) (by decide) ?_
        refine eg_Vb1 (bc' := gF g F - gF g (T ++ rpT (sgT v) i.toNat ++ 59 :: wSeg ++ nmT i ++ nmT (gS v i 0)).length) (bs' := slG (gF g F) - slG (gF g (T ++ rpT (sgT v) i.toNat ++ 59 :: wSeg ++ nmT i ++ nmT (gS v i 0)).length)) cs_X7_37 dX7_putSegments_34 (c_pN hS2 ⟨by omega, by omega⟩ (by simp only [List.length_append, List.length_cons]; omega)) er196 rfl (Nat.le_of_ble_eq_true rfl) (by decide) (bc_a (by simp only [List.length_append, List.length_cons]; omega) (by simp only [List.length_append, List.length_cons]; omega)) (bs_a (by simp only [List.length_append, List.length_cons]; omega) (by simp only [List.length_append, List.length_cons]; omega)) ?_
        rintro n3 z3 X3 ⟨fr3, hS3⟩
        have hp3 : hP z3 1 v := hP_k (fun j hj => fr3 _ (by omega)) hp2
        refine eg_al_n dX7_putSegments_37 rfl rfl ?_
        refine eg_al_n dX7_putSegments_38 rfl rfl ?_
        refine eg_get fl_X7_70 dX7_putSegments_39 (by first | exact er196 | exact ep0 hb | exact ep1 hb | exact ep3 hb | exact ep5 hb | exact ep7 hb) rfl ?_
        refine eg_iload_n dX7_putSegments_42 rfl ?_
        refine eg_iconst dX7_putSegments_43 ?_
        refine eg_Vf2 cs_X7_81 dX7_putSegments_44 (sg_at hb hp3 hv h0 (by omega) (by omega) (by omega)) (by first | exact er196 | exact ep0 hb | exact ep1 hb | exact ep3 hb | exact ep5 hb | exact ep7 hb) rfl (Nat.le_of_ble_eq_true rfl) (by decide) ?_
        refine eg_Vb1 (bc' := gF g F - gF g (T ++ rpT (sgT v) i.toNat ++ 59 :: wSeg ++ nmT i ++ nmT (gS v i 0) ++ nmT (gS v i 1)).length) (bs' := slG (gF g F) - slG (gF g (T ++ rpT (sgT v) i.toNat ++ 59 :: wSeg ++ nmT i ++ nmT (gS v i 0) ++ nmT (gS v i 1)).length)) cs_X7_37 dX7_putSegments_47 (c_pN hS3 ⟨by omega, by omega⟩ (by simp only [List.length_append, List.length_cons]; omega)) er196 rfl (Nat.le_of_ble_eq_true rfl) (by decide) (bc_a (by simp only [List.length_append, List.length_cons]; omega) (by simp only [List.length_append, List.length_cons]; omega)) (bs_a (by simp only [List.length_append, List.length_cons]; omega) (by simp only [List.length_append, List.length_cons]; omega)) ?_
        rintro n4 z4 X4 ⟨fr4, hS4⟩
        refine eg_iinc dX7_putSegments_50 rfl rfl rfl ?_
        refine eg_goto 2 dX7_putSegments_53 rfl ?_
        have eU : T ++ rpT (sgT v) i.toNat ++ 59 :: wSeg ++ nmT i ++ nmT (gS v i 0) ++ nmT (gS v i 1) = T ++ rpT (sgT v) (i + 1).toNat := by rw [rp_s h0]; unfold sgT; simp only [List.append_assoc]
        rw [eU] at hS4 ⊢
        exact ih (i + 1) z4 X4 n4 (by omega) (by omega) (fun c hc => (fr4 c hc).trans ((fr3 c hc).trans ((fr2 c hc).trans ((fr1 c hc).trans (fr c hc))))) hS4 (by omega)
  refine eg_iconst dX7_putSegments_0 ?_
  refine eg_istore_n dX7_putSegments_1 rfl rfl rfl ?_
  have e0 : T ++ rpT (sgT v) (0 : Int).toNat = T := List.append_nil T
  have L9 := L2 9 0 z X n (by omega) (by omega) (fun _ _ => rfl) (by rw [e0]; exact hS) (by omega)
  rw [e0] at L9
  exact L9
