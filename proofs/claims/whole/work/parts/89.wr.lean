theorem c_putPoints {k : eg_K} {z : eg_Z} {X : eg_M} {n : Nat} {v : eg_v} {B : Int} (hp : hP z 1 v) (hv : VV B v) {T : List Int} {g F : Nat} (hS : SB k z X n T (gF g T.length)) (hFe : F = (T ++ rpT (ptT v) (v 1).toNat).length) (hF : F ≤ 1150) : eg_P k gX7_putPoints 7 (gF g F - gF g (T).length) (slG (gF g F) - slG (gF g (T).length)) [vR k 196, vR k 1] n (enc k z X) (eg_b k none (fun n' z' X' => (∀ c, c ≠ 197 → z' c = z c) ∧ SB k z' X' n' (T ++ rpT (ptT v) (v 1).toNat) (gF g (T ++ rpT (ptT v) (v 1).toNat).length))) := by
  refine eg_P.of (by decide) (Nat.le_of_ble_eq_true rfl) ?_
  show eg_E k gX7_putPoints 7 (gF g F - gF g (T).length) (slG (gF g F) - slG (gF g (T).length)) n (enc k z X) [vR k 196, vR k 1, vU] [] 0 _
  have hb : isB 1 = true := by decide
  have q := hv.r.2
  have L2 : ∀ (mm : Nat) (i : Int) (y : eg_Z) (Y : eg_M) (m : Nat), (0 ≤ i) → (i ≤ v 1) → (∀ c, c ≠ 197 → y c = z c) → (SB k y Y m (T ++ rpT (ptT v) i.toNat) (gF g (T ++ rpT (ptT v) i.toNat).length)) → v 1 - i < (mm : Int) → eg_E k gX7_putPoints 7 (gF g F - gF g (T ++ rpT (ptT v) i.toNat).length) (slG (gF g F) - slG (gF g (T ++ rpT (ptT v) i.toNat).length)) m (enc k y Y) [vR k 196, vR k 1, vI i] [] 2 (eg_b k none (fun n' z' X' => (∀ c, c ≠ 197 → z' c = z c) ∧ SB k z' X' n' (T ++ rpT (ptT v) (v 1).toNat) (gF g (T ++ rpT (ptT v) (v 1).toNat).length))) := by
    intro mm
    induction mm with
    | zero => intro i y Y m h0 h1 fr hw hmm; exfalso; omega
    | succ mm ih =>
      intro i y Y m h0 h1 fr hw hmm
      have hpy : hP y 1 v := hP_k (fun j hj => fr _ (by omega)) hp
      refine eg_iload_n dX7_putPoints_2 rfl ?_
      refine eg_al_n dX7_putPoints_3 rfl rfl ?_
      refine eg_get fl_X7_85 dX7_putPoints_4 (by first | exact er196 | exact ep0 hb | exact ep1 hb | exact ep3 hb | exact ep5 hb | exact ep7 hb) rfl ?_
      refine eg_get fl_X7_74 dX7_putPoints_7 (by first | exact er196 | exact ep0 hb | exact ep1 hb | exact ep3 hb | exact ep5 hb | exact ep7 hb) rfl ?_
      refine eg_eqI hpy.2.1.2.1 ?_
      refine eg_icmp_ge 60 dX7_putPoints_10 ⟨by omega, by omega⟩ ⟨by omega, by omega⟩ rfl (fun h10 => ?_) (fun h10 => ?_)
      · refine eg_return dX7_putPoints_60 rfl ?_
        have ei : i = v 1 := by omega
        subst ei
        exact ⟨rfl, y, Y, rfl, fr, hw⟩
      · have op := hv.P h0 (show i < v 1 by omega)
        unfold okP at op
        have hFi : (T ++ rpT (ptT v) (i + 1).toNat).length ≤ F := by rw [hFe, List.length_append, List.length_append]; have := rp_mo (f := ptT v) (show (i + 1).toNat ≤ (v 1).toNat by omega); omega
        rw [rp_s h0, List.length_append, List.length_append, ptT_l] at hFi
        have lI : (eg_tx 12).length = 2 := rfl
        have lO : (eg_tx 13).length = 3 := rfl
        have lw : (59 :: (if gP v i 1 = 1 then wIn else wOut)).length = if gP v i 1 = 1 then 3 else 4 := by split <;> rfl
        have lw2 : (59 :: (if gP v i 1 = 1 then wIn else wOut)).length = (if gP v i 1 = 1 then wIn else wOut).length + 1 := rfl
        rw [lw] at hFi
        have J32 : ∀ (z1 : eg_Z) (X1 : eg_M) (n1 : Nat), (∀ c, c ≠ 197 → z1 c = z c) → SB k z1 X1 n1 (T ++ rpT (ptT v) i.toNat ++ 59 :: (if gP v i 1 = 1 then wIn else wOut)) (gF g (T ++ rpT (ptT v) i.toNat ++ 59 :: (if gP v i 1 = 1 then wIn else wOut)).length) → eg_E k gX7_putPoints 7 (gF g F - gF g (T ++ rpT (ptT v) i.toNat ++ 59 :: (if gP v i 1 = 1 then wIn else wOut)).length) (slG (gF g F) - slG (gF g (T ++ rpT (ptT v) i.toNat ++ 59 :: (if gP v i 1 = 1 then wIn else wOut)).length)) n1 (enc k z1 X1) [vR k 196, vR k 1, vI i] [] 32 (eg_b k none (fun n' z' X' => (∀ c, c ≠ 197 → z' c = z c) ∧ SB k z' X' n' (T ++ rpT (ptT v) (v 1).toNat) (gF g (T ++ rpT (ptT v) (v 1).toNat).length))) := by
          intro z1 X1 n1 fr1 hS1
          have hp1 : hP z1 1 v := hP_k (fun j hj => fr1 _ (by omega)) hp
          refine eg_al_n dX7_putPoints_32 rfl rfl ?_
          refine eg_al_n dX7_putPoints_33 rfl rfl ?_
          refine eg_iload_n dX7_putPoints_34 rfl ?_
          refine eg_Vf1 cs_X7_96 dX7_putPoints_35 (c_X2_hubOf hb hp1 hv h0 (by omega)) (by first | exact er196 | exact ep0 hb | exact ep1 hb | exact ep3 hb | exact ep5 hb | exact ep7 hb) rfl (Nat.le_of_ble_eq_true rfl) (by decide) ?_
          refine eg_Vb1 (bc' := gF g F - gF g (T ++ rpT (ptT v) i.toNat ++ 59 :: (if gP v i 1 = 1 then wIn else wOut) ++ nmT (gP v i 0)).length) (bs' := slG (gF g F) - slG (gF g (T ++ rpT (ptT v) i.toNat ++ 59 :: (if gP v i 1 = 1 then wIn else wOut) ++ nmT (gP v i 0)).length)) cs_X7_37 dX7_putPoints_38 (c_pN hS1 ⟨by omega, by omega⟩ (by simp only [List.length_append, List.length_cons]; omega)) er196 rfl (Nat.le_of_ble_eq_true rfl) (by decide) (bc_a (by simp only [List.length_append, List.length_cons]; omega) (by simp only [List.length_append, List.length_cons]; omega)) (bs_a (by simp only [List.length_append, List.length_cons]; omega) (by simp only [List.length_append, List.length_cons]; omega)) ?_
          rintro n2 z2 X2 ⟨fr2, hS2⟩
          have hp2 : hP z2 1 v := hP_k (fun j hj => fr2 _ (by omega)) hp1
          refine eg_al_n dX7_putPoints_41 rfl rfl ?_
          refine eg_al_n dX7_putPoints_42 rfl rfl ?_
          refine eg_get fl_X7_85 dX7_putPoints_43 (by first | exact er196 | exact ep0 hb | exact ep1 hb | exact ep3 hb | exact ep5 hb | exact ep7 hb) rfl ?_
          refine eg_iload_n dX7_putPoints_46 rfl ?_
          refine eg_iconst dX7_putPoints_47 ?_
          refine eg_Vf2 cs_X7_81 dX7_putPoints_48 (pt_at hb hp2 hv h0 (by omega) (by omega) (by omega)) (by first | exact er196 | exact ep0 hb | exact ep1 hb | exact ep3 hb | exact ep5 hb | exact ep7 hb) rfl (Nat.le_of_ble_eq_true rfl) (by decide) ?_
          refine eg_Vb1 (bc' := gF g F - gF g (T ++ rpT (ptT v) i.toNat ++ 59 :: (if gP v i 1 = 1 then wIn else wOut) ++ nmT (gP v i 0) ++ nmT (gP v i 2)).length) (bs' := slG (gF g F) - slG (gF g (T ++ rpT (ptT v) i.toNat ++ 59 :: (if gP v i 1 = 1 then wIn else wOut) ++ nmT (gP v i 0) ++ nmT (gP v i 2)).length)) cs_X7_37 dX7_putPoints_51 (c_pN hS2 ⟨by omega, by omega⟩ (by simp only [List.length_append, List.length_cons]; omega)) er196 rfl (Nat.le_of_ble_eq_true rfl) (by decide) (bc_a (by simp only [List.length_append, List.length_cons]; omega) (by simp only [List.length_append, List.length_cons]; omega)) (bs_a (by simp only [List.length_append, List.length_cons]; omega) (by simp only [List.length_append, List.length_cons]; omega)) ?_
          rintro n3 z3 X3 ⟨fr3, hS3⟩
          refine eg_iinc dX7_putPoints_54 rfl rfl rfl ?_
          refine eg_goto 2 dX7_putPoints_57 rfl ?_
          have eU : T ++ rpT (ptT v) i.toNat ++ 59 :: (if gP v i 1 = 1 then wIn else wOut) ++ nmT (gP v i 0) ++ nmT (gP v i 2) = T ++ rpT (ptT v) (i + 1).toNat := by rw [rp_s h0]; unfold ptT; simp only [List.append_assoc]
          rw [eU] at hS3 ⊢
          exact ih (i + 1) z3 X3 n3 (by omega) (by omega) (fun c hc => (fr3 c hc).trans ((fr2 c hc).trans (fr1 c hc))) hS3 (by omega)
        refine eg_al_n dX7_putPoints_13 rfl rfl ?_
        refine eg_al_n dX7_putPoints_14 rfl rfl ?_
        refine eg_iload_n dX7_putPoints_15 rfl ?_
        refine eg_Vf1 cs_X7_88 dX7_putPoints_16 (c_X2_isIn hb hpy hv ⟨by omega, by omega⟩) (by first | exact er196 | exact ep0 hb | exact ep1 hb | exact ep3 hb | exact ep5 hb | exact ep7 hb) rfl (Nat.le_of_ble_eq_true rfl) (by decide) ?_
        refine eg_bi_eq 27 dX7_putPoints_19 rfl (fun h19 => ?_) (fun h19 => ?_)
        · refine eg_ldcS (i := 13) rfl dX7_putPoints_27 ?_
          have lb : (if gP v i 1 = 1 then wIn else wOut).length = 3 := by rw [if_neg (fun hh => h19 ⟨h0, by omega, hh⟩)]; rfl
          refine eg_Vb1 (bc' := gF g F - gF g (T ++ rpT (ptT v) i.toNat ++ 59 :: eg_tx 13).length) (bs' := slG (gF g F) - slG (gF g (T ++ rpT (ptT v) i.toNat ++ 59 :: eg_tx 13).length)) cs_X7_55 dX7_putPoints_29 (c_pW (i := 13) hw (by decide) (by simp only [List.length_append, List.length_cons]; omega)) er196 rfl (Nat.le_of_ble_eq_true rfl) (by decide) (bc_a (by simp only [List.length_append, List.length_cons]; omega) (by simp only [List.length_append, List.length_cons]; omega)) (bs_a (by simp only [List.length_append, List.length_cons]; omega) (by simp only [List.length_append, List.length_cons]; omega)) ?_
          rintro n1 z1 X1 ⟨fr1, hS1⟩
          have eW : (59 :: eg_tx 13 : List Int) = 59 :: (if gP v i 1 = 1 then wIn else wOut) := by rw [if_neg (fun hh => h19 ⟨h0, by omega, hh⟩)]; rfl
          rw [eW] at hS1 ⊢
          exact J32 z1 X1 n1 (fun c hc => (fr1 c hc).trans (fr c hc)) hS1
        · refine eg_ldcS (i := 12) rfl dX7_putPoints_22 ?_
          refine eg_goto 29 dX7_putPoints_24 rfl ?_
          have lb : (if gP v i 1 = 1 then wIn else wOut).length = 2 := by rw [if_pos h19.2.2]; rfl
          refine eg_Vb1 (bc' := gF g F - gF g (T ++ rpT (ptT v) i.toNat ++ 59 :: eg_tx 12).length) (bs' := slG (gF g F) - slG (gF g (T ++ rpT (ptT v) i.toNat ++ 59 :: eg_tx 12).length)) cs_X7_55 dX7_putPoints_29 (c_pW (i := 12) hw (by decide) (by simp only [List.length_append, List.length_cons]; omega)) er196 rfl (Nat.le_of_ble_eq_true rfl) (by decide) (bc_a (by simp only [List.length_append, List.length_cons]; omega) (by simp only [List.length_append, List.length_cons]; omega)) (bs_a (by simp only [List.length_append, List.length_cons]; omega) (by simp only [List.length_append, List.length_cons]; omega)) ?_
          rintro n1 z1 X1 ⟨fr1, hS1⟩
          have eW : (59 :: eg_tx 12 : List Int) = 59 :: (if gP v i 1 = 1 then wIn else wOut) := by rw [if_pos h19.2.2]; rfl
          rw [eW] at hS1 ⊢
          exact J32 z1 X1 n1 (fun c hc => (fr1 c hc).trans (fr c hc)) hS1
  refine eg_iconst dX7_putPoints_0 ?_
  refine eg_istore_n dX7_putPoints_1 rfl rfl rfl ?_
  have e0 : T ++ rpT (ptT v) (0 : Int).toNat = T := List.append_nil T
  have L9 := L2 20 0 z X n  (by omega) (by omega) (fun _ _ => rfl) (by rw [e0]; exact hS) (by omega)
  rw [e0] at L9
  exact L9
theorem c_putShippers {k : eg_K} {z : eg_Z} {X : eg_M} {n : Nat} {v : eg_v} {B : Int} (hp : hP z 1 v) (hv : VV B v) {T : List Int} {g F : Nat} (hS : SB k z X n T (gF g T.length)) (hFe : F = (T ++ rpT (shT v) (v 2).toNat).length) (hF : F ≤ 1150) : eg_P k gX7_putShippers 7 (gF g F - gF g (T).length) (slG (gF g F) - slG (gF g (T).length)) [vR k 196, vR k 1] n (enc k z X) (eg_b k none (fun n' z' X' => (∀ c, c ≠ 197 → z' c = z c) ∧ SB k z' X' n' (T ++ rpT (shT v) (v 2).toNat) (gF g (T ++ rpT (shT v) (v 2).toNat).length))) := by
  refine eg_P.of (by decide) (Nat.le_of_ble_eq_true rfl) ?_
  show eg_E k gX7_putShippers 7 (gF g F - gF g (T).length) (slG (gF g F) - slG (gF g (T).length)) n (enc k z X) [vR k 196, vR k 1, vU, vU] [] 0 _
  have hb : isB 1 = true := by decide
  have q := hv.r.2
  have L2 : ∀ (mm : Nat) (i : Int) (y : eg_Z) (Y : eg_M) (m : Nat) (u : Value), (0 ≤ i) → (i ≤ v 2) → (∀ c, c ≠ 197 → y c = z c) → (SB k y Y m (T ++ rpT (shT v) i.toNat) (gF g (T ++ rpT (shT v) i.toNat).length)) → v 2 - i < (mm : Int) → eg_E k gX7_putShippers 7 (gF g F - gF g (T ++ rpT (shT v) i.toNat).length) (slG (gF g F) - slG (gF g (T ++ rpT (shT v) i.toNat).length)) m (enc k y Y) [vR k 196, vR k 1, vI i, u] [] 2 (eg_b k none (fun n' z' X' => (∀ c, c ≠ 197 → z' c = z c) ∧ SB k z' X' n' (T ++ rpT (shT v) (v 2).toNat) (gF g (T ++ rpT (shT v) (v 2).toNat).length))) := by
    intro mm
    induction mm with
    | zero => intro i y Y m u h0 h1 fr hw hmm; exfalso; omega
    | succ mm ih =>
      intro i y Y m u h0 h1 fr hw hmm
      have hpy : hP y 1 v := hP_k (fun j hj => fr _ (by omega)) hp
      refine eg_iload_n dX7_putShippers_2 rfl ?_
      refine eg_al_n dX7_putShippers_3 rfl rfl ?_
      refine eg_get fl_X7_100 dX7_putShippers_4 (by first | exact er196 | exact ep0 hb | exact ep1 hb | exact ep3 hb | exact ep5 hb | exact ep7 hb) rfl ?_
      refine eg_get fl_X7_74 dX7_putShippers_7 (by first | exact er196 | exact ep0 hb | exact ep1 hb | exact ep3 hb | exact ep5 hb | exact ep7 hb) rfl ?_
      refine eg_eqI hpy.2.1.2.2.1 ?_
      refine eg_icmp_ge 51 dX7_putShippers_10 ⟨by omega, by omega⟩ ⟨by omega, by omega⟩ rfl (fun h10 => ?_) (fun h10 => ?_)
      · refine eg_return dX7_putShippers_51 rfl ?_
        have ei : i = v 2 := by omega
        subst ei
        exact ⟨rfl, y, Y, rfl, fr, hw⟩
      · have oh := hv.H h0 (show i < v 2 by omega)
        unfold okH at oh
        have gh9 : ∀ c : Int, 0 ≤ c → c < 4 → 0 ≤ gH v i c ∧ gH v i c ≤ 9999 := fun c g0 g1 => by
          rcases (show c = 0 ∨ c = 1 ∨ c = 2 ∨ c = 3 by omega) with rfl | rfl | rfl | rfl <;> omega
        have hFi : (T ++ rpT (shT v) (i + 1).toNat).length ≤ F := by rw [hFe, List.length_append, List.length_append]; have := rp_mo (f := shT v) (show (i + 1).toNat ≤ (v 2).toNat by omega); omega
        rw [rp_s h0, List.length_append, List.length_append, shT_l] at hFi
        have l14 : (eg_tx 14).length = 7 := rfl
        have lw : wShp.length = 7 := rfl
        refine eg_al_n dX7_putShippers_13 rfl rfl ?_
        refine eg_ldcS (i := 14) rfl dX7_putShippers_14 ?_
        refine eg_Vb1 (bc' := gF g F - gF g (T ++ rpT (shT v) i.toNat ++ 59 :: wShp).length) (bs' := slG (gF g F) - slG (gF g (T ++ rpT (shT v) i.toNat ++ 59 :: wShp).length)) cs_X7_55 dX7_putShippers_16 (c_pW (i := 14) hw (by decide) (by simp only [List.length_append, List.length_cons]; omega)) er196 rfl (Nat.le_of_ble_eq_true rfl) (by decide) (bc_a (by simp only [List.length_append, List.length_cons]; omega) (by simp only [List.length_append, List.length_cons]; omega)) (bs_a (by simp only [List.length_append, List.length_cons]; omega) (by simp only [List.length_append, List.length_cons]; omega)) ?_
        rintro n1 z1 X1 ⟨fr1, hS1⟩
        have hS1 : SB k z1 X1 n1 (T ++ rpT (shT v) i.toNat ++ 59 :: wShp) (gF g (T ++ rpT (shT v) i.toNat ++ 59 :: wShp).length) := hS1
        refine eg_iconst dX7_putShippers_19 ?_
        refine eg_istore_n dX7_putShippers_20 rfl rfl rfl ?_
        have L21 : ∀ (mq : Nat) (c : Int) (yc : eg_Z) (Yc : eg_M) (mc : Nat), (0 ≤ c) → (c ≤ 4) → (∀ c, c ≠ 197 → yc c = z c) → (SB k yc Yc mc (T ++ rpT (shT v) i.toNat ++ 59 :: wShp ++ rpT (fun c => nmT (gH v i c)) c.toNat) (gF g (T ++ rpT (shT v) i.toNat ++ 59 :: wShp ++ rpT (fun c => nmT (gH v i c)) c.toNat).length)) → 4 - c < (mq : Int) → eg_E k gX7_putShippers 7 (gF g F - gF g (T ++ rpT (shT v) i.toNat ++ 59 :: wShp ++ rpT (fun c => nmT (gH v i c)) c.toNat).length) (slG (gF g F) - slG (gF g (T ++ rpT (shT v) i.toNat ++ 59 :: wShp ++ rpT (fun c => nmT (gH v i c)) c.toNat).length)) mc (enc k yc Yc) [vR k 196, vR k 1, vI i, vI c] [] 21 (eg_b k none (fun n' z' X' => (∀ c, c ≠ 197 → z' c = z c) ∧ SB k z' X' n' (T ++ rpT (shT v) (v 2).toNat) (gF g (T ++ rpT (shT v) (v 2).toNat).length))) := by
          intro mq
          induction mq with
          | zero => intro c yc Yc mc c0 c1 frc wc hmm; exfalso; omega
          | succ mq ihc =>
            intro c yc Yc mc c0 c1 frc wc hmm
            have hpc : hP yc 1 v := hP_k (fun j hj => frc _ (by omega)) hp
            refine eg_iload_n dX7_putShippers_21 rfl ?_
            refine eg_iconst dX7_putShippers_22 ?_
            refine eg_icmp_gt 45 dX7_putShippers_23 ⟨by omega, by omega⟩ ⟨by omega, by omega⟩ rfl (fun h23 => ?_) (fun h23 => ?_)
            · refine eg_iinc dX7_putShippers_45 rfl rfl rfl ?_
              refine eg_goto 2 dX7_putShippers_48 rfl ?_
              have e4 : c.toNat = 4 := by omega
              have eU : T ++ rpT (shT v) i.toNat ++ 59 :: wShp ++ rpT (fun c => nmT (gH v i c)) c.toNat = T ++ rpT (shT v) (i + 1).toNat := by rw [rp_s h0, e4]; unfold shT; simp only [List.append_assoc]
              rw [eU] at wc ⊢
              exact ih (i + 1) yc Yc mc (vI c) (by omega) (by omega) frc wc (by omega)
            · have rc := rp_mo (f := (fun c => nmT (gH v i c))) (show (c + 1).toNat ≤ 4 by omega)
              rw [rp_s c0, List.length_append] at rc
              refine eg_al_n dX7_putShippers_26 rfl rfl ?_
              refine eg_al_n dX7_putShippers_27 rfl rfl ?_
              refine eg_get fl_X7_100 dX7_putShippers_28 (by first | exact er196 | exact ep0 hb | exact ep1 hb | exact ep3 hb | exact ep5 hb | exact ep7 hb) rfl ?_
              refine eg_iload_n dX7_putShippers_31 rfl ?_
              refine eg_iload_n dX7_putShippers_32 rfl ?_
              refine eg_Vf2 cs_X7_81 dX7_putShippers_33 (sh_at hb hpc hv h0 (by omega) c0 (by omega)) (by first | exact er196 | exact ep0 hb | exact ep1 hb | exact ep3 hb | exact ep5 hb | exact ep7 hb) rfl (Nat.le_of_ble_eq_true rfl) (by decide) ?_
              refine eg_Vb1 (bc' := gF g F - gF g (T ++ rpT (shT v) i.toNat ++ 59 :: wShp ++ rpT (fun c => nmT (gH v i c)) c.toNat ++ nmT (gH v i c)).length) (bs' := slG (gF g F) - slG (gF g (T ++ rpT (shT v) i.toNat ++ 59 :: wShp ++ rpT (fun c => nmT (gH v i c)) c.toNat ++ nmT (gH v i c)).length)) cs_X7_37 dX7_putShippers_36 (c_pN wc (gh9 c c0 (by omega)) (by simp only [List.length_append, List.length_cons]; omega)) er196 rfl (Nat.le_of_ble_eq_true rfl) (by decide) (bc_a (by simp only [List.length_append, List.length_cons]; omega) (by simp only [List.length_append, List.length_cons]; omega)) (bs_a (by simp only [List.length_append, List.length_cons]; omega) (by simp only [List.length_append, List.length_cons]; omega)) ?_
              rintro n2 z2 X2 ⟨fr2, hS2⟩
              refine eg_iinc dX7_putShippers_39 rfl rfl rfl ?_
              refine eg_goto 21 dX7_putShippers_42 rfl ?_
              have eU : T ++ rpT (shT v) i.toNat ++ 59 :: wShp ++ rpT (fun c => nmT (gH v i c)) c.toNat ++ nmT (gH v i c) = T ++ rpT (shT v) i.toNat ++ 59 :: wShp ++ rpT (fun c => nmT (gH v i c)) (c + 1).toNat := by rw [rp_s c0]; simp only [List.append_assoc]
              rw [eU] at hS2 ⊢
              exact ihc (c + 1) z2 X2 n2 (by omega) (by omega) (fun c hc => (fr2 c hc).trans (frc c hc)) hS2 (by omega)
        have e0 : T ++ rpT (shT v) i.toNat ++ 59 :: wShp ++ rpT (fun c => nmT (gH v i c)) (0 : Int).toNat = T ++ rpT (shT v) i.toNat ++ 59 :: wShp := List.append_nil _
        have L9 := L21 5 0 z1 X1 n1 (by omega) (by omega) (fun c hc => (fr1 c hc).trans (fr c hc)) (by rw [e0]; exact hS1) (by omega)
        rw [e0] at L9
        exact L9
  refine eg_iconst dX7_putShippers_0 ?_
  refine eg_istore_n dX7_putShippers_1 rfl rfl rfl ?_
  have e0 : T ++ rpT (shT v) (0 : Int).toNat = T := List.append_nil T
  have L9 := L2 20 0 z X n vU (by omega) (by omega) (fun _ _ => rfl) (by rw [e0]; exact hS) (by omega)
  rw [e0] at L9
  exact L9
