theorem m_order {k : eg_K} {z : eg_Z} {X : eg_M} {n : Nat} {s : eg_S} (hI : IM z s) (hO : OS s) {a : Int} (r_a : iR a) : eg_P k gX9_order 1 0 0 [vR k 202, vI a] n (enc k z X) (eg_p k (some (vI (A_order s.1 a))) n X (fun z' => FM z z' ∧ IM z' s)) := by
  refine eg_P.of (by decide) (Nat.le_of_ble_eq_true rfl) ?_
  show eg_E k gX9_order 1 0 0 n (enc k z X) [vR k 202, vI a, vU, vU, vU] [] 0 _
  have hN := hI.1
  have hv := hO.1.1
  have q := hv.r.2
  have hF : ∀ c, c ≠ 203 → z c = z c := fun _ _ => rfl
  have r_a1 := r_a.1; have r_a2 := r_a.2
  have LO : ∀ (mm : Nat) (r : Int) (w3 : Value) (w4 : Value), (0 ≤ r) → (r ≤ s.1 2) → (∀ j : Int, 0 ≤ j → j < r → rkP s.1 (gH s.1 j 1) j ≠ a) → s.1 2 - r < (mm : Int) → eg_E k gX9_order 1 0 0 n (enc k z X) [vR k 202, vI a, vI r, w3, w4] [] 2 (eg_p k (some (vI (A_order s.1 a))) n X (fun z' => FM z z' ∧ IM z' s)) := by
    intro mm
    induction mm with
    | zero => intro r w3 w4 h0 h1 hn hmm; exfalso; omega
    | succ mm ih =>
      intro r w3 w4 h0 h1 hn hmm
      have LI : r < s.1 2 → ∀ (nn : Nat) (i : Int), (0 ≤ i) → (i ≤ s.1 2) → s.1 2 - i < (nn : Int) → eg_E k gX9_order 1 0 0 n (enc k z X) [vR k 202, vI a, vI r, vI (sm (rkF s.1 (gH s.1 r 1) r) i.toNat), vI i] [] 16 (eg_p k (some (vI (A_order s.1 a))) n X (fun z' => FM z z' ∧ IM z' s)) := by
        intro hr nn; have o1 := hv.H (s := r) h0 hr; unfold okH at o1
        induction nn with
        | zero => intro i i0 i1 hmm; exfalso; omega
        | succ nn ihn =>
          intro i i0 i1 hmm
          refine eg_iload dX9_order_16 rfl ?_
          refine eg_al_n dX9_order_18 rfl rfl ?_
          refine eg_iconst dX9_order_19 ?_
          refine eg_Vf1 cs_X9_179 dX9_order_20 (many_2 hN) (by first | exact er202 | exact er203 | exact er204 | exact er205 | exact er206 | exact er207 | exact er208 | exact er209 | exact er210 | exact er211 | exact er212 | exact er213 | exact er214 | exact er215) rfl (Nat.le_of_ble_eq_true rfl) (by decide) ?_
          refine eg_icmp_ge 83 dX9_order_23 ⟨by omega, by omega⟩ ⟨by omega, by omega⟩ rfl (fun h23 => ?_) (fun h23 => ?_)
          · have rb := sm_b (f := rkF s.1 (gH s.1 r 1) r) (K := 1) (n := i.toNat) (fun o _ _ => by unfold rkF; split <;> omega)
            refine eg_iload_n dX9_order_83 rfl ?_
            refine eg_iload_n dX9_order_84 rfl ?_
            refine eg_icmp_ne 90 dX9_order_85 ⟨by omega, by omega⟩ ⟨by omega, by omega⟩ rfl (fun h85 => ?_) (fun h85 => ?_)
            · refine eg_iinc dX9_order_90 rfl rfl rfl ?_
              refine eg_goto 2 dX9_order_93 rfl ?_
              refine ih (r + 1) _ _ (by omega) (by omega) (fun j a9 b9 => ?_) (by omega)
              by_cases e : j = r
              · subst e; unfold rkP; rw [show (s.1 2).toNat = i.toNat by omega]; exact h85
              · exact hn j a9 (by omega)
            · refine eg_iload_n dX9_order_88 rfl ?_
              refine eg_ireturn dX9_order_89 rfl rfl ?_
              refine ⟨congrArg (fun q => some (vI q)) ?_, rfl, z, rfl, FM.rf, hI⟩
              refine (odN_e ⟨h0, by omega⟩ ?_ (s.1 2).toNat 0 (by omega) (by omega) (by omega)).symm
              unfold rkP; rw [show (s.1 2).toNat = i.toNat by omega]; exact h85
          · have hi : i < s.1 2 := by omega
            have o2 := hv.H (s := i) i0 hi; unfold okH at o2
            refine eg_iload_n dX9_order_26 rfl ?_
            refine eg_al_n dX9_order_27 rfl rfl ?_
            refine eg_iload dX9_order_28 rfl ?_
            refine eg_iconst dX9_order_30 ?_
            refine eg_Vf2 cs_X9_237 dX9_order_31 (c_ship hN (by omega) (by omega) (by omega) (by omega)) (by first | exact er202 | exact er203 | exact er204 | exact er205 | exact er206 | exact er207 | exact er208 | exact er209 | exact er210 | exact er211 | exact er212 | exact er213 | exact er214 | exact er215) rfl (Nat.le_of_ble_eq_true rfl) (by decide) ?_
            refine eg_al_n dX9_order_34 rfl rfl ?_
            refine eg_iload_n dX9_order_35 rfl ?_
            refine eg_iconst dX9_order_36 ?_
            refine eg_Vf2 cs_X9_237 dX9_order_37 (c_ship hN (by omega) (by omega) (by omega) (by omega)) (by first | exact er202 | exact er203 | exact er204 | exact er205 | exact er206 | exact er207 | exact er208 | exact er209 | exact er210 | exact er211 | exact er212 | exact er213 | exact er214 | exact er215) rfl (Nat.le_of_ble_eq_true rfl) (by decide) ?_
            refine eg_lc_lt 67 dX9_order_40 dX9_order_41 ⟨by omega, by omega⟩ ⟨by omega, by omega⟩ rfl (fun h40 => ?_) (fun h40 => ?_)
            · refine eg_iconst dX9_order_67 ?_
              refine eg_goto 72 dX9_order_68 rfl ?_
              refine eg_Sf1 cs_X9_118 dX9_order_72 (c_truth (by omega)) (Nat.le_of_ble_eq_true rfl) (by decide) ?_
              refine eg_iadd dX9_order_75 ?_
              refine eg_eqI (y := sm (rkF s.1 (gH s.1 r 1) r) (i + 1).toNat) (by rw [sm_s _ i0]; unfold rkF; first | rw [if_pos (by omega)] | rw [if_neg (by omega)]) ?_
              refine eg_istore_n dX9_order_76 rfl rfl rfl ?_
              refine eg_iinc dX9_order_77 rfl rfl rfl ?_
              refine eg_goto 16 dX9_order_80 rfl ?_
              exact ihn (i + 1) (by omega) (by omega) (by omega)
            · refine eg_al_n dX9_order_44 rfl rfl ?_
              refine eg_iload dX9_order_45 rfl ?_
              refine eg_iconst dX9_order_47 ?_
              refine eg_Vf2 cs_X9_237 dX9_order_48 (c_ship hN (by omega) (by omega) (by omega) (by omega)) (by first | exact er202 | exact er203 | exact er204 | exact er205 | exact er206 | exact er207 | exact er208 | exact er209 | exact er210 | exact er211 | exact er212 | exact er213 | exact er214 | exact er215) rfl (Nat.le_of_ble_eq_true rfl) (by decide) ?_
              refine eg_al_n dX9_order_51 rfl rfl ?_
              refine eg_iload_n dX9_order_52 rfl ?_
              refine eg_iconst dX9_order_53 ?_
              refine eg_Vf2 cs_X9_237 dX9_order_54 (c_ship hN (by omega) (by omega) (by omega) (by omega)) (by first | exact er202 | exact er203 | exact er204 | exact er205 | exact er206 | exact er207 | exact er208 | exact er209 | exact er210 | exact er211 | exact er212 | exact er213 | exact er214 | exact er215) rfl (Nat.le_of_ble_eq_true rfl) (by decide) ?_
              refine eg_lc_ne 71 dX9_order_57 dX9_order_58 ⟨by omega, by omega⟩ ⟨by omega, by omega⟩ rfl (fun h57 => ?_) (fun h57 => ?_)
              · refine eg_iconst dX9_order_71 ?_
                refine eg_Sf1 cs_X9_118 dX9_order_72 (c_truth (by omega)) (Nat.le_of_ble_eq_true rfl) (by decide) ?_
                refine eg_iadd dX9_order_75 ?_
                refine eg_eqI (y := sm (rkF s.1 (gH s.1 r 1) r) (i + 1).toNat) (by rw [sm_s _ i0]; unfold rkF; first | rw [if_pos (by omega)] | rw [if_neg (by omega)]) ?_
                refine eg_istore_n dX9_order_76 rfl rfl rfl ?_
                refine eg_iinc dX9_order_77 rfl rfl rfl ?_
                refine eg_goto 16 dX9_order_80 rfl ?_
                exact ihn (i + 1) (by omega) (by omega) (by omega)
              · refine eg_iload dX9_order_61 rfl ?_
                refine eg_iload_n dX9_order_63 rfl ?_
                refine eg_icmp_ge 71 dX9_order_64 ⟨by omega, by omega⟩ ⟨by omega, by omega⟩ rfl (fun h64 => ?_) (fun h64 => ?_)
                · refine eg_iconst dX9_order_71 ?_
                  refine eg_Sf1 cs_X9_118 dX9_order_72 (c_truth (by omega)) (Nat.le_of_ble_eq_true rfl) (by decide) ?_
                  refine eg_iadd dX9_order_75 ?_
                  refine eg_eqI (y := sm (rkF s.1 (gH s.1 r 1) r) (i + 1).toNat) (by rw [sm_s _ i0]; unfold rkF; first | rw [if_pos (by omega)] | rw [if_neg (by omega)]) ?_
                  refine eg_istore_n dX9_order_76 rfl rfl rfl ?_
                  refine eg_iinc dX9_order_77 rfl rfl rfl ?_
                  refine eg_goto 16 dX9_order_80 rfl ?_
                  exact ihn (i + 1) (by omega) (by omega) (by omega)
                · refine eg_iconst dX9_order_67 ?_
                  refine eg_goto 72 dX9_order_68 rfl ?_
                  refine eg_Sf1 cs_X9_118 dX9_order_72 (c_truth (by omega)) (Nat.le_of_ble_eq_true rfl) (by decide) ?_
                  refine eg_iadd dX9_order_75 ?_
                  refine eg_eqI (y := sm (rkF s.1 (gH s.1 r 1) r) (i + 1).toNat) (by rw [sm_s _ i0]; unfold rkF; first | rw [if_pos (by omega)] | rw [if_neg (by omega)]) ?_
                  refine eg_istore_n dX9_order_76 rfl rfl rfl ?_
                  refine eg_iinc dX9_order_77 rfl rfl rfl ?_
                  refine eg_goto 16 dX9_order_80 rfl ?_
                  exact ihn (i + 1) (by omega) (by omega) (by omega)
      refine eg_iload_n dX9_order_2 rfl ?_
      refine eg_al_n dX9_order_3 rfl rfl ?_
      refine eg_iconst dX9_order_4 ?_
      refine eg_Vf1 cs_X9_179 dX9_order_5 (many_2 hN) (by first | exact er202 | exact er203 | exact er204 | exact er205 | exact er206 | exact er207 | exact er208 | exact er209 | exact er210 | exact er211 | exact er212 | exact er213 | exact er214 | exact er215) rfl (Nat.le_of_ble_eq_true rfl) (by decide) ?_
      refine eg_icmp_ge 96 dX9_order_8 ⟨by omega, by omega⟩ ⟨by omega, by omega⟩ rfl (fun h8 => ?_) (fun h8 => ?_)
      · refine eg_iconst dX9_order_96 ?_
        refine eg_ireturn dX9_order_97 rfl rfl ?_
        refine ⟨congrArg (fun q => some (vI q)) ?_, rfl, z, rfl, FM.rf, hI⟩
        exact (odN_n (s.1 2).toNat 0 (fun j a9 b9 => hn j (by omega) (by omega))).symm
      · have o1 := hv.H (s := r) h0 (by omega); unfold okH at o1
        refine eg_iconst dX9_order_11 ?_
        refine eg_istore_n dX9_order_12 rfl rfl rfl ?_
        refine eg_iconst dX9_order_13 ?_
        refine eg_istore dX9_order_14 rfl rfl rfl ?_
        exact LI (by omega) 7 0 (by omega) (by omega) (by omega)
  refine eg_iconst dX9_order_0 ?_
  refine eg_istore_n dX9_order_1 rfl rfl rfl ?_
  exact LO 7 0 _ _ (by omega) (by omega) (fun j a9 b9 => absurd b9 (by omega)) (by omega)
theorem m_blame {k : eg_K} {z : eg_Z} {X : eg_M} {n : Nat} {s : eg_S} (hI : IM z s) (hO : OS s) {a : Int} (r_a : iR a) : eg_P k gX9_blame 6 0 0 [vR k 202, vI a] n (enc k z X) (eg_p k (some (vI (A_blame s.1 a))) n X (fun z' => FM z z' ∧ IM z' s)) := by
  refine eg_P.of (by decide) (Nat.le_of_ble_eq_true rfl) ?_
  show eg_E k gX9_blame 6 0 0 n (enc k z X) [vR k 202, vI a, vU, vU] [] 0 _
  have hN := hI.1
  have hv := hO.1.1
  have q := hv.r.2
  have hF : ∀ c, c ≠ 203 → z c = z c := fun _ _ => rfl
  have r_a1 := r_a.1; have r_a2 := r_a.2
  have J : 0 < s.1 0 → ∀ y1 : eg_Z, MJ s.1 10 y1 → nw y1 s.1 → Fm z y1 → eg_E k gX9_blame 6 0 0 n (enc k y1 X) [vR k 202, vI a, vI 0, vI 0] [] 17 (eg_p k (some (vI (A_blame s.1 a))) n X (fun z' => FM z z' ∧ IM z' s)) := by
    intro ht y1 j1 hN1 fm1
    have L1 : ∀ (mm : Nat) (i : Nat), ((i : Int) ≤ s.1 3) → s.1 3 - (i : Int) < (mm : Int) → eg_E k gX9_blame 6 0 0 n (enc k y1 X) [vR k 202, vI a, vI (blF s.1 a i : Int), vI (i : Int)] [] 17 (eg_p k (some (vI (A_blame s.1 a))) n X (fun z' => FM z z' ∧ IM z' s)) := by
      intro mm
      induction mm with
      | zero => intro i h1 hmm; exfalso; omega
      | succ mm ih =>
        intro i h1 hmm
        have bb := blF_b s.1 a i
        have b3 := pw16 (q := i) (by omega)
        have J45 : (i : Int) < s.1 3 → eg_E k gX9_blame 6 0 0 n (enc k y1 X) [vR k 202, vI a, vI (blF s.1 a i : Int), vI (i : Int)] [vI ((blF s.1 a (i + 1) : Nat) : Int)] 45 (eg_p k (some (vI (A_blame s.1 a))) n X (fun z' => FM z z' ∧ IM z' s)) := by
          intro hi
          refine eg_istore_n dX9_blame_45 rfl rfl rfl ?_
          refine eg_iinc dX9_blame_46 rfl rfl rfl ?_
          refine eg_goto 17 dX9_blame_49 rfl ?_
          exact ih (i + 1) (by omega) (by omega)
        refine eg_iload_n dX9_blame_17 rfl ?_
        refine eg_al_n dX9_blame_18 rfl rfl ?_
        refine eg_iconst dX9_blame_19 ?_
        refine eg_Vf1 cs_X9_179 dX9_blame_20 (many_3 hN1) (by first | exact er202 | exact er203 | exact er204 | exact er205 | exact er206 | exact er207 | exact er208 | exact er209 | exact er210 | exact er211 | exact er212 | exact er213 | exact er214 | exact er215) rfl (Nat.le_of_ble_eq_true rfl) (by decide) ?_
        refine eg_icmp_ge 52 dX9_blame_23 ⟨by omega, by omega⟩ ⟨by omega, by omega⟩ rfl (fun h23 => ?_) (fun h23 => ?_)
        · refine eg_iload_n dX9_blame_52 rfl ?_
          refine eg_ireturn dX9_blame_53 rfl rfl ?_
          refine ⟨congrArg (fun q => some (vI q)) ?_, rfl, y1, rfl, fm1.1, hI.fm fm1 hN1⟩
          unfold A_blame
          rw [if_pos (by omega), show i = (s.1 3).toNat by omega]
        · have hi : (i : Int) < s.1 3 := by omega
          have cb := CC_b (v := s.1) 10 i (by omega) hi
          refine eg_iload_n dX9_blame_26 rfl ?_
          refine eg_al_n dX9_blame_27 rfl rfl ?_
          refine eg_get fl_X9_46 dX9_blame_28 (by first | exact er202 | exact er203 | exact er204 | exact er205 | exact er206 | exact er207 | exact er208 | exact er209 | exact er210 | exact er211 | exact er212 | exact er213 | exact er214 | exact er215) rfl ?_
          refine eg_iload_n dX9_blame_31 rfl ?_
          refine eg_iald dX9_blame_32 (by first | exact er202 | exact er203 | exact er204 | exact er205 | exact er206 | exact er207 | exact er208 | exact er209 | exact er210 | exact er211 | exact er212 | exact er213 | exact er214 | exact er215) (by omega) (by omega) (by decide) ?_
          refine eg_eqI ((j1.2 i (by omega) hi).2) ?_
          refine eg_iload_n dX9_blame_33 rfl ?_
          refine eg_icmp_ne 43 dX9_blame_34 ⟨by omega, by omega⟩ ⟨by omega, by omega⟩ rfl (fun h34 => ?_) (fun h34 => ?_)
          · refine eg_iconst dX9_blame_43 ?_
            refine eg_orN (y := 0) dX9_blame_44 (by omega) (by omega) ?_
            refine eg_eqI (y := ((blF s.1 a (i + 1) : Nat) : Int)) (by rw [Nat.or_zero, show blF s.1 a (i + 1) = blF s.1 a i + (if CC s.1 10 i = a then 2 ^ i else 0) from rfl, if_neg (by omega), Nat.add_zero]) ?_
            exact J45 hi
          · refine eg_iconst dX9_blame_37 ?_
            refine eg_iload_n dX9_blame_38 rfl ?_
            refine eg_ishl dX9_blame_39 (by omega) ?_
            refine eg_eqI (y := ((2 ^ i : Nat) : Int)) (by rw [Int.one_mul, ← pw i]) ?_
            have p2 := pw_lt (q := i) (by omega)
            have e9 : (blF s.1 a i ||| 2 ^ i : Nat) = blF s.1 a i + 2 ^ i := by rw [Nat.or_comm]; have := Nat.two_pow_add_eq_or_of_lt bb 1; rw [Nat.mul_one] at this; rw [← this, Nat.add_comm]
            refine eg_goto 44 dX9_blame_40 rfl ?_
            refine eg_orN dX9_blame_44 (by omega) (by omega) ?_
            refine eg_eqI (y := ((blF s.1 a (i + 1) : Nat) : Int)) (by rw [e9, show blF s.1 a (i + 1) = blF s.1 a i + (if CC s.1 10 i = a then 2 ^ i else 0) from rfl, if_pos (by omega)]) ?_
            exact J45 hi
    exact L1 17 0 (by omega) (by omega)
  refine eg_al_n dX9_blame_0 rfl rfl ?_
  refine eg_Vf0 cs_X9_315 dX9_blame_1 (c_hasPipe hN hv) (by first | exact er202 | exact er203 | exact er204 | exact er205 | exact er206 | exact er207 | exact er208 | exact er209 | exact er210 | exact er211 | exact er212 | exact er213 | exact er214 | exact er215) rfl (Nat.le_of_ble_eq_true rfl) (by decide) ?_
  refine eg_bi_ne 9 dX9_blame_4 rfl (fun h4 => ?_) (fun h4 => ?_)
  · refine eg_al_n dX9_blame_9 rfl rfl ?_
    refine eg_Vpv0 cs_X9_302 dX9_blame_10 (c_schedules hN hv hO.1.2.1) (by first | exact er202 | exact er203 | exact er204 | exact er205 | exact er206 | exact er207 | exact er208 | exact er209 | exact er210 | exact er211 | exact er212 | exact er213 | exact er214 | exact er215) rfl (Nat.le_of_ble_eq_true rfl) (by decide) ?_
    rintro y1 ⟨f1, j1, p1⟩
    have hN1 : nw y1 s.1 := nw_c (f1 203 (by omega)) hN
    have fm1 : Fm z y1 := Fm.of (fun c hc => f1 c (by omega))
    refine eg_iconst dX9_blame_13 ?_
    refine eg_istore_n dX9_blame_14 rfl rfl rfl ?_
    refine eg_iconst dX9_blame_15 ?_
    refine eg_istore_n dX9_blame_16 rfl rfl rfl ?_
    exact J (by omega) y1 j1 hN1 fm1
  · refine eg_iconst dX9_blame_7 ?_
    refine eg_ireturn dX9_blame_8 rfl rfl ?_
    refine ⟨congrArg (fun q => some (vI q)) ?_, rfl, z, rfl, (Fm.rf).1, hI.fm (Fm.rf) hN⟩
    unfold A_blame; (repeat (first | rw [if_pos (by first | assumption | omega)] | rw [if_neg (by first | assumption | omega)]))
theorem c_nominated {k : eg_K} {z : eg_Z} {X : eg_M} {n : Nat} {v : eg_v} (hN : nw z v) {B : Int} (hv : VV B v) {r : Int} (hr : iR r) : eg_P k gX9_nominated 1 0 0 [vR k 202, vI r] n (enc k z X) (eg_f (some (vL (sNom v r))) n (enc k z X)) := by
  refine eg_P.of (by decide) (Nat.le_of_ble_eq_true rfl) ?_
  show eg_E k gX9_nominated 1 0 0 n (enc k z X) [vR k 202, vI r, vU, vU, vU] [] 0 _
  have q := hv.r.2
  have hr1 := hr.1; have hr2 := hr.2
  have L1 : ∀ (mm : Nat) (i : Int), (0 ≤ i) → (i ≤ v 3) → v 3 - i < (mm : Int) → eg_E k gX9_nominated 1 0 0 n (enc k z X) [vR k 202, vI r, vL (sm (nomF v r) i.toNat), vU, vI i] [] 5 (eg_f (some (vL (sNom v r))) n (enc k z X)) := by
    intro mm
    induction mm with
    | zero => intro i h0 h1 hmm; exfalso; omega
    | succ mm ih =>
      intro i h0 h1 hmm
      refine eg_iload dX9_nominated_5 rfl ?_
      refine eg_al_n dX9_nominated_7 rfl rfl ?_
      refine eg_iconst dX9_nominated_8 ?_
      refine eg_Vf1 cs_X9_179 dX9_nominated_9 (many_3 hN) (by first | exact er202 | exact er203 | exact er204 | exact er205 | exact er206 | exact er207 | exact er208 | exact er209 | exact er210 | exact er211 | exact er212 | exact er213 | exact er214 | exact er215) rfl (Nat.le_of_ble_eq_true rfl) (by decide) ?_
      refine eg_icmp_ge 52 dX9_nominated_12 ⟨by omega, by omega⟩ ⟨by omega, by omega⟩ rfl (fun h12 => ?_) (fun h12 => ?_)
      · refine eg_lload_n dX9_nominated_52 rfl ?_
        refine eg_lreturn dX9_nominated_53 rfl ?_
        have e : i = v 3 := by omega
        subst e
        exact ⟨rfl, rfl, rfl⟩
      · have hi : i < v 3 := by omega
        have o1 := hv.N (q := i) h0 hi
        have o0 := o1.1
        have o3 := o1.2.2.2.2
        clear o1
        refine eg_lload_n dX9_nominated_15 rfl ?_
        refine eg_iload_n dX9_nominated_16 rfl ?_
        refine eg_iconst dX9_nominated_17 ?_
        refine eg_icmp_eq 32 dX9_nominated_18 ⟨by omega, by omega⟩ ⟨by omega, by omega⟩ rfl (fun h18 => ?_) (fun h18 => ?_)
        · refine eg_al_n dX9_nominated_32 rfl rfl ?_
          refine eg_iload dX9_nominated_33 rfl ?_
          refine eg_iconst dX9_nominated_35 ?_
          refine eg_Vf2 cs_X9_259 dX9_nominated_36 (c_nom hN (by omega) (by omega) (by omega) (by omega)) (by first | exact er202 | exact er203 | exact er204 | exact er205 | exact er206 | exact er207 | exact er208 | exact er209 | exact er210 | exact er211 | exact er212 | exact er213 | exact er214 | exact er215) rfl (Nat.le_of_ble_eq_true rfl) (by decide) ?_
          refine eg_i2l dX9_nominated_39 ⟨by omega, by omega⟩ ?_
          refine eg_goto 44 dX9_nominated_40 rfl ?_
          refine eg_ladd dX9_nominated_44 ?_
          refine eg_eqL (y := sm (nomF v r) (i + 1).toNat) (by rw [sm_s _ h0]; unfold nomF; first | rw [if_pos (by omega)] | rw [if_neg (by omega)]) ?_
          refine eg_lstore_n dX9_nominated_45 rfl rfl rfl ?_
          refine eg_iinc dX9_nominated_46 rfl rfl rfl ?_
          refine eg_goto 5 dX9_nominated_49 rfl ?_
          exact ih (i + 1) (by omega) (by omega) (by omega)
        · refine eg_al_n dX9_nominated_21 rfl rfl ?_
          refine eg_iload dX9_nominated_22 rfl ?_
          refine eg_iconst dX9_nominated_24 ?_
          refine eg_Vf2 cs_X9_259 dX9_nominated_25 (c_nom hN (by omega) (by omega) (by omega) (by omega)) (by first | exact er202 | exact er203 | exact er204 | exact er205 | exact er206 | exact er207 | exact er208 | exact er209 | exact er210 | exact er211 | exact er212 | exact er213 | exact er214 | exact er215) rfl (Nat.le_of_ble_eq_true rfl) (by decide) ?_
          refine eg_iload_n dX9_nominated_28 rfl ?_
          refine eg_icmp_ne 43 dX9_nominated_29 ⟨by omega, by omega⟩ ⟨by omega, by omega⟩ rfl (fun h29 => ?_) (fun h29 => ?_)
          · refine eg_lk0 dX9_nominated_43 ?_
            refine eg_ladd dX9_nominated_44 ?_
            refine eg_eqL (y := sm (nomF v r) (i + 1).toNat) (by rw [sm_s _ h0]; unfold nomF; first | rw [if_pos (by omega)] | rw [if_neg (by omega)]) ?_
            refine eg_lstore_n dX9_nominated_45 rfl rfl rfl ?_
            refine eg_iinc dX9_nominated_46 rfl rfl rfl ?_
            refine eg_goto 5 dX9_nominated_49 rfl ?_
            exact ih (i + 1) (by omega) (by omega) (by omega)
          · refine eg_al_n dX9_nominated_32 rfl rfl ?_
            refine eg_iload dX9_nominated_33 rfl ?_
            refine eg_iconst dX9_nominated_35 ?_
            refine eg_Vf2 cs_X9_259 dX9_nominated_36 (c_nom hN (by omega) (by omega) (by omega) (by omega)) (by first | exact er202 | exact er203 | exact er204 | exact er205 | exact er206 | exact er207 | exact er208 | exact er209 | exact er210 | exact er211 | exact er212 | exact er213 | exact er214 | exact er215) rfl (Nat.le_of_ble_eq_true rfl) (by decide) ?_
            refine eg_i2l dX9_nominated_39 ⟨by omega, by omega⟩ ?_
            refine eg_goto 44 dX9_nominated_40 rfl ?_
            refine eg_ladd dX9_nominated_44 ?_
            refine eg_eqL (y := sm (nomF v r) (i + 1).toNat) (by rw [sm_s _ h0]; unfold nomF; first | rw [if_pos (by omega)] | rw [if_neg (by omega)]) ?_
            refine eg_lstore_n dX9_nominated_45 rfl rfl rfl ?_
            refine eg_iinc dX9_nominated_46 rfl rfl rfl ?_
            refine eg_goto 5 dX9_nominated_49 rfl ?_
            exact ih (i + 1) (by omega) (by omega) (by omega)
  refine eg_lk0 dX9_nominated_0 ?_
  refine eg_lstore_n dX9_nominated_1 rfl rfl rfl ?_
  refine eg_iconst dX9_nominated_2 ?_
  refine eg_istore dX9_nominated_3 rfl rfl rfl ?_
  exact L1 17 0 (by omega) (by omega) (by omega)
theorem c_partOf {k : eg_K} {z : eg_Z} {X : eg_M} {n : Nat} {v : eg_v} (hN : nw z v) {B : Int} (hv : VV B v) {r : Int} {p : Int → Int} (hr : iR r) (hp : okp v p) (hJ : ∀ q : Int, 0 ≤ q → q < v 3 → z 213 q.toNat = p q) : eg_P k gX9_partOf 2 0 0 [vR k 202, vI r] n (enc k z X) (eg_f (some (vI (shR v p r))) n (enc k z X)) := by
  refine eg_P.of (by decide) (Nat.le_of_ble_eq_true rfl) ?_
  show eg_E k gX9_partOf 2 0 0 n (enc k z X) [vR k 202, vI r, vU, vU, vU, vU] [] 0 _
  have q := hv.r.2
  have hr1 := hr.1; have hr2 := hr.2
  have L1 : ∀ (mm : Nat) (i : Int), (0 ≤ i) → (i ≤ v 3) → v 3 - i < (mm : Int) → eg_E k gX9_partOf 2 0 0 n (enc k z X) [vR k 202, vI r, vL (sm (shF v p r) i.toNat), vU, vI i, vU] [] 5 (eg_f (some (vI (shR v p r))) n (enc k z X)) := by
    intro mm
    induction mm with
    | zero => intro i h0 h1 hmm; exfalso; omega
    | succ mm ih =>
      intro i h0 h1 hmm
      refine eg_iload dX9_partOf_5 rfl ?_
      refine eg_al_n dX9_partOf_7 rfl rfl ?_
      refine eg_iconst dX9_partOf_8 ?_
      refine eg_Vf1 cs_X9_179 dX9_partOf_9 (many_3 hN) (by first | exact er202 | exact er203 | exact er204 | exact er205 | exact er206 | exact er207 | exact er208 | exact er209 | exact er210 | exact er211 | exact er212 | exact er213 | exact er214 | exact er215) rfl (Nat.le_of_ble_eq_true rfl) (by decide) ?_
      refine eg_icmp_ge 52 dX9_partOf_12 ⟨by omega, by omega⟩ ⟨by omega, by omega⟩ rfl (fun h12 => ?_) (fun h12 => ?_)
      · have e : i = v 3 := by omega
        subst e
        have sb := sm_b (f := shF v p r) (K := 9999) (n := (v 3).toNat) (shF_b hp)
        have nb := sNom_b hv r
        refine eg_al_n dX9_partOf_52 rfl rfl ?_
        refine eg_iload_n dX9_partOf_53 rfl ?_
        refine eg_Vf1 cs_X9_356 dX9_partOf_54 (c_nominated hN hv hr) (by first | exact er202 | exact er203 | exact er204 | exact er205 | exact er206 | exact er207 | exact er208 | exact er209 | exact er210 | exact er211 | exact er212 | exact er213 | exact er214 | exact er215) rfl (Nat.le_of_ble_eq_true rfl) (by decide) ?_
        refine eg_lstore dX9_partOf_57 rfl rfl rfl ?_
        refine eg_lload dX9_partOf_59 rfl ?_
        refine eg_lk0 dX9_partOf_61 ?_
        refine eg_lc_ne 72 dX9_partOf_62 dX9_partOf_63 ⟨by omega, by omega⟩ ⟨by omega, by omega⟩ rfl (fun h62 => ?_) (fun h62 => ?_)
        · refine eg_ldc2 kw_X9_285 dX9_partOf_72 ?_
          refine eg_lload_n dX9_partOf_75 rfl ?_
          refine eg_lmul dX9_partOf_76 ?_
          refine eg_lload dX9_partOf_77 rfl ?_
          refine eg_ldiv dX9_partOf_79 ⟨by omega, by omega⟩ ⟨by omega, by omega⟩ (by omega) (by omega) ?_
          refine eg_l2i dX9_partOf_80 ?_
          refine eg_ireturn dX9_partOf_81 rfl rfl ?_
          refine ⟨congrArg (fun q => some (vI q)) ?_, rfl, rfl⟩
          unfold shR
          first | rw [if_pos (by omega)] | rw [if_neg (by omega), Int.mul_comm]
        · refine eg_sipush dX9_partOf_66 (by decide) ?_
          refine eg_goto 81 dX9_partOf_69 rfl ?_
          refine eg_ireturn dX9_partOf_81 rfl rfl ?_
          refine ⟨congrArg (fun q => some (vI q)) ?_, rfl, rfl⟩
          unfold shR
          first | rw [if_pos (by omega)] | rw [if_neg (by omega), Int.mul_comm]
      · have hi : i < v 3 := by omega
        have o1 := hv.N (q := i) h0 hi
        have o0 := o1.1
        have o3 := o1.2.2.2.2
        clear o1
        have pb := hp i h0 hi
        refine eg_lload_n dX9_partOf_15 rfl ?_
        refine eg_iload_n dX9_partOf_16 rfl ?_
        refine eg_iconst dX9_partOf_17 ?_
        refine eg_icmp_eq 32 dX9_partOf_18 ⟨by omega, by omega⟩ ⟨by omega, by omega⟩ rfl (fun h18 => ?_) (fun h18 => ?_)
        · refine eg_al_n dX9_partOf_32 rfl rfl ?_
          refine eg_get fl_X9_43 dX9_partOf_33 (by first | exact er202 | exact er203 | exact er204 | exact er205 | exact er206 | exact er207 | exact er208 | exact er209 | exact er210 | exact er211 | exact er212 | exact er213 | exact er214 | exact er215) rfl ?_
          refine eg_iload dX9_partOf_36 rfl ?_
          refine eg_iald dX9_partOf_38 (by first | exact er202 | exact er203 | exact er204 | exact er205 | exact er206 | exact er207 | exact er208 | exact er209 | exact er210 | exact er211 | exact er212 | exact er213 | exact er214 | exact er215) (by omega) (by omega) (by decide) ?_
          refine eg_eqI (hJ i h0 hi) ?_
          refine eg_i2l dX9_partOf_39 ⟨by omega, by omega⟩ ?_
          refine eg_goto 44 dX9_partOf_40 rfl ?_
          refine eg_ladd dX9_partOf_44 ?_
          refine eg_eqL (y := sm (shF v p r) (i + 1).toNat) (by rw [sm_s _ h0]; unfold shF; first | rw [if_pos (by omega)] | rw [if_neg (by omega)]) ?_
          refine eg_lstore_n dX9_partOf_45 rfl rfl rfl ?_
          refine eg_iinc dX9_partOf_46 rfl rfl rfl ?_
          refine eg_goto 5 dX9_partOf_49 rfl ?_
          exact ih (i + 1) (by omega) (by omega) (by omega)
        · refine eg_al_n dX9_partOf_21 rfl rfl ?_
          refine eg_iload dX9_partOf_22 rfl ?_
          refine eg_iconst dX9_partOf_24 ?_
          refine eg_Vf2 cs_X9_259 dX9_partOf_25 (c_nom hN (by omega) (by omega) (by omega) (by omega)) (by first | exact er202 | exact er203 | exact er204 | exact er205 | exact er206 | exact er207 | exact er208 | exact er209 | exact er210 | exact er211 | exact er212 | exact er213 | exact er214 | exact er215) rfl (Nat.le_of_ble_eq_true rfl) (by decide) ?_
          refine eg_iload_n dX9_partOf_28 rfl ?_
          refine eg_icmp_ne 43 dX9_partOf_29 ⟨by omega, by omega⟩ ⟨by omega, by omega⟩ rfl (fun h29 => ?_) (fun h29 => ?_)
          · refine eg_lk0 dX9_partOf_43 ?_
            refine eg_ladd dX9_partOf_44 ?_
            refine eg_eqL (y := sm (shF v p r) (i + 1).toNat) (by rw [sm_s _ h0]; unfold shF; first | rw [if_pos (by omega)] | rw [if_neg (by omega)]) ?_
            refine eg_lstore_n dX9_partOf_45 rfl rfl rfl ?_
            refine eg_iinc dX9_partOf_46 rfl rfl rfl ?_
            refine eg_goto 5 dX9_partOf_49 rfl ?_
            exact ih (i + 1) (by omega) (by omega) (by omega)
          · refine eg_al_n dX9_partOf_32 rfl rfl ?_
            refine eg_get fl_X9_43 dX9_partOf_33 (by first | exact er202 | exact er203 | exact er204 | exact er205 | exact er206 | exact er207 | exact er208 | exact er209 | exact er210 | exact er211 | exact er212 | exact er213 | exact er214 | exact er215) rfl ?_
            refine eg_iload dX9_partOf_36 rfl ?_
            refine eg_iald dX9_partOf_38 (by first | exact er202 | exact er203 | exact er204 | exact er205 | exact er206 | exact er207 | exact er208 | exact er209 | exact er210 | exact er211 | exact er212 | exact er213 | exact er214 | exact er215) (by omega) (by omega) (by decide) ?_
            refine eg_eqI (hJ i h0 hi) ?_
            refine eg_i2l dX9_partOf_39 ⟨by omega, by omega⟩ ?_
            refine eg_goto 44 dX9_partOf_40 rfl ?_
            refine eg_ladd dX9_partOf_44 ?_
            refine eg_eqL (y := sm (shF v p r) (i + 1).toNat) (by rw [sm_s _ h0]; unfold shF; first | rw [if_pos (by omega)] | rw [if_neg (by omega)]) ?_
            refine eg_lstore_n dX9_partOf_45 rfl rfl rfl ?_
            refine eg_iinc dX9_partOf_46 rfl rfl rfl ?_
            refine eg_goto 5 dX9_partOf_49 rfl ?_
            exact ih (i + 1) (by omega) (by omega) (by omega)
  refine eg_lk0 dX9_partOf_0 ?_
  refine eg_lstore_n dX9_partOf_1 rfl rfl rfl ?_
  refine eg_iconst dX9_partOf_2 ?_
  refine eg_istore dX9_partOf_3 rfl rfl rfl ?_
  exact L1 17 0 (by omega) (by omega) (by omega)
theorem m_part {k : eg_K} {z : eg_Z} {X : eg_M} {n : Nat} {s : eg_S} (hI : IM z s) (hO : OS s) {a : Int} (r_a : iR a) : eg_P k gX9_part 6 0 0 [vR k 202, vI a] n (enc k z X) (eg_p k (some (vI (A_part s.1 a))) n X (fun z' => FM z z' ∧ IM z' s)) := by
  refine eg_P.of (by decide) (Nat.le_of_ble_eq_true rfl) ?_
  show eg_E k gX9_part 6 0 0 n (enc k z X) [vR k 202, vI a] [] 0 _
  have hN := hI.1
  have hv := hO.1.1
  have q := hv.r.2
  have hF : ∀ c, c ≠ 203 → z c = z c := fun _ _ => rfl
  have r_a1 := r_a.1; have r_a2 := r_a.2
  refine eg_al_n dX9_part_0 rfl rfl ?_
  refine eg_Vf0 cs_X9_315 dX9_part_1 (c_hasPipe hN hv) (by first | exact er202 | exact er203 | exact er204 | exact er205 | exact er206 | exact er207 | exact er208 | exact er209 | exact er210 | exact er211 | exact er212 | exact er213 | exact er214 | exact er215) rfl (Nat.le_of_ble_eq_true rfl) (by decide) ?_
  refine eg_bi_eq 20 dX9_part_4 rfl (fun h4 => ?_) (fun h4 => ?_)
  · refine eg_iconst dX9_part_20 ?_
    refine eg_ireturn dX9_part_21 rfl rfl ?_
    refine ⟨congrArg (fun q => some (vI q)) ?_, rfl, z, rfl, (Fm.rf).1, hI.fm (Fm.rf) hN⟩
    unfold A_part; (repeat (first | rw [if_pos (by first | assumption | omega)] | rw [if_neg (by first | assumption | omega)]))
  · refine eg_iload_n dX9_part_7 rfl ?_
    refine eg_iconst dX9_part_8 ?_
    refine eg_icmp_eq 22 dX9_part_9 ⟨by omega, by omega⟩ ⟨by omega, by omega⟩ rfl (fun h9 => ?_) (fun h9 => ?_)
    · refine eg_al_n dX9_part_22 rfl rfl ?_
      refine eg_Vpv0 cs_X9_302 dX9_part_23 (c_schedules hN hv hO.1.2.1) (by first | exact er202 | exact er203 | exact er204 | exact er205 | exact er206 | exact er207 | exact er208 | exact er209 | exact er210 | exact er211 | exact er212 | exact er213 | exact er214 | exact er215) rfl (Nat.le_of_ble_eq_true rfl) (by decide) ?_
      rintro y1 ⟨f1, j1, p1⟩
      have hN1 : nw y1 s.1 := nw_c (f1 203 (by omega)) hN
      have fm1 : Fm z y1 := Fm.of (fun c hc => f1 c (by omega))
      refine eg_al_n dX9_part_26 rfl rfl ?_
      refine eg_iload_n dX9_part_27 rfl ?_
      refine eg_Vf1 cs_X9_359 dX9_part_28 (c_partOf hN1 hv r_a (okpS hv hO.1.2.1) (fun q9 a9 b9 => (j1.2 q9 a9 b9).1)) (by first | exact er202 | exact er203 | exact er204 | exact er205 | exact er206 | exact er207 | exact er208 | exact er209 | exact er210 | exact er211 | exact er212 | exact er213 | exact er214 | exact er215) rfl (Nat.le_of_ble_eq_true rfl) (by decide) ?_
      refine eg_ireturn dX9_part_31 rfl rfl ?_
      refine ⟨congrArg (fun q => some (vI q)) ?_, rfl, y1, rfl, (fm1).1, hI.fm (fm1) hN1⟩
      unfold A_part; (repeat (first | rw [if_pos (by first | assumption | omega)] | rw [if_neg (by first | assumption | omega)]))
    · refine eg_al_n dX9_part_12 rfl rfl ?_
      refine eg_iload_n dX9_part_13 rfl ?_
      refine eg_Vf1 cs_X9_199 dX9_part_14 (c_isShipper hN hv r_a) (by first | exact er202 | exact er203 | exact er204 | exact er205 | exact er206 | exact er207 | exact er208 | exact er209 | exact er210 | exact er211 | exact er212 | exact er213 | exact er214 | exact er215) rfl (Nat.le_of_ble_eq_true rfl) (by decide) ?_
      refine eg_bi_ne 22 dX9_part_17 rfl (fun h17 => ?_) (fun h17 => ?_)
      · refine eg_al_n dX9_part_22 rfl rfl ?_
        refine eg_Vpv0 cs_X9_302 dX9_part_23 (c_schedules hN hv hO.1.2.1) (by first | exact er202 | exact er203 | exact er204 | exact er205 | exact er206 | exact er207 | exact er208 | exact er209 | exact er210 | exact er211 | exact er212 | exact er213 | exact er214 | exact er215) rfl (Nat.le_of_ble_eq_true rfl) (by decide) ?_
        rintro y1 ⟨f1, j1, p1⟩
        have hN1 : nw y1 s.1 := nw_c (f1 203 (by omega)) hN
        have fm1 : Fm z y1 := Fm.of (fun c hc => f1 c (by omega))
        refine eg_al_n dX9_part_26 rfl rfl ?_
        refine eg_iload_n dX9_part_27 rfl ?_
        refine eg_Vf1 cs_X9_359 dX9_part_28 (c_partOf hN1 hv r_a (okpS hv hO.1.2.1) (fun q9 a9 b9 => (j1.2 q9 a9 b9).1)) (by first | exact er202 | exact er203 | exact er204 | exact er205 | exact er206 | exact er207 | exact er208 | exact er209 | exact er210 | exact er211 | exact er212 | exact er213 | exact er214 | exact er215) rfl (Nat.le_of_ble_eq_true rfl) (by decide) ?_
        refine eg_ireturn dX9_part_31 rfl rfl ?_
        refine ⟨congrArg (fun q => some (vI q)) ?_, rfl, y1, rfl, (fm1).1, hI.fm (fm1) hN1⟩
        unfold A_part; (repeat (first | rw [if_pos (by first | assumption | omega)] | rw [if_neg (by first | assumption | omega)]))
      · refine eg_iconst dX9_part_20 ?_
        refine eg_ireturn dX9_part_21 rfl rfl ?_
        refine ⟨congrArg (fun q => some (vI q)) ?_, rfl, z, rfl, (Fm.rf).1, hI.fm (Fm.rf) hN⟩
        unfold A_part; (repeat (first | rw [if_pos (by first | assumption | omega)] | rw [if_neg (by first | assumption | omega)]))
theorem m_worst {k : eg_K} {z : eg_Z} {X : eg_M} {n : Nat} {s : eg_S} (hI : IM z s) (hO : OS s) : eg_P k gX9_worst 6 0 0 [vR k 202] n (enc k z X) (eg_p k (some (vI (A_worst s.1))) n X (fun z' => FM z z' ∧ IM z' s)) := by
  refine eg_P.of (by decide) (Nat.le_of_ble_eq_true rfl) ?_
  show eg_E k gX9_worst 6 0 0 n (enc k z X) [vR k 202, vU, vU] [] 0 _
  have hN := hI.1
  have hv := hO.1.1
  have q := hv.r.2
  have hF : ∀ c, c ≠ 203 → z c = z c := fun _ _ => rfl
  have J : 0 < s.1 0 → ∀ y1 : eg_Z, MJ s.1 10 y1 → nw y1 s.1 → Fm z y1 → eg_E k gX9_worst 6 0 0 n (enc k y1 X) [vR k 202, vI (-2), vI 0] [] 18 (eg_p k (some (vI (A_worst s.1))) n X (fun z' => FM z z' ∧ IM z' s)) := by
    intro ht y1 j1 hN1 fm1
    have L1 : ∀ (mm : Nat) (i : Int), (0 ≤ i) → (i ≤ s.1 2) → s.1 2 - i < (mm : Int) → eg_E k gX9_worst 6 0 0 n (enc k y1 X) [vR k 202, vI (woF s.1 i.toNat), vI i] [] 18 (eg_p k (some (vI (A_worst s.1))) n X (fun z' => FM z z' ∧ IM z' s)) := by
      intro mm
      induction mm with
      | zero => intro i h0 h1 hmm; exfalso; omega
      | succ mm ih =>
        intro i h0 h1 hmm
        have wb := woF_b (v := s.1) i.toNat
        refine eg_iload_n dX9_worst_18 rfl ?_
        refine eg_al_n dX9_worst_19 rfl rfl ?_
        refine eg_iconst dX9_worst_20 ?_
        refine eg_Vf1 cs_X9_179 dX9_worst_21 (many_2 hN1) (by first | exact er202 | exact er203 | exact er204 | exact er205 | exact er206 | exact er207 | exact er208 | exact er209 | exact er210 | exact er211 | exact er212 | exact er213 | exact er214 | exact er215) rfl (Nat.le_of_ble_eq_true rfl) (by decide) ?_
        refine eg_icmp_ge 64 dX9_worst_24 ⟨by omega, by omega⟩ ⟨by omega, by omega⟩ rfl (fun h24 => ?_) (fun h24 => ?_)
        · refine eg_iload_n dX9_worst_64 rfl ?_
          refine eg_ireturn dX9_worst_65 rfl rfl ?_
          refine ⟨congrArg (fun q => some (vI q)) ?_, rfl, y1, rfl, fm1.1, hI.fm fm1 hN1⟩
          unfold A_worst
          rw [if_pos (by omega), show i.toNat = (s.1 2).toNat by omega]
        · have nb := sNom_b hv i
          refine eg_al_n dX9_worst_27 rfl rfl ?_
          refine eg_iload_n dX9_worst_28 rfl ?_
          refine eg_Vf1 cs_X9_356 dX9_worst_29 (c_nominated hN1 hv ⟨by omega, by omega⟩) (by first | exact er202 | exact er203 | exact er204 | exact er205 | exact er206 | exact er207 | exact er208 | exact er209 | exact er210 | exact er211 | exact er212 | exact er213 | exact er214 | exact er215) rfl (Nat.le_of_ble_eq_true rfl) (by decide) ?_
          refine eg_lk0 dX9_worst_32 ?_
          refine eg_lc_le 58 dX9_worst_33 dX9_worst_34 ⟨by omega, by omega⟩ ⟨by omega, by omega⟩ rfl (fun h33 => ?_) (fun h33 => ?_)
          · refine eg_iinc dX9_worst_58 rfl rfl rfl ?_
            refine eg_goto 18 dX9_worst_61 rfl ?_
            have t := ih (i + 1) (by omega) (by omega) (by omega)
            rw [woF_s h0] at t
            first
              | (rw [if_pos ⟨by omega, by omega⟩] at t; exact t)
              | (rw [if_neg (fun hh => by have h9 := hh.1; have h8 := hh.2; omega)] at t; exact t)
          · refine eg_iload_n dX9_worst_37 rfl ?_
            refine eg_bipush dX9_worst_38 (by decide) ?_
            refine eg_icmp_eq 56 dX9_worst_40 ⟨by omega, by omega⟩ ⟨by omega, by omega⟩ rfl (fun h40 => ?_) (fun h40 => ?_)
            · refine eg_iload_n dX9_worst_56 rfl ?_
              refine eg_istore_n dX9_worst_57 rfl rfl rfl ?_
              refine eg_iinc dX9_worst_58 rfl rfl rfl ?_
              refine eg_goto 18 dX9_worst_61 rfl ?_
              have t := ih (i + 1) (by omega) (by omega) (by omega)
              rw [woF_s h0] at t
              first
                | (rw [if_pos ⟨by omega, by omega⟩] at t; exact t)
                | (rw [if_neg (fun hh => by have h9 := hh.1; have h8 := hh.2; omega)] at t; exact t)
            · have sb := shR_b hv (okpS hv hO.1.2.1) i
              have sb2 := shR_b hv (okpS hv hO.1.2.1) (woF s.1 i.toNat)
              refine eg_al_n dX9_worst_43 rfl rfl ?_
              refine eg_iload_n dX9_worst_44 rfl ?_
              refine eg_Vf1 cs_X9_359 dX9_worst_45 (c_partOf hN1 hv ⟨by omega, by omega⟩ (okpS hv hO.1.2.1) (fun q9 a9 b9 => (j1.2 q9 a9 b9).1)) (by first | exact er202 | exact er203 | exact er204 | exact er205 | exact er206 | exact er207 | exact er208 | exact er209 | exact er210 | exact er211 | exact er212 | exact er213 | exact er214 | exact er215) rfl (Nat.le_of_ble_eq_true rfl) (by decide) ?_
              refine eg_al_n dX9_worst_48 rfl rfl ?_
              refine eg_iload_n dX9_worst_49 rfl ?_
              refine eg_Vf1 cs_X9_359 dX9_worst_50 (c_partOf hN1 hv ⟨by omega, by omega⟩ (okpS hv hO.1.2.1) (fun q9 a9 b9 => (j1.2 q9 a9 b9).1)) (by first | exact er202 | exact er203 | exact er204 | exact er205 | exact er206 | exact er207 | exact er208 | exact er209 | exact er210 | exact er211 | exact er212 | exact er213 | exact er214 | exact er215) rfl (Nat.le_of_ble_eq_true rfl) (by decide) ?_
              refine eg_icmp_ge 58 dX9_worst_53 ⟨by omega, by omega⟩ ⟨by omega, by omega⟩ rfl (fun h53 => ?_) (fun h53 => ?_)
              · refine eg_iinc dX9_worst_58 rfl rfl rfl ?_
                refine eg_goto 18 dX9_worst_61 rfl ?_
                have t := ih (i + 1) (by omega) (by omega) (by omega)
                rw [woF_s h0] at t
                first
                  | (rw [if_pos ⟨by omega, by omega⟩] at t; exact t)
                  | (rw [if_neg (fun hh => by have h9 := hh.1; have h8 := hh.2; omega)] at t; exact t)
              · refine eg_iload_n dX9_worst_56 rfl ?_
                refine eg_istore_n dX9_worst_57 rfl rfl rfl ?_
                refine eg_iinc dX9_worst_58 rfl rfl rfl ?_
                refine eg_goto 18 dX9_worst_61 rfl ?_
                have t := ih (i + 1) (by omega) (by omega) (by omega)
                rw [woF_s h0] at t
                first
                  | (rw [if_pos ⟨by omega, by omega⟩] at t; exact t)
                  | (rw [if_neg (fun hh => by have h9 := hh.1; have h8 := hh.2; omega)] at t; exact t)
    exact L1 7 0 (by omega) (by omega) (by omega)
  refine eg_al_n dX9_worst_0 rfl rfl ?_
  refine eg_Vf0 cs_X9_315 dX9_worst_1 (c_hasPipe hN hv) (by first | exact er202 | exact er203 | exact er204 | exact er205 | exact er206 | exact er207 | exact er208 | exact er209 | exact er210 | exact er211 | exact er212 | exact er213 | exact er214 | exact er215) rfl (Nat.le_of_ble_eq_true rfl) (by decide) ?_
  refine eg_bi_ne 9 dX9_worst_4 rfl (fun h4 => ?_) (fun h4 => ?_)
  · refine eg_al_n dX9_worst_9 rfl rfl ?_
    refine eg_Vpv0 cs_X9_302 dX9_worst_10 (c_schedules hN hv hO.1.2.1) (by first | exact er202 | exact er203 | exact er204 | exact er205 | exact er206 | exact er207 | exact er208 | exact er209 | exact er210 | exact er211 | exact er212 | exact er213 | exact er214 | exact er215) rfl (Nat.le_of_ble_eq_true rfl) (by decide) ?_
    rintro y1 ⟨f1, j1, p1⟩
    have hN1 : nw y1 s.1 := nw_c (f1 203 (by omega)) hN
    have fm1 : Fm z y1 := Fm.of (fun c hc => f1 c (by omega))
    refine eg_bipush dX9_worst_13 (by decide) ?_
    refine eg_istore_n dX9_worst_15 rfl rfl rfl ?_
    refine eg_iconst dX9_worst_16 ?_
    refine eg_istore_n dX9_worst_17 rfl rfl rfl ?_
    exact J (by omega) y1 j1 hN1 fm1
  · refine eg_iconst dX9_worst_7 ?_
    refine eg_ireturn dX9_worst_8 rfl rfl ?_
    refine ⟨congrArg (fun q => some (vI q)) ?_, rfl, z, rfl, (Fm.rf).1, hI.fm (Fm.rf) hN⟩
    unfold A_worst; (repeat (first | rw [if_pos (by first | assumption | omega)] | rw [if_neg (by first | assumption | omega)]))
theorem m_total {k : eg_K} {z : eg_Z} {X : eg_M} {n : Nat} {s : eg_S} (hI : IM z s) (hO : OS s) {a : Int} (r_a : iR a) : eg_P k gX9_total 1 0 0 [vR k 202, vI a] n (enc k z X) (eg_p k (some (vL (A_total s.1 a))) n X (fun z' => FM z z' ∧ IM z' s)) := by
  refine eg_P.of (by decide) (Nat.le_of_ble_eq_true rfl) ?_
  show eg_E k gX9_total 1 0 0 n (enc k z X) [vR k 202, vI a, vU, vU, vU] [] 0 _
  have hN := hI.1
  have hv := hO.1.1
  have q := hv.r.2
  have hF : ∀ c, c ≠ 203 → z c = z c := fun _ _ => rfl
  have r_a1 := r_a.1; have r_a2 := r_a.2
  have L1 : (0 < s.1 0 ∧ a = 4) → ∀ (mm : Nat) (i : Int), (0 ≤ i) → (i ≤ s.1 2) → s.1 2 - i < (mm : Int) → eg_E k gX9_total 1 0 0 n (enc k z X) [vR k 202, vI a, vL (sm (bkF s.1) i.toNat), vU, vI i] [] 43 (eg_p k (some (vL (A_total s.1 a))) n X (fun z' => FM z z' ∧ IM z' s)) := by
    intro ha mm
    induction mm with
    | zero => intro i h0 h1 hmm; exfalso; omega
    | succ mm ih =>
      intro i h0 h1 hmm
      refine eg_iload dX9_total_43 rfl ?_
      refine eg_al_n dX9_total_45 rfl rfl ?_
      refine eg_iconst dX9_total_46 ?_
      refine eg_Vf1 cs_X9_179 dX9_total_47 (many_2 hN) (by first | exact er202 | exact er203 | exact er204 | exact er205 | exact er206 | exact er207 | exact er208 | exact er209 | exact er210 | exact er211 | exact er212 | exact er213 | exact er214 | exact er215) rfl (Nat.le_of_ble_eq_true rfl) (by decide) ?_
      refine eg_icmp_ge 77 dX9_total_50 ⟨by omega, by omega⟩ ⟨by omega, by omega⟩ rfl (fun h50 => ?_) (fun h50 => ?_)
      · refine eg_lload_n dX9_total_77 rfl ?_
        refine eg_lreturn dX9_total_78 rfl ?_
        refine ⟨congrArg (fun q => some (vL q)) ?_, rfl, z, rfl, FM.rf, hI⟩
        unfold A_total
        rw [if_pos (by omega), if_pos (by omega), show i = s.1 2 by omega]
      · refine eg_lload_n dX9_total_53 rfl ?_
        refine eg_al_n dX9_total_54 rfl rfl ?_
        refine eg_iload dX9_total_55 rfl ?_
        refine eg_iconst dX9_total_57 ?_
        refine eg_Vf2 cs_X9_237 dX9_total_58 (c_ship hN (by omega) (by omega) (by omega) (by omega)) (by first | exact er202 | exact er203 | exact er204 | exact er205 | exact er206 | exact er207 | exact er208 | exact er209 | exact er210 | exact er211 | exact er212 | exact er213 | exact er214 | exact er215) rfl (Nat.le_of_ble_eq_true rfl) (by decide) ?_
        refine eg_al_n dX9_total_61 rfl rfl ?_
        refine eg_iload dX9_total_62 rfl ?_
        refine eg_iconst dX9_total_64 ?_
        refine eg_Vf2 cs_X9_237 dX9_total_65 (c_ship hN (by omega) (by omega) (by omega) (by omega)) (by first | exact er202 | exact er203 | exact er204 | exact er205 | exact er206 | exact er207 | exact er208 | exact er209 | exact er210 | exact er211 | exact er212 | exact er213 | exact er214 | exact er215) rfl (Nat.le_of_ble_eq_true rfl) (by decide) ?_
        refine eg_ladd dX9_total_68 ?_
        refine eg_ladd dX9_total_69 ?_
        refine eg_eqL (y := sm (bkF s.1) (i + 1).toNat) (by rw [sm_s _ h0]; rfl) ?_
        refine eg_lstore_n dX9_total_70 rfl rfl rfl ?_
        refine eg_iinc dX9_total_71 rfl rfl rfl ?_
        refine eg_goto 43 dX9_total_74 rfl ?_
        exact ih (i + 1) (by omega) (by omega) (by omega)
  refine eg_al_n dX9_total_0 rfl rfl ?_
  refine eg_Vf0 cs_X9_315 dX9_total_1 (c_hasPipe hN hv) (by first | exact er202 | exact er203 | exact er204 | exact er205 | exact er206 | exact er207 | exact er208 | exact er209 | exact er210 | exact er211 | exact er212 | exact er213 | exact er214 | exact er215) rfl (Nat.le_of_ble_eq_true rfl) (by decide) ?_
  refine eg_bi_eq 19 dX9_total_4 rfl (fun h4 => ?_) (fun h4 => ?_)
  · refine eg_ldc2 kw_X9_370 dX9_total_19 ?_
    refine eg_lreturn dX9_total_22 rfl ?_
    refine ⟨congrArg (fun q => some (vL q)) ?_, rfl, z, rfl, (Fm.rf).1, hI.fm (Fm.rf) hN⟩
    unfold A_total; (repeat (first | rw [if_pos (by first | assumption | omega)] | rw [if_neg (by first | assumption | omega)]))
  · refine eg_iload_n dX9_total_7 rfl ?_
    refine eg_i2l dX9_total_8 ⟨by omega, by omega⟩ ?_
    refine eg_lk0 dX9_total_9 ?_
    refine eg_ldc2 kw_X9_368 dX9_total_10 ?_
    refine eg_Sf3 cs_X9_81 dX9_total_13 (c_in ⟨by omega, by omega⟩ ⟨by omega, by omega⟩ ⟨by omega, by omega⟩) (Nat.le_of_ble_eq_true rfl) (by decide) ?_
    refine eg_bi_ne 23 dX9_total_16 rfl (fun h16 => ?_) (fun h16 => ?_)
    · refine eg_iload_n dX9_total_23 rfl ?_
      refine eg_iconst dX9_total_24 ?_
      refine eg_icmp_ge 38 dX9_total_25 ⟨by omega, by omega⟩ ⟨by omega, by omega⟩ rfl (fun h25 => ?_) (fun h25 => ?_)
      · refine eg_lk0 dX9_total_38 ?_
        refine eg_lstore_n dX9_total_39 rfl rfl rfl ?_
        refine eg_iconst dX9_total_40 ?_
        refine eg_istore dX9_total_41 rfl rfl rfl ?_
        exact L1 (by omega) 7 0 (by omega) (by omega) (by omega)
      · refine eg_al_n dX9_total_28 rfl rfl ?_
        refine eg_get fl_X9_9 dX9_total_29 (by first | exact er202 | exact er203 | exact er204 | exact er205 | exact er206 | exact er207 | exact er208 | exact er209 | exact er210 | exact er211 | exact er212 | exact er213 | exact er214 | exact er215) rfl ?_
        refine eg_bipush dX9_total_32 (by decide) ?_
        refine eg_iload_n dX9_total_34 rfl ?_
        refine eg_iadd dX9_total_35 ?_
        refine eg_nowL dX9_total_36 hN (by omega) (by omega) ?_
        refine eg_lreturn dX9_total_37 rfl ?_
        refine ⟨congrArg (fun q => some (vL q)) ?_, rfl, z, rfl, (Fm.rf).1, hI.fm (Fm.rf) hN⟩
        unfold A_total; (repeat (first | rw [if_pos (by first | assumption | omega)] | rw [if_neg (by first | assumption | omega)]))
    · refine eg_ldc2 kw_X9_370 dX9_total_19 ?_
      refine eg_lreturn dX9_total_22 rfl ?_
      refine ⟨congrArg (fun q => some (vL q)) ?_, rfl, z, rfl, (Fm.rf).1, hI.fm (Fm.rf) hN⟩
      unfold A_total; (repeat (first | rw [if_pos (by first | assumption | omega)] | rw [if_neg (by first | assumption | omega)]))
theorem m_price {k : eg_K} {z : eg_Z} {X : eg_M} {n : Nat} {s : eg_S} (hI : IM z s) (hO : OS s) {a : Int} (r_a : iR a) : eg_P k gX9_price 1 0 0 [vR k 202, vI a] n (enc k z X) (eg_p k (some (vI (A_price s.1 a))) n X (fun z' => FM z z' ∧ IM z' s)) := by
  refine eg_P.of (by decide) (Nat.le_of_ble_eq_true rfl) ?_
  show eg_E k gX9_price 1 0 0 n (enc k z X) [vR k 202, vI a] [] 0 _
  have hN := hI.1
  have hv := hO.1.1
  have q := hv.r.2
  have hF : ∀ c, c ≠ 203 → z c = z c := fun _ _ => rfl
  have r_a1 := r_a.1; have r_a2 := r_a.2
  refine eg_al_n dX9_price_0 rfl rfl ?_
  refine eg_Vf0 cs_X9_315 dX9_price_1 (c_hasPipe hN hv) (by first | exact er202 | exact er203 | exact er204 | exact er205 | exact er206 | exact er207 | exact er208 | exact er209 | exact er210 | exact er211 | exact er212 | exact er213 | exact er214 | exact er215) rfl (Nat.le_of_ble_eq_true rfl) (by decide) ?_
  refine eg_bi_eq 27 dX9_price_4 rfl (fun h4 => ?_) (fun h4 => ?_)
  · refine eg_iconst dX9_price_27 ?_
    refine eg_ireturn dX9_price_28 rfl rfl ?_
    refine ⟨congrArg (fun q => some (vI q)) ?_, rfl, z, rfl, FM.rf, hI⟩
    unfold A_price
    first
      | (rw [if_neg (by omega)])
      | (rw [if_pos (by omega)]; by_cases e0 : a = 0; (rw [if_pos e0, e0]; rfl); (rw [if_neg e0, show a = 1 by omega]; rfl))
  · refine eg_iload_n dX9_price_7 rfl ?_
    refine eg_i2l dX9_price_8 ⟨by omega, by omega⟩ ?_
    refine eg_lk0 dX9_price_9 ?_
    refine eg_lk1 dX9_price_10 ?_
    refine eg_Sf3 cs_X9_81 dX9_price_11 (c_in ⟨by omega, by omega⟩ ⟨by omega, by omega⟩ ⟨by omega, by omega⟩) (Nat.le_of_ble_eq_true rfl) (by decide) ?_
    refine eg_bi_eq 27 dX9_price_14 rfl (fun h14 => ?_) (fun h14 => ?_)
    · refine eg_iconst dX9_price_27 ?_
      refine eg_ireturn dX9_price_28 rfl rfl ?_
      refine ⟨congrArg (fun q => some (vI q)) ?_, rfl, z, rfl, FM.rf, hI⟩
      unfold A_price
      first
        | (rw [if_neg (by omega)])
        | (rw [if_pos (by omega)]; by_cases e0 : a = 0; (rw [if_pos e0, e0]; rfl); (rw [if_neg e0, show a = 1 by omega]; rfl))
    · refine eg_al_n dX9_price_17 rfl rfl ?_
      refine eg_iconst dX9_price_18 ?_
      refine eg_iload_n dX9_price_19 rfl ?_
      refine eg_iadd dX9_price_20 ?_
      refine eg_Vf1 cs_X9_179 dX9_price_21 (c_many hN (by omega) (by omega)) (by first | exact er202 | exact er203 | exact er204 | exact er205 | exact er206 | exact er207 | exact er208 | exact er209 | exact er210 | exact er211 | exact er212 | exact er213 | exact er214 | exact er215) rfl (Nat.le_of_ble_eq_true rfl) (by decide) ?_
      refine eg_goto 28 dX9_price_24 rfl ?_
      refine eg_ireturn dX9_price_28 rfl rfl ?_
      refine ⟨congrArg (fun q => some (vI q)) ?_, rfl, z, rfl, FM.rf, hI⟩
      unfold A_price
      first
        | (rw [if_neg (by omega)])
        | (rw [if_pos (by omega)]; by_cases e0 : a = 0; (rw [if_pos e0, e0]; rfl); (rw [if_neg e0, show a = 1 by omega]; rfl))
theorem eg_count7 {k : eg_K} {g : eg_G} {d bc bs n : Nat} {M : eg_M} {ls st : List Value} {pc : Nat} {Q : eg_Q} {f : Nat → Bool} (hd : decode g.2.1 pc = .ok (.ior, 1)) (h : eg_E k g d bc bs n M ls (vI (kpB f) :: st) (pc + 1) Q) : eg_E k g d bc bs n M ls (vI (((if f 1 = true then 2 else 0 : Nat)) : Int) :: vI (if f 0 = true then 1 else 0) :: st) pc Q := by
  rw [show (if f 0 = true then (1 : Int) else 0) = (((if f 0 = true then 1 else 0 : Nat)) : Int) by split <;> rfl]
  refine eg_orN hd (by split <;> decide) (by split <;> decide) ?_
  rw [show (((if f 0 = true then 1 else 0 : Nat) ||| (if f 1 = true then 2 else 0 : Nat) : Nat) : Int) = kpB f by unfold kpB; split <;> split <;> rfl]
  exact h
theorem m_count {k : eg_K} {z : eg_Z} {X : eg_M} {n : Nat} {s : eg_S} (hI : IM z s) (hO : OS s) {a : Int} (r_a : iR a) : eg_P k gX9_count 1 0 0 [vR k 202, vI a] n (enc k z X) (eg_p k (some (vI (A_count s a))) n X (fun z' => FM z z' ∧ IM z' s)) := by
  refine eg_P.of (by decide) (Nat.le_of_ble_eq_true rfl) ?_
  show eg_E k gX9_count 1 0 0 n (enc k z X) [vR k 202, vI a] [] 0 _
  have hN := hI.1
  have hv := hO.1.1
  have q := hv.r.2
  have hF : ∀ c, c ≠ 203 → z c = z c := fun _ _ => rfl
  have r_a1 := r_a.1; have r_a2 := r_a.2
  refine eg_iload_n dX9_count_0 rfl ?_
  by_cases t1_48 : a = 0
  · refine eg_tbI 48 dX9_count_1 ⟨by omega, by omega⟩ (by omega) (by omega) (by rw [t1_48]; rfl) rfl ?_
    refine eg_al_n dX9_count_48 rfl rfl ?_
    refine eg_iconst dX9_count_49 ?_
    refine eg_Vf1 cs_X9_179 dX9_count_50 (many_0 hN) (by first | exact er202 | exact er203 | exact er204 | exact er205 | exact er206 | exact er207 | exact er208 | exact er209 | exact er210 | exact er211 | exact er212 | exact er213 | exact er214 | exact er215) rfl (Nat.le_of_ble_eq_true rfl) (by decide) ?_
    refine eg_ireturn dX9_count_53 rfl rfl ?_
    refine ⟨congrArg (fun q => some (vI q)) ?_, rfl, z, rfl, FM.rf, hI⟩
    unfold A_count
    (repeat (first | rw [if_pos (by first | assumption | omega)] | rw [if_neg (by first | assumption | omega)])) <;> first | exact hI.2.1.2.1 | exact hI.2.2.2.2.1
  by_cases t1_54 : a = 1
  · refine eg_tbI 54 dX9_count_1 ⟨by omega, by omega⟩ (by omega) (by omega) (by rw [t1_54]; rfl) rfl ?_
    refine eg_al_n dX9_count_54 rfl rfl ?_
    refine eg_iconst dX9_count_55 ?_
    refine eg_Vf1 cs_X9_179 dX9_count_56 (many_1 hN) (by first | exact er202 | exact er203 | exact er204 | exact er205 | exact er206 | exact er207 | exact er208 | exact er209 | exact er210 | exact er211 | exact er212 | exact er213 | exact er214 | exact er215) rfl (Nat.le_of_ble_eq_true rfl) (by decide) ?_
    refine eg_ireturn dX9_count_59 rfl rfl ?_
    refine ⟨congrArg (fun q => some (vI q)) ?_, rfl, z, rfl, FM.rf, hI⟩
    unfold A_count
    (repeat (first | rw [if_pos (by first | assumption | omega)] | rw [if_neg (by first | assumption | omega)])) <;> first | exact hI.2.1.2.1 | exact hI.2.2.2.2.1
  by_cases t1_60 : a = 2
  · refine eg_tbI 60 dX9_count_1 ⟨by omega, by omega⟩ (by omega) (by omega) (by rw [t1_60]; rfl) rfl ?_
    refine eg_al_n dX9_count_60 rfl rfl ?_
    refine eg_iconst dX9_count_61 ?_
    refine eg_Vf1 cs_X9_179 dX9_count_62 (many_2 hN) (by first | exact er202 | exact er203 | exact er204 | exact er205 | exact er206 | exact er207 | exact er208 | exact er209 | exact er210 | exact er211 | exact er212 | exact er213 | exact er214 | exact er215) rfl (Nat.le_of_ble_eq_true rfl) (by decide) ?_
    refine eg_ireturn dX9_count_65 rfl rfl ?_
    refine ⟨congrArg (fun q => some (vI q)) ?_, rfl, z, rfl, FM.rf, hI⟩
    unfold A_count
    (repeat (first | rw [if_pos (by first | assumption | omega)] | rw [if_neg (by first | assumption | omega)])) <;> first | exact hI.2.1.2.1 | exact hI.2.2.2.2.1
  by_cases t1_66 : a = 3
  · refine eg_tbI 66 dX9_count_1 ⟨by omega, by omega⟩ (by omega) (by omega) (by rw [t1_66]; rfl) rfl ?_
    refine eg_al_n dX9_count_66 rfl rfl ?_
    refine eg_iconst dX9_count_67 ?_
    refine eg_Vf1 cs_X9_179 dX9_count_68 (many_3 hN) (by first | exact er202 | exact er203 | exact er204 | exact er205 | exact er206 | exact er207 | exact er208 | exact er209 | exact er210 | exact er211 | exact er212 | exact er213 | exact er214 | exact er215) rfl (Nat.le_of_ble_eq_true rfl) (by decide) ?_
    refine eg_ireturn dX9_count_71 rfl rfl ?_
    refine ⟨congrArg (fun q => some (vI q)) ?_, rfl, z, rfl, FM.rf, hI⟩
    unfold A_count
    (repeat (first | rw [if_pos (by first | assumption | omega)] | rw [if_neg (by first | assumption | omega)])) <;> first | exact hI.2.1.2.1 | exact hI.2.2.2.2.1
  by_cases t1_72 : a = 4
  · refine eg_tbI 72 dX9_count_1 ⟨by omega, by omega⟩ (by omega) (by omega) (by rw [t1_72]; rfl) rfl ?_
    refine eg_al_n dX9_count_72 rfl rfl ?_
    refine eg_iconst dX9_count_73 ?_
    refine eg_Vf1 cs_X9_179 dX9_count_74 (many_4 hN) (by first | exact er202 | exact er203 | exact er204 | exact er205 | exact er206 | exact er207 | exact er208 | exact er209 | exact er210 | exact er211 | exact er212 | exact er213 | exact er214 | exact er215) rfl (Nat.le_of_ble_eq_true rfl) (by decide) ?_
    refine eg_ireturn dX9_count_77 rfl rfl ?_
    refine ⟨congrArg (fun q => some (vI q)) ?_, rfl, z, rfl, FM.rf, hI⟩
    unfold A_count
    (repeat (first | rw [if_pos (by first | assumption | omega)] | rw [if_neg (by first | assumption | omega)])) <;> first | exact hI.2.1.2.1 | exact hI.2.2.2.2.1
  by_cases t1_78 : a = 5
  · refine eg_tbI 78 dX9_count_1 ⟨by omega, by omega⟩ (by omega) (by omega) (by rw [t1_78]; rfl) rfl ?_
    refine eg_al_n dX9_count_78 rfl rfl ?_
    refine eg_get fl_X9_176 dX9_count_79 (by first | exact er202 | exact er203 | exact er204 | exact er205 | exact er206 | exact er207 | exact er208 | exact er209 | exact er210 | exact er211 | exact er212 | exact er213 | exact er214 | exact er215) rfl ?_
    refine eg_ireturn dX9_count_82 rfl rfl ?_
    refine ⟨congrArg (fun q => some (vI q)) ?_, rfl, z, rfl, FM.rf, hI⟩
    unfold A_count
    (repeat (first | rw [if_pos (by first | assumption | omega)] | rw [if_neg (by first | assumption | omega)])) <;> first | exact hI.2.1.2.1 | exact hI.2.2.2.2.1
  by_cases t1_83 : a = 6
  · refine eg_tbI 83 dX9_count_1 ⟨by omega, by omega⟩ (by omega) (by omega) (by rw [t1_83]; rfl) rfl ?_
    refine eg_al_n dX9_count_83 rfl rfl ?_
    refine eg_get fl_X9_52 dX9_count_84 (by first | exact er202 | exact er203 | exact er204 | exact er205 | exact er206 | exact er207 | exact er208 | exact er209 | exact er210 | exact er211 | exact er212 | exact er213 | exact er214 | exact er215) rfl ?_
    refine eg_ireturn dX9_count_87 rfl rfl ?_
    refine ⟨congrArg (fun q => some (vI q)) ?_, rfl, z, rfl, FM.rf, hI⟩
    unfold A_count
    (repeat (first | rw [if_pos (by first | assumption | omega)] | rw [if_neg (by first | assumption | omega)])) <;> first | exact hI.2.1.2.1 | exact hI.2.2.2.2.1
  by_cases t1_88 : a = 7
  · refine eg_tbI 88 dX9_count_1 ⟨by omega, by omega⟩ (by omega) (by omega) (by rw [t1_88]; rfl) rfl ?_
    refine eg_al_n dX9_count_88 rfl rfl ?_
    refine eg_get fl_X9_25 dX9_count_89 (by first | exact er202 | exact er203 | exact er204 | exact er205 | exact er206 | exact er207 | exact er208 | exact er209 | exact er210 | exact er211 | exact er212 | exact er213 | exact er214 | exact er215) rfl ?_
    refine eg_iconst dX9_count_92 ?_
    refine eg_zald dX9_count_93 (by first | exact er202 | exact er203 | exact er204 | exact er205 | exact er206 | exact er207 | exact er208 | exact er209 | exact er210 | exact er211 | exact er212 | exact er213 | exact er214 | exact er215) (by omega) (by omega) (by decide) ?_
    refine eg_eqI ((hI.2.2.1 0 (by decide)).1) ?_
    refine eg_Sf1 cs_X9_118 dX9_count_94 (c_truth (by split <;> omega)) (Nat.le_of_ble_eq_true rfl) (by decide) ?_
    refine eg_al_n dX9_count_97 rfl rfl ?_
    refine eg_get fl_X9_25 dX9_count_98 (by first | exact er202 | exact er203 | exact er204 | exact er205 | exact er206 | exact er207 | exact er208 | exact er209 | exact er210 | exact er211 | exact er212 | exact er213 | exact er214 | exact er215) rfl ?_
    refine eg_iconst dX9_count_101 ?_
    refine eg_zald dX9_count_102 (by first | exact er202 | exact er203 | exact er204 | exact er205 | exact er206 | exact er207 | exact er208 | exact er209 | exact er210 | exact er211 | exact er212 | exact er213 | exact er214 | exact er215) (by omega) (by omega) (by decide) ?_
    refine eg_eqI ((hI.2.2.1 1 (by decide)).1) ?_
    refine eg_Sf1 cs_X9_118 dX9_count_103 (c_truth (by split <;> omega)) (Nat.le_of_ble_eq_true rfl) (by decide) ?_
    refine eg_iconst dX9_count_106 ?_
    refine eg_ishl (j := 1) dX9_count_107 (by decide) ?_
    refine eg_eqI (y := (((if s.2.2.2.1 1 = true then 2 else 0 : Nat)) : Int)) (by split <;> rfl) ?_
    refine eg_count7 dX9_count_108 ?_
    refine eg_ireturn dX9_count_109 rfl rfl ?_
    refine ⟨congrArg (fun q => some (vI q)) ?_, rfl, z, rfl, FM.rf, hI⟩
    unfold A_count
    rw [if_neg (by omega), if_neg (by omega), if_neg (by omega), if_neg (by omega), if_neg (by omega), if_neg (by omega), if_neg (by omega), if_pos (by omega)]
  refine eg_tbO 110 dX9_count_1 ⟨by omega, by omega⟩ (by omega) rfl ?_
  refine eg_iconst dX9_count_110 ?_
  refine eg_ireturn dX9_count_111 rfl rfl ?_
  refine ⟨congrArg (fun q => some (vI q)) ?_, rfl, z, rfl, FM.rf, hI⟩
  unfold A_count
  (repeat (first | rw [if_pos (by first | assumption | omega)] | rw [if_neg (by first | assumption | omega)])) <;> first | exact hI.2.1.2.1 | exact hI.2.2.2.2.1
theorem m_cash {k : eg_K} {z : eg_Z} {X : eg_M} {n : Nat} {s : eg_S} (hI : IM z s) (hO : OS s) {a b : Int} (r_a : iR a) (r_b : iR b) : eg_P k gX9_cash 3 0 0 [vR k 202, vI a, vI b] n (enc k z X) (eg_p k (some (vL (A_cash s.1 a b))) n X (fun z' => FM z z' ∧ IM z' s)) := by
  refine eg_P.of (by decide) (Nat.le_of_ble_eq_true rfl) ?_
  show eg_E k gX9_cash 3 0 0 n (enc k z X) [vR k 202, vI a, vI b] [] 0 _
  have hN := hI.1
  have hv := hO.1.1
  have q := hv.r.2
  have hF : ∀ c, c ≠ 203 → z c = z c := fun _ _ => rfl
  have r_a1 := r_a.1; have r_a2 := r_a.2; have r_b1 := r_b.1; have r_b2 := r_b.2
  refine eg_al_n dX9_cash_0 rfl rfl ?_
  refine eg_iload_n dX9_cash_1 rfl ?_
  refine eg_Vf1 cs_X9_199 dX9_cash_2 (c_isShipper hN hv r_a) (by first | exact er202 | exact er203 | exact er204 | exact er205 | exact er206 | exact er207 | exact er208 | exact er209 | exact er210 | exact er211 | exact er212 | exact er213 | exact er214 | exact er215) rfl (Nat.le_of_ble_eq_true rfl) (by decide) ?_
  refine eg_bi_eq 18 dX9_cash_5 rfl (fun h5 => ?_) (fun h5 => ?_)
  · refine eg_ldc2 kw_X9_336 dX9_cash_18 ?_
    refine eg_lreturn dX9_cash_21 rfl ?_
    refine ⟨congrArg (fun q => some (vL q)) ?_, rfl, z, rfl, (Fm.rf).1, hI.fm (Fm.rf) hN⟩
    unfold A_cash; (repeat (first | rw [if_pos (by first | assumption | omega)] | rw [if_neg (by first | assumption | omega)]))
  · refine eg_iload_n dX9_cash_8 rfl ?_
    refine eg_i2l dX9_cash_9 ⟨by omega, by omega⟩ ?_
    refine eg_lk0 dX9_cash_10 ?_
    refine eg_lk1 dX9_cash_11 ?_
    refine eg_Sf3 cs_X9_81 dX9_cash_12 (c_in ⟨by omega, by omega⟩ ⟨by omega, by omega⟩ ⟨by omega, by omega⟩) (Nat.le_of_ble_eq_true rfl) (by decide) ?_
    refine eg_bi_ne 22 dX9_cash_15 rfl (fun h15 => ?_) (fun h15 => ?_)
    · refine eg_iload_n dX9_cash_22 rfl ?_
      refine eg_if_ne 34 dX9_cash_23 ⟨by omega, by omega⟩ rfl (fun h23 => ?_) (fun h23 => ?_)
      · refine eg_al_n dX9_cash_34 rfl rfl ?_
        refine eg_iload_n dX9_cash_35 rfl ?_
        refine eg_Vf1 cs_X9_333 dX9_cash_36 (c_owedBy hN hv (by omega) (by omega) (by omega)) (by first | exact er202 | exact er203 | exact er204 | exact er205 | exact er206 | exact er207 | exact er208 | exact er209 | exact er210 | exact er211 | exact er212 | exact er213 | exact er214 | exact er215) rfl (Nat.le_of_ble_eq_true rfl) (by decide) ?_
        refine eg_lreturn dX9_cash_39 rfl ?_
        refine ⟨congrArg (fun q => some (vL q)) ?_, rfl, z, rfl, (Fm.rf).1, hI.fm (Fm.rf) hN⟩
        unfold A_cash; (repeat (first | rw [if_pos (by first | assumption | omega)] | rw [if_neg (by first | assumption | omega)]))
      · refine eg_al_n dX9_cash_26 rfl rfl ?_
        refine eg_iload_n dX9_cash_27 rfl ?_
        refine eg_Vf1 cs_X9_329 dX9_cash_28 (c_overOf hN hv (by omega) (by omega) (by omega)) (by first | exact er202 | exact er203 | exact er204 | exact er205 | exact er206 | exact er207 | exact er208 | exact er209 | exact er210 | exact er211 | exact er212 | exact er213 | exact er214 | exact er215) rfl (Nat.le_of_ble_eq_true rfl) (by decide) ?_
        refine eg_goto 39 dX9_cash_31 rfl ?_
        refine eg_lreturn dX9_cash_39 rfl ?_
        refine ⟨congrArg (fun q => some (vL q)) ?_, rfl, z, rfl, (Fm.rf).1, hI.fm (Fm.rf) hN⟩
        unfold A_cash; (repeat (first | rw [if_pos (by first | assumption | omega)] | rw [if_neg (by first | assumption | omega)]))
    · refine eg_ldc2 kw_X9_336 dX9_cash_18 ?_
      refine eg_lreturn dX9_cash_21 rfl ?_
      refine ⟨congrArg (fun q => some (vL q)) ?_, rfl, z, rfl, (Fm.rf).1, hI.fm (Fm.rf) hN⟩
      unfold A_cash; (repeat (first | rw [if_pos (by first | assumption | omega)] | rw [if_neg (by first | assumption | omega)]))
theorem c_puts {k : eg_K} {z : eg_Z} {X : eg_M} {n : Nat} {L : Nat} {x : Int} (hL : L ≤ 396) (h1 : z 202 8 = (L : Int)) (hx : iR x) : eg_P k gX9_puts 0 0 0 [vR k 202, vI x] n (enc k z X) (eg_p k none n X (fun z' => (∀ c, c ≠ 202 → c ≠ 209 → z' c = z c) ∧ (∀ j, j ≠ 8 → z' 202 j = z 202 j) ∧ z' 202 8 = (L : Int) + 4 ∧ z' 209 = apN (z 209) L x 4)) := by
  refine eg_P.of (by decide) (Nat.le_of_ble_eq_true rfl) ?_
  show eg_E k gX9_puts 0 0 0 n (enc k z X) [vR k 202, vI x, vU] [] 0 _
  have hx1 := hx.1; have hx2 := hx.2
  have L : ∀ (m : Nat) (t : Nat) (y : eg_Z), t ≤ 4 → y 202 8 = (L : Int) + t → y 209 = apN (z 209) L x t → (∀ c, c ≠ 202 → c ≠ 209 → y c = z c) → (∀ j, j ≠ 8 → y 202 j = z 202 j) → 4 - (t : Int) < (m : Int) → eg_E k gX9_puts 0 0 0 n (enc k y X) [vR k 202, vI x, vI (24 - 8 * (t : Int))] [] 3 (eg_p k none n X (fun z' => (∀ c, c ≠ 202 → c ≠ 209 → z' c = z c) ∧ (∀ j, j ≠ 8 → z' 202 j = z 202 j) ∧ z' 202 8 = (L : Int) + 4 ∧ z' 209 = apN (z 209) L x 4)) := by
    intro m
    induction m with
    | zero => intro t y ht b1 b2 b3 b4 hm; exfalso; omega
    | succ m ih =>
      intro t y ht b1 b2 b3 b4 hm
      refine eg_iload_n dX9_puts_3 rfl ?_
      refine eg_if_lt 36 dX9_puts_4 ⟨by omega, by omega⟩ rfl (fun h4 => ?_) (fun h4 => ?_)
      · refine eg_return dX9_puts_36 rfl ?_
        have e9 : t = 4 := by omega
        subst e9
        exact ⟨rfl, rfl, y, rfl, b3, b4, b1, b2⟩
      · refine eg_al_n dX9_puts_7 rfl rfl ?_
        refine eg_get fl_X9_29 dX9_puts_8 (by first | exact er202 | exact er203 | exact er204 | exact er205 | exact er206 | exact er207 | exact er208 | exact er209 | exact er210 | exact er211 | exact er212 | exact er213 | exact er214 | exact er215) rfl ?_
        refine eg_al_n dX9_puts_11 rfl rfl ?_
        refine eg_get fl_X9_52 dX9_puts_12 (by first | exact er202 | exact er203 | exact er204 | exact er205 | exact er206 | exact er207 | exact er208 | exact er209 | exact er210 | exact er211 | exact er212 | exact er213 | exact er214 | exact er215) rfl ?_
        refine eg_eqI b1 ?_
        refine eg_iload_n dX9_puts_15 rfl ?_
        refine eg_iload_n dX9_puts_16 rfl ?_
        obtain ⟨j, ej⟩ : ∃ j : Nat, (24 : Int) - 8 * t = (j : Int) := ⟨24 - 8 * t, by omega⟩
        refine eg_eqI ej ?_
        refine eg_ishr dX9_puts_17 ⟨by omega, by omega⟩ (by omega) ?_
        refine eg_i2b dX9_puts_18 ?_
        refine eg_bast dX9_puts_19 (by first | exact er202 | exact er203 | exact er204 | exact er205 | exact er206 | exact er207 | exact er208 | exact er209 | exact er210 | exact er211 | exact er212 | exact er213 | exact er214 | exact er215) (by omega) (by omega) (by decide) nb_bm ?_
        refine eg_eqM (es209) ?_
        generalize w1 : va_up y 209 _ = y1
        have n1 : ∀ d, d ≠ 209 → y1 d = y d := fun d hd => by rw [← w1, va_up_n _ _ hd]
        have k1 : y1 209 = apN (z 209) L x (t + 1) := by
          rw [← w1, va_up_s, b2]
          show _ = va_up (apN (z 209) L x t) (L + t) _
          rw [show ((L : Int) + t).toNat = L + t by omega, show j = 24 - 8 * t by omega]
        refine eg_al_n dX9_puts_20 rfl rfl ?_
        refine eg_dup dX9_puts_21 rfl ?_
        refine eg_get fl_X9_52 dX9_puts_22 (by first | exact er202 | exact er203 | exact er204 | exact er205 | exact er206 | exact er207 | exact er208 | exact er209 | exact er210 | exact er211 | exact er212 | exact er213 | exact er214 | exact er215) rfl ?_
        refine eg_eqI (y := (L : Int) + t) (by rw [n1 _ (by decide), b1]) ?_
        refine eg_iconst dX9_puts_25 ?_
        refine eg_iadd dX9_puts_26 ?_
        refine eg_put fl_X9_52 dX9_puts_27 (by first | exact er202 | exact er203 | exact er204 | exact er205 | exact er206 | exact er207 | exact er208 | exact er209 | exact er210 | exact er211 | exact er212 | exact er213 | exact er214 | exact er215) rfl rfl rfl rfl ?_
        refine eg_eqM es202_8 ?_
        refine eg_iinc dX9_puts_30 rfl rfl rfl ?_
        refine eg_goto 3 dX9_puts_33 rfl ?_
        have := ih (t + 1) (va_up y1 202 (va_up (y1 202) 8 ((L : Int) + t + 1))) (by omega) (by rw [va_up_s, va_up_s]; omega) (by rw [va_up_n _ _ (by decide)]; exact k1) (fun c h1 h2 => by rw [va_up_n _ _ h1, n1 _ h2]; exact b3 c h1 h2) (fun j hj => by rw [va_up_s, va_up_n _ _ hj, n1 _ (by decide)]; exact b4 j hj) (by omega)
        rw [show (24 : Int) - 8 * ((t + 1 : Nat) : Int) = 24 - 8 * (t : Int) + -8 by omega] at this
        exact this
  refine eg_bipush dX9_puts_0 (by decide) ?_
  refine eg_istore_n dX9_puts_2 rfl rfl rfl ?_
  exact L 5 0 z (by omega) (by rw [h1]; omega) rfl (fun _ _ _ => rfl) (fun _ _ => rfl) (by omega)
theorem m_feed {k : eg_K} {z : eg_Z} {X : eg_M} {n : Nat} {s : eg_S} (hI : IM z s) (hO : OS s) {a b c d e : Int} (r_a : iR a) (r_b : iR b) (r_c : iR c) (r_d : iR d) (r_e : iR e) : eg_P k gX9_feed 1 0 0 [vR k 202, vI a, vI b, vI c, vI d, vI e] n (enc k z X) (eg_p k (some (vI (R_feed s a b c d e).1)) n X (fun z' => FM z z' ∧ IM z' (R_feed s a b c d e).2)) := by
  refine eg_P.of (by decide) (Nat.le_of_ble_eq_true rfl) ?_
  show eg_E k gX9_feed 1 0 0 n (enc k z X) [vR k 202, vI a, vI b, vI c, vI d, vI e] [] 0 _
  have hN := hI.1
  have hv := hO.1.1
  have q := hv.r.2
  have hF : ∀ c, c ≠ 203 → z c = z c := fun _ _ => rfl
  have r_a1 := r_a.1; have r_a2 := r_a.2; have r_b1 := r_b.1; have r_b2 := r_b.2; have r_c1 := r_c.1; have r_c2 := r_c.2; have r_d1 := r_d.1; have r_d2 := r_d.2; have r_e1 := r_e.1; have r_e2 := r_e.2
  have hT1 := hI.2.2.2.1
  have hT2 := hI.2.2.2.2.1
  refine eg_al_n dX9_feed_0 rfl rfl ?_
  refine eg_get fl_X9_52 dX9_feed_1 (by first | exact er202 | exact er203 | exact er204 | exact er205 | exact er206 | exact er207 | exact er208 | exact er209 | exact er210 | exact er211 | exact er212 | exact er213 | exact er214 | exact er215) rfl ?_
  refine eg_bipush dX9_feed_4 (by decide) ?_
  refine eg_iadd dX9_feed_6 ?_
  refine eg_sipush dX9_feed_7 (by decide) ?_
  refine eg_icmp_le 15 dX9_feed_10 ⟨by omega, by omega⟩ ⟨by omega, by omega⟩ rfl (fun h10 => ?_) (fun h10 => ?_)
  · refine eg_al_n dX9_feed_15 rfl rfl ?_
    refine eg_iload_n dX9_feed_16 rfl ?_
    refine eg_Vpv1 cs_X9_56 dX9_feed_17 (c_puts (L := s.2.2.2.2.2.1) (by omega) (by exact hI.2.2.2.2.1) r_a) (by first | exact er202 | exact er203 | exact er204 | exact er205 | exact er206 | exact er207 | exact er208 | exact er209 | exact er210 | exact er211 | exact er212 | exact er213 | exact er214 | exact er215) rfl (Nat.le_of_ble_eq_true rfl) (by decide) ?_
    rintro y1 ⟨m1, o1, l1, k1⟩
    refine eg_al_n dX9_feed_20 rfl rfl ?_
    refine eg_iload_n dX9_feed_21 rfl ?_
    refine eg_Vpv1 cs_X9_56 dX9_feed_22 (c_puts (L := s.2.2.2.2.2.1 + 4) (by omega) (by rw [l1]; omega) r_b) (by first | exact er202 | exact er203 | exact er204 | exact er205 | exact er206 | exact er207 | exact er208 | exact er209 | exact er210 | exact er211 | exact er212 | exact er213 | exact er214 | exact er215) rfl (Nat.le_of_ble_eq_true rfl) (by decide) ?_
    rintro y2 ⟨m2, o2, l2, k2⟩
    refine eg_al_n dX9_feed_25 rfl rfl ?_
    refine eg_iload_n dX9_feed_26 rfl ?_
    refine eg_Vpv1 cs_X9_56 dX9_feed_27 (c_puts (L := s.2.2.2.2.2.1 + 8) (by omega) (by rw [l2]; omega) r_c) (by first | exact er202 | exact er203 | exact er204 | exact er205 | exact er206 | exact er207 | exact er208 | exact er209 | exact er210 | exact er211 | exact er212 | exact er213 | exact er214 | exact er215) rfl (Nat.le_of_ble_eq_true rfl) (by decide) ?_
    rintro y3 ⟨m3, o3, l3, k3⟩
    refine eg_al_n dX9_feed_30 rfl rfl ?_
    refine eg_iload dX9_feed_31 rfl ?_
    refine eg_Vpv1 cs_X9_56 dX9_feed_33 (c_puts (L := s.2.2.2.2.2.1 + 12) (by omega) (by rw [l3]; omega) r_d) (by first | exact er202 | exact er203 | exact er204 | exact er205 | exact er206 | exact er207 | exact er208 | exact er209 | exact er210 | exact er211 | exact er212 | exact er213 | exact er214 | exact er215) rfl (Nat.le_of_ble_eq_true rfl) (by decide) ?_
    rintro y4 ⟨m4, o4, l4, k4⟩
    refine eg_al_n dX9_feed_36 rfl rfl ?_
    refine eg_iload dX9_feed_37 rfl ?_
    refine eg_Vpv1 cs_X9_56 dX9_feed_39 (c_puts (L := s.2.2.2.2.2.1 + 16) (by omega) (by rw [l4]; omega) r_e) (by first | exact er202 | exact er203 | exact er204 | exact er205 | exact er206 | exact er207 | exact er208 | exact er209 | exact er210 | exact er211 | exact er212 | exact er213 | exact er214 | exact er215) rfl (Nat.le_of_ble_eq_true rfl) (by decide) ?_
    rintro y5 ⟨m5, o5, l5, k5⟩
    refine eg_al_n dX9_feed_42 rfl rfl ?_
    refine eg_get fl_X9_52 dX9_feed_43 (by first | exact er202 | exact er203 | exact er204 | exact er205 | exact er206 | exact er207 | exact er208 | exact er209 | exact er210 | exact er211 | exact er212 | exact er213 | exact er214 | exact er215) rfl ?_
    refine eg_ireturn dX9_feed_46 rfl rfl ?_
    rw [show R_feed s a b c d e = ((s.2.2.2.2.2.1 : Int) + 20, tpS s (s.2.2.2.2.2.1 + 20) (ap5 s.2.2.2.2.2.2 s.2.2.2.2.2.1 a b c d e)) from by unfold R_feed; (repeat (first | rw [if_pos (by first | assumption | omega)] | rw [if_neg (by first | assumption | omega)]))]
    have ee : ∀ cc, cc ≠ 202 → cc ≠ 209 → y5 cc = z cc := fun cc h1 h2 => by rw [m5 cc h1 h2, m4 cc h1 h2, m3 cc h1 h2, m2 cc h1 h2, m1 cc h1 h2]
    have eo : ∀ j, j ≠ 8 → y5 202 j = z 202 j := fun j hj => by rw [o5 j hj, o4 j hj, o3 j hj, o2 j hj, o1 j hj]
    refine ⟨congrArg (fun q => some (vI q)) (by rw [l5]; omega), rfl, y5, rfl, fun cc hc => ee cc (by omega) (by omega), nw_c (ee 203 (by decide) (by decide)) hI.1, ⟨hI.2.1.1, by rw [eo 6 (by decide)]; exact hI.2.1.2.1, by rw [ee 206 (by decide) (by decide)]; exact hI.2.1.2.2⟩, by rw [ee 207 (by decide) (by decide), ee 208 (by decide) (by decide)]; exact hI.2.2.1, by show s.2.2.2.2.2.1 + 20 ≤ 400; omega, by rw [l5]; show _ = ((s.2.2.2.2.2.1 + 20 : Nat) : Int); omega, ?_⟩
    intro i hi
    show y5 209 i = ap5 s.2.2.2.2.2.2 s.2.2.2.2.2.1 a b c d e i
    rw [k5, k4, k3, k2, k1]
    exact apN_c (apN_c (apN_c (apN_c (apN_c hI.2.2.2.2.2 4) 4) 4) 4) 4 i hi
  · refine eg_iconst dX9_feed_13 ?_
    refine eg_ireturn dX9_feed_14 rfl rfl ?_
    rw [show R_feed s a b c d e = (-1, s) from by unfold R_feed; (repeat (first | rw [if_pos (by first | assumption | omega)] | rw [if_neg (by first | assumption | omega)]))]
    exact ⟨rfl, rfl, z, rfl, FM.rf, hI⟩
theorem m_end {k : eg_K} {z : eg_Z} {X : eg_M} {n : Nat} {s : eg_S} (hI : IM z s) (hO : OS s) {a : Int} (r_a : iR a) : eg_P k gX9_end 0 0 0 [vR k 202, vI a] n (enc k z X) (eg_p k (some (vI (R_end s a).1)) n X (fun z' => FM z z' ∧ IM z' (R_end s a).2)) := by
  refine eg_P.of (by decide) (Nat.le_of_ble_eq_true rfl) ?_
  show eg_E k gX9_end 0 0 0 n (enc k z X) [vR k 202, vI a] [] 0 _
  have hN := hI.1
  have hv := hO.1.1
  have q := hv.r.2
  have hF : ∀ c, c ≠ 203 → z c = z c := fun _ _ => rfl
  have r_a1 := r_a.1; have r_a2 := r_a.2
  have hT1 := hI.2.2.2.1
  have hT2 := hI.2.2.2.2.1
  refine eg_iload_n dX9_end_0 rfl ?_
  refine eg_if_lt 12 dX9_end_1 ⟨by omega, by omega⟩ rfl (fun h1 => ?_) (fun h1 => ?_)
  · refine eg_iconst dX9_end_12 ?_
    refine eg_ireturn dX9_end_13 rfl rfl ?_
    rw [show R_end s a = (-1, s) from by unfold R_end; (repeat (first | rw [if_pos (by first | assumption | omega)] | rw [if_neg (by first | assumption | omega)]))]
    exact ⟨rfl, rfl, z, rfl, FM.rf, hI⟩
  · refine eg_iload_n dX9_end_4 rfl ?_
    refine eg_al_n dX9_end_5 rfl rfl ?_
    refine eg_get fl_X9_52 dX9_end_6 (by first | exact er202 | exact er203 | exact er204 | exact er205 | exact er206 | exact er207 | exact er208 | exact er209 | exact er210 | exact er211 | exact er212 | exact er213 | exact er214 | exact er215) rfl ?_
    refine eg_icmp_le 14 dX9_end_9 ⟨by omega, by omega⟩ ⟨by omega, by omega⟩ rfl (fun h9 => ?_) (fun h9 => ?_)
    · refine eg_al_n dX9_end_14 rfl rfl ?_
      refine eg_iload_n dX9_end_15 rfl ?_
      refine eg_put fl_X9_52 dX9_end_16 (by first | exact er202 | exact er203 | exact er204 | exact er205 | exact er206 | exact er207 | exact er208 | exact er209 | exact er210 | exact er211 | exact er212 | exact er213 | exact er214 | exact er215) rfl rfl rfl rfl ?_
      refine eg_eqM es202_8 ?_
      refine eg_iload_n dX9_end_19 rfl ?_
      refine eg_ireturn dX9_end_20 rfl rfl ?_
      rw [show R_end s a = (a, tpS s a.toNat s.2.2.2.2.2.2) from by unfold R_end; (repeat (first | rw [if_pos (by first | assumption | omega)] | rw [if_neg (by first | assumption | omega)]))]
      refine ⟨rfl, rfl, _, rfl, fun cc hc => va_up_n _ _ (by omega), nw_c (va_up_n _ _ (by decide)) hI.1, hI.2.1, hI.2.2.1, by show a.toNat ≤ 400; omega, ?_, fun i hi => ?_⟩
      · rw [va_up_s, va_up_s]; show a = ((a.toNat : Nat) : Int); omega
      · rw [va_up_n _ _ (by decide)]; exact hI.2.2.2.2.2 i (by have : i < a.toNat := hi; omega)
    · refine eg_iconst dX9_end_12 ?_
      refine eg_ireturn dX9_end_13 rfl rfl ?_
      rw [show R_end s a = (-1, s) from by unfold R_end; (repeat (first | rw [if_pos (by first | assumption | omega)] | rw [if_neg (by first | assumption | omega)]))]
      exact ⟨rfl, rfl, z, rfl, FM.rf, hI⟩
theorem m_close {k : eg_K} {z : eg_Z} {X : eg_M} {n : Nat} {s : eg_S} (hI : IM z s) (hO : OS s) : eg_P k gX9_close 3 0 0 [vR k 202] n (enc k z X) (eg_p k (some (vI (R_close s).1)) n X (fun z' => FM z z' ∧ IM z' (R_close s).2)) := by
  refine eg_P.of (by decide) (Nat.le_of_ble_eq_true rfl) ?_
  show eg_E k gX9_close 3 0 0 n (enc k z X) [vR k 202, vU, vU, vU, vU] [] 0 _
  have hN := hI.1
  have hv := hO.1.1
  have q := hv.r.2
  have hF : ∀ c, c ≠ 203 → z c = z c := fun _ _ => rfl
  have J : 0 < s.1 0 → sm (ovF s.1) (s.1 2).toNat ≠ 0 → ∀ y1 : eg_Z, (∀ c, c ≠ 202 → c ≠ 206 → y1 c = z c) → (∀ j, j ≠ 6 → y1 202 j = z 202 j) → y1 202 6 = (puD s.2.1 : Int) → (∀ j, j < puD s.2.1 → ∀ i, i < 220 → y1 206 (220 * j + i) = puP s.2.1 s.2.2.1 s.1 j i) → nw y1 s.1 → eg_E k gX9_close 3 0 0 n (enc k y1 X) [vR k 202, vI (sm (ovF s.1) (s.1 2).toNat), vI 0, vU, vU] [] 62 (eg_p k (some (vI (R_close s).1)) n X (fun z' => FM z z' ∧ IM z' (R_close s).2)) := by
    intro ht hn0 y1 m1 m2 m3 m4 hN1
    have L2 : ∀ (mm : Nat) (i : Int) (y : eg_Z) (w : Value), (0 ≤ i) → (i ≤ s.1 2) → (∀ c, c ≠ 203 → y c = y1 c) → (nw y (cashIt s.1 i.toNat)) → s.1 2 - i < (mm : Int) → eg_E k gX9_close 3 0 0 n (enc k y X) [vR k 202, vI (sm (ovF s.1) (s.1 2).toNat), vI i, w, vU] [] 62 (eg_p k (some (vI (R_close s).1)) n X (fun z' => FM z z' ∧ IM z' (R_close s).2)) := by
      intro mm
      induction mm with
      | zero => intro i y w h0 h1 hf hNi hmm; exfalso; omega
      | succ mm ih =>
        intro i y w h0 h1 hf hNi hmm
        have ci := cashIt_p hv i.toNat (by omega)
        have e2 := ci.2 2 (by omega)
        refine eg_iload_n dX9_close_62 rfl ?_
        refine eg_al_n dX9_close_63 rfl rfl ?_
        refine eg_iconst dX9_close_64 ?_
        refine eg_Vf1 cs_X9_179 dX9_close_65 (many_2 hNi) (by first | exact er202 | exact er203 | exact er204 | exact er205 | exact er206 | exact er207 | exact er208 | exact er209 | exact er210 | exact er211 | exact er212 | exact er213 | exact er214 | exact er215) rfl (Nat.le_of_ble_eq_true rfl) (by decide) ?_
        refine eg_eqI e2 ?_
        refine eg_icmp_ge 135 dX9_close_68 ⟨by omega, by omega⟩ ⟨by omega, by omega⟩ rfl (fun h68 => ?_) (fun h68 => ?_)
        · refine eg_iload_n dX9_close_135 rfl ?_
          refine eg_ireturn dX9_close_136 rfl rfl ?_
          have e : i = s.1 2 := by omega
          subst e
          rw [show R_close s = (sm (ovF s.1) (s.1 2).toNat, puS s (cashIt s.1 (s.1 2).toNat)) from by unfold R_close; (repeat (first | rw [if_pos (by first | assumption | omega)] | rw [if_neg (by first | assumption | omega)]))]
          exact ⟨rfl, rfl, y, rfl, hI.push m1 m2 m3 m4 hf hNi⟩
        · have hN := hNi
          have hF : ∀ c, c ≠ 203 → y c = y c := fun _ _ => rfl
          refine eg_al_n dX9_close_71 rfl rfl ?_
          refine eg_iload_n dX9_close_72 rfl ?_
          refine eg_Vf1 cs_X9_329 dX9_close_73 (c_overOf hNi ci.1 (by omega) h0 (by rw [e2]; omega)) (by first | exact er202 | exact er203 | exact er204 | exact er205 | exact er206 | exact er207 | exact er208 | exact er209 | exact er210 | exact er211 | exact er212 | exact er213 | exact er214 | exact er215) rfl (Nat.le_of_ble_eq_true rfl) (by decide) ?_
          refine eg_lstore_n dX9_close_76 rfl rfl rfl ?_
          refine eg_al_n dX9_close_77 rfl rfl ?_
          refine eg_get fl_X9_9 dX9_close_78 (by first | exact er202 | exact er203 | exact er204 | exact er205 | exact er206 | exact er207 | exact er208 | exact er209 | exact er210 | exact er211 | exact er212 | exact er213 | exact er214 | exact er215) rfl ?_
          refine eg_bipush dX9_close_81 (by decide) ?_
          refine eg_bipush dX9_close_83 (by decide) ?_
          refine eg_iload_n dX9_close_85 rfl ?_
          refine eg_imul dX9_close_86 ?_
          refine eg_iadd dX9_close_87 ?_
          refine eg_bipush dX9_close_88 (by decide) ?_
          refine eg_iadd dX9_close_90 ?_
          refine eg_dup2 dX9_close_91 rfl rfl ?_
          refine eg_nowL dX9_close_92 hN (by omega) (by omega) ?_
          refine eg_eqL (y := gH (cashIt s.1 i.toNat) i 6) rfl ?_
          refine eg_al_n dX9_close_93 rfl rfl ?_
          refine eg_iload_n dX9_close_94 rfl ?_
          refine eg_Vf1 cs_X9_333 dX9_close_95 (c_owedBy hNi ci.1 (by omega) h0 (by rw [e2]; omega)) (by first | exact er202 | exact er203 | exact er204 | exact er205 | exact er206 | exact er207 | exact er208 | exact er209 | exact er210 | exact er211 | exact er212 | exact er213 | exact er214 | exact er215) rfl (Nat.le_of_ble_eq_true rfl) (by decide) ?_
          refine eg_ladd dX9_close_98 ?_
          refine eg_nowS dX9_close_99 hN (by omega) (by omega) (fun y f1 hN => ?_)
          have hF := fun c hc => (f1 c hc).trans (hF c hc)
          refine eg_al_n dX9_close_100 rfl rfl ?_
          refine eg_get fl_X9_9 dX9_close_101 (by first | exact er202 | exact er203 | exact er204 | exact er205 | exact er206 | exact er207 | exact er208 | exact er209 | exact er210 | exact er211 | exact er212 | exact er213 | exact er214 | exact er215) rfl ?_
          refine eg_bipush dX9_close_104 (by decide) ?_
          refine eg_bipush dX9_close_106 (by decide) ?_
          refine eg_iload_n dX9_close_108 rfl ?_
          refine eg_imul dX9_close_109 ?_
          refine eg_iadd dX9_close_110 ?_
          refine eg_iconst dX9_close_111 ?_
          refine eg_iadd dX9_close_112 ?_
          refine eg_dup2 dX9_close_113 rfl rfl ?_
          refine eg_nowL dX9_close_114 hN (by omega) (by omega) ?_
          refine eg_eqL (y := gH (cashIt s.1 i.toNat) i 4) (va_up_n _ _ (by omega)) ?_
          refine eg_lload_n dX9_close_115 rfl ?_
          refine eg_lsub dX9_close_116 ?_
          refine eg_nowS dX9_close_117 hN (by omega) (by omega) (fun y f1 hN => ?_)
          have hF := fun c hc => (f1 c hc).trans (hF c hc)
          refine eg_al_n dX9_close_118 rfl rfl ?_
          refine eg_get fl_X9_9 dX9_close_119 (by first | exact er202 | exact er203 | exact er204 | exact er205 | exact er206 | exact er207 | exact er208 | exact er209 | exact er210 | exact er211 | exact er212 | exact er213 | exact er214 | exact er215) rfl ?_
          refine eg_bipush dX9_close_122 (by decide) ?_
          refine eg_dup2 dX9_close_124 rfl rfl ?_
          refine eg_nowL dX9_close_125 hN (by omega) (by omega) ?_
          refine eg_eqL (y := cashIt s.1 i.toNat 10) (by rw [va_up_n _ _ (by omega), va_up_n _ _ (by omega)]; rfl) ?_
          refine eg_lload_n dX9_close_126 rfl ?_
          refine eg_ladd dX9_close_127 ?_
          refine eg_nowS dX9_close_128 hN (by omega) (by omega) (fun y f1 hN => ?_)
          have hF := fun c hc => (f1 c hc).trans (hF c hc)
          refine eg_iinc dX9_close_129 rfl rfl rfl ?_
          refine eg_goto 62 dX9_close_132 rfl ?_
          exact ih (i + 1) _ _ (by omega) (by omega) (fun c hc => (hF c hc).trans (hf c hc)) (by rw [cashIt_s h0]; exact hN) (by omega)
    exact L2 7 0 y1 vU (by omega) (by omega) (fun _ _ => rfl) hN1 (by omega)
  have L1 : 0 < s.1 0 → ∀ (mm : Nat) (i : Int), (0 ≤ i) → (i ≤ s.1 2) → s.1 2 - i < (mm : Int) → eg_E k gX9_close 3 0 0 n (enc k z X) [vR k 202, vI (sm (ovF s.1) i.toNat), vI i, vU, vU] [] 13 (eg_p k (some (vI (R_close s).1)) n X (fun z' => FM z z' ∧ IM z' (R_close s).2)) := by
    intro ht mm
    induction mm with
    | zero => intro i h0 h1 hmm; exfalso; omega
    | succ mm ih =>
      intro i h0 h1 hmm
      refine eg_iload_n dX9_close_13 rfl ?_
      refine eg_al_n dX9_close_14 rfl rfl ?_
      refine eg_iconst dX9_close_15 ?_
      refine eg_Vf1 cs_X9_179 dX9_close_16 (many_2 hN) (by first | exact er202 | exact er203 | exact er204 | exact er205 | exact er206 | exact er207 | exact er208 | exact er209 | exact er210 | exact er211 | exact er212 | exact er213 | exact er214 | exact er215) rfl (Nat.le_of_ble_eq_true rfl) (by decide) ?_
      refine eg_icmp_ge 49 dX9_close_19 ⟨by omega, by omega⟩ ⟨by omega, by omega⟩ rfl (fun h19 => ?_) (fun h19 => ?_)
      · have e : i = s.1 2 := by omega
        subst e
        have ob := sm_b (f := ovF s.1) (K := 1) (n := (s.1 2).toNat) (fun i _ _ => by unfold ovF; split <;> omega)
        refine eg_iload_n dX9_close_49 rfl ?_
        refine eg_if_ne 56 dX9_close_50 ⟨by omega, by omega⟩ rfl (fun h50 => ?_) (fun h50 => ?_)
        · refine eg_al_n dX9_close_56 rfl rfl ?_
          refine eg_Vpv0 cs_X9_206 dX9_close_57 (c_keepsPast hN hI.2.1.1 hI.2.1.2.1 hI.2.1.2.2) (by first | exact er202 | exact er203 | exact er204 | exact er205 | exact er206 | exact er207 | exact er208 | exact er209 | exact er210 | exact er211 | exact er212 | exact er213 | exact er214 | exact er215) rfl (Nat.le_of_ble_eq_true rfl) (by decide) ?_
          rintro y1 ⟨m1, m2, m3, m4⟩
          have hN : nw y1 s.1 := nw_c (m1 203 (by decide) (by decide)) hN
          refine eg_iconst dX9_close_60 ?_
          refine eg_istore_n dX9_close_61 rfl rfl rfl ?_
          exact J ht (by omega) y1 m1 m2 m3 m4 hN
        · refine eg_bipush dX9_close_53 (by decide) ?_
          refine eg_ireturn dX9_close_55 rfl rfl ?_
          rw [show R_close s = (-2, s) from by unfold R_close; (repeat (first | rw [if_pos (by first | assumption | omega)] | rw [if_neg (by first | assumption | omega)]))]
          exact ⟨rfl, rfl, z, rfl, FM.rf, hI⟩
      · have ob := sOver_b hv h0 (show i < s.1 2 by omega)
        refine eg_iload_n dX9_close_22 rfl ?_
        refine eg_al_n dX9_close_23 rfl rfl ?_
        refine eg_iload_n dX9_close_24 rfl ?_
        refine eg_Vf1 cs_X9_329 dX9_close_25 (c_overOf hN hv (by omega) h0 (by omega)) (by first | exact er202 | exact er203 | exact er204 | exact er205 | exact er206 | exact er207 | exact er208 | exact er209 | exact er210 | exact er211 | exact er212 | exact er213 | exact er214 | exact er215) rfl (Nat.le_of_ble_eq_true rfl) (by decide) ?_
        refine eg_lk0 dX9_close_28 ?_
        refine eg_lc_eq 37 dX9_close_29 dX9_close_30 ⟨by omega, by omega⟩ ⟨by omega, by omega⟩ rfl (fun h29 => ?_) (fun h29 => ?_)
        · refine eg_iconst dX9_close_37 ?_
          refine eg_Sf1 cs_X9_118 dX9_close_38 (c_truth (by omega)) (Nat.le_of_ble_eq_true rfl) (by decide) ?_
          refine eg_iadd dX9_close_41 ?_
          refine eg_eqI (y := sm (ovF s.1) (i + 1).toNat) (by rw [sm_s _ h0]; unfold ovF; first | rw [if_pos (by omega)] | rw [if_neg (by omega)]) ?_
          refine eg_istore_n dX9_close_42 rfl rfl rfl ?_
          refine eg_iinc dX9_close_43 rfl rfl rfl ?_
          refine eg_goto 13 dX9_close_46 rfl ?_
          exact ih (i + 1) (by omega) (by omega) (by omega)
        · refine eg_iconst dX9_close_33 ?_
          refine eg_goto 38 dX9_close_34 rfl ?_
          refine eg_Sf1 cs_X9_118 dX9_close_38 (c_truth (by omega)) (Nat.le_of_ble_eq_true rfl) (by decide) ?_
          refine eg_iadd dX9_close_41 ?_
          refine eg_eqI (y := sm (ovF s.1) (i + 1).toNat) (by rw [sm_s _ h0]; unfold ovF; first | rw [if_pos (by omega)] | rw [if_neg (by omega)]) ?_
          refine eg_istore_n dX9_close_42 rfl rfl rfl ?_
          refine eg_iinc dX9_close_43 rfl rfl rfl ?_
          refine eg_goto 13 dX9_close_46 rfl ?_
          exact ih (i + 1) (by omega) (by omega) (by omega)
  refine eg_al_n dX9_close_0 rfl rfl ?_
  refine eg_Vf0 cs_X9_315 dX9_close_1 (c_hasPipe hN hv) (by first | exact er202 | exact er203 | exact er204 | exact er205 | exact er206 | exact er207 | exact er208 | exact er209 | exact er210 | exact er211 | exact er212 | exact er213 | exact er214 | exact er215) rfl (Nat.le_of_ble_eq_true rfl) (by decide) ?_
  refine eg_bi_ne 9 dX9_close_4 rfl (fun h4 => ?_) (fun h4 => ?_)
  · refine eg_iconst dX9_close_9 ?_
    refine eg_istore_n dX9_close_10 rfl rfl rfl ?_
    refine eg_iconst dX9_close_11 ?_
    refine eg_istore_n dX9_close_12 rfl rfl rfl ?_
    exact L1 (by omega) 7 0 (by omega) (by omega) (by omega)
  · refine eg_iconst dX9_close_7 ?_
    refine eg_ireturn dX9_close_8 rfl rfl ?_
    rw [show R_close s = (-1, s) from by unfold R_close; (repeat (first | rw [if_pos (by first | assumption | omega)] | rw [if_neg (by first | assumption | omega)]))]
    exact ⟨rfl, rfl, z, rfl, FM.rf, hI⟩
theorem IM.push2 {z y w : eg_Z} {s : eg_S} {v : eg_v} (hI : IM z s) (h1 : ∀ c, c ≠ 202 → c ≠ 206 → y c = z c) (h2 : ∀ j, j ≠ 6 → y 202 j = z 202 j) (h3 : y 202 6 = (puD s.2.1 : Int)) (h4 : ∀ j, j < puD s.2.1 → ∀ i, i < 220 → y 206 (220 * j + i) = puP s.2.1 s.2.2.1 s.1 j i) (hw : ∀ c, c ≠ 203 → (c < 210 ∨ 216 ≤ c) → w c = y c) (hn : nw w v) : FM z w ∧ IM w (puS s v) := by
  have nn : nw (va_up y 203 v) v := fun i _ => by rw [va_up_s]
  have a := hI.push h1 h2 h3 h4 (w := va_up y 203 v) (v := v) (fun c hc => va_up_n _ _ hc) nn
  have fm : Fm (va_up y 203 v) w := Fm.of (fun c hc => by rw [va_up_n _ _ (by omega)]; exact hw c (by omega) (by omega))
  exact ⟨fun c hc => (fm.1 c hc).trans (a.1 c hc), a.2.fm fm hn⟩
theorem m_day {k : eg_K} {z : eg_Z} {X : eg_M} {n : Nat} {s : eg_S} (hI : IM z s) (hO : OS s) (h11 : s.1 11 = if s.1 4 < 8 then s.1 4 else 8) : eg_P k gX9_day 7 0 0 [vR k 202] n (enc k z X) (eg_p k (some (vI (R_day s).1)) n X (fun z' => FM z z' ∧ IM z' (R_day s).2)) := by
  refine eg_P.of (by decide) (Nat.le_of_ble_eq_true rfl) ?_
  show eg_E k gX9_day 7 0 0 n (enc k z X) [vR k 202, vU, vU] [] 0 _
  have hN := hI.1
  have hv := hO.1.1
  have q := hv.r.2
  have hF : ∀ c, c ≠ 203 → z c = z c := fun _ _ => rfl
  have h999 := hO.1.2.2
  have h11b : 0 ≤ s.1 11 ∧ s.1 11 ≤ 8 := by rw [h11]; split <;> omega
  refine eg_al_n dX9_day_0 rfl rfl ?_
  refine eg_Vf0 cs_X9_315 dX9_day_1 (c_hasPipe hN hv) (by first | exact er202 | exact er203 | exact er204 | exact er205 | exact er206 | exact er207 | exact er208 | exact er209 | exact er210 | exact er211 | exact er212 | exact er213 | exact er214 | exact er215) rfl (Nat.le_of_ble_eq_true rfl) (by decide) ?_
  refine eg_bi_ne 9 dX9_day_4 rfl (fun h4 => ?_) (fun h4 => ?_)
  · refine eg_al_n dX9_day_9 rfl rfl ?_
    refine eg_get fl_X9_9 dX9_day_10 (by first | exact er202 | exact er203 | exact er204 | exact er205 | exact er206 | exact er207 | exact er208 | exact er209 | exact er210 | exact er211 | exact er212 | exact er213 | exact er214 | exact er215) rfl ?_
    refine eg_iconst dX9_day_13 ?_
    refine eg_nowL dX9_day_14 hN (by omega) (by omega) ?_
    refine eg_eqL (y := s.1 4) rfl ?_
    refine eg_ldc2 kw_X9_318 dX9_day_15 ?_
    refine eg_lc_ne 25 dX9_day_18 dX9_day_19 ⟨by omega, by omega⟩ ⟨by omega, by omega⟩ rfl (fun h18 => ?_) (fun h18 => ?_)
    · refine eg_al_n dX9_day_25 rfl rfl ?_
      refine eg_get fl_X9_9 dX9_day_26 (by first | exact er202 | exact er203 | exact er204 | exact er205 | exact er206 | exact er207 | exact er208 | exact er209 | exact er210 | exact er211 | exact er212 | exact er213 | exact er214 | exact er215) rfl ?_
      refine eg_iconst dX9_day_29 ?_
      refine eg_al_n dX9_day_30 rfl rfl ?_
      refine eg_get fl_X9_16 dX9_day_31 (by first | exact er202 | exact er203 | exact er204 | exact er205 | exact er206 | exact er207 | exact er208 | exact er209 | exact er210 | exact er211 | exact er212 | exact er213 | exact er214 | exact er215) rfl ?_
      refine eg_iconst dX9_day_34 ?_
      refine eg_Spv4 cs_X9_172 dX9_day_35 (mvA hN) (Nat.le_of_ble_eq_true rfl) (by decide) ?_
      rintro y1 ⟨f1, g1⟩
      have hN1 : nw y1 s.1 := nw_c (f1 203 (by decide)) hN
      refine eg_al_n dX9_day_38 rfl rfl ?_
      refine eg_Vpf0 cs_X9_320 dX9_day_39 (c_dayGoes hN1 hv hO.1.2.1) (by first | exact er202 | exact er203 | exact er204 | exact er205 | exact er206 | exact er207 | exact er208 | exact er209 | exact er210 | exact er211 | exact er212 | exact er213 | exact er214 | exact er215) rfl (Nat.le_of_ble_eq_true rfl) (by decide) ?_
      rintro y2 ⟨f2, n2⟩
      have hvd := VV_dayA hv (okpS hv hO.1.2.1) (by omega)
      have d2 := dayA_i hv (okpS hv hO.1.2.1) (i := 2) (by omega)
      have d11 := dayA_i hv (okpS hv hO.1.2.1) (i := 11) (by omega)
      refine eg_istore_n dX9_day_42 rfl rfl rfl ?_
      refine eg_al_n dX9_day_43 rfl rfl ?_
      refine eg_Vf0 cs_X9_323 dX9_day_44 (c_areBalances n2 hvd (by omega)) (by first | exact er202 | exact er203 | exact er204 | exact er205 | exact er206 | exact er207 | exact er208 | exact er209 | exact er210 | exact er211 | exact er212 | exact er213 | exact er214 | exact er215) rfl (Nat.le_of_ble_eq_true rfl) (by decide) ?_
      rw [show (dayA s.1 (SS s.1 10)) 2 = s.1 2 from d2]
      refine eg_istore_n dX9_day_47 rfl rfl rfl ?_
      refine eg_al_n dX9_day_48 rfl rfl ?_
      refine eg_get fl_X9_16 dX9_day_49 (by first | exact er202 | exact er203 | exact er204 | exact er205 | exact er206 | exact er207 | exact er208 | exact er209 | exact er210 | exact er211 | exact er212 | exact er213 | exact er214 | exact er215) rfl ?_
      refine eg_iconst dX9_day_52 ?_
      refine eg_al_n dX9_day_53 rfl rfl ?_
      refine eg_get fl_X9_9 dX9_day_54 (by first | exact er202 | exact er203 | exact er204 | exact er205 | exact er206 | exact er207 | exact er208 | exact er209 | exact er210 | exact er211 | exact er212 | exact er213 | exact er214 | exact er215) rfl ?_
      refine eg_iconst dX9_day_57 ?_
      refine eg_Spv4 cs_X9_172 dX9_day_58 (mvB (v := s.1) (fun i hi => by rw [f2 205 (by decide) (by omega)]; exact g1 i hi)) (Nat.le_of_ble_eq_true rfl) (by decide) ?_
      rintro y3 ⟨f3, hN3⟩
      have fm3 : Fm z y3 := Fm.of (fun c hc => by rw [f3 c (by omega), f2 c (by omega) (by omega), f1 c (by omega)])
      have hI3 : IM y3 s := hI.fm fm3 hN3
      refine eg_iload_n dX9_day_61 rfl ?_
      refine eg_bi_ne 68 dX9_day_62 rfl (fun h62 => ?_) (fun h62 => ?_)
      · refine eg_al_n dX9_day_68 rfl rfl ?_
        refine eg_Vpv0 cs_X9_206 dX9_day_69 (c_keepsPast hN3 hI3.2.1.1 hI3.2.1.2.1 hI3.2.1.2.2) (by first | exact er202 | exact er203 | exact er204 | exact er205 | exact er206 | exact er207 | exact er208 | exact er209 | exact er210 | exact er211 | exact er212 | exact er213 | exact er214 | exact er215) rfl (Nat.le_of_ble_eq_true rfl) (by decide) ?_
        rintro y4 ⟨m1, m2, m3, m4⟩
        have hN4 : nw y4 s.1 := nw_c (m1 203 (by decide) (by decide)) hN3
        refine eg_al_n dX9_day_72 rfl rfl ?_
        refine eg_Vpf0 cs_X9_320 dX9_day_73 (c_dayGoes hN4 hv hO.1.2.1) (by first | exact er202 | exact er203 | exact er204 | exact er205 | exact er206 | exact er207 | exact er208 | exact er209 | exact er210 | exact er211 | exact er212 | exact er213 | exact er214 | exact er215) rfl (Nat.le_of_ble_eq_true rfl) (by decide) ?_
        rintro y5 ⟨f5, n5⟩
        refine eg_istore_n dX9_day_76 rfl rfl rfl ?_
        refine eg_al_n dX9_day_77 rfl rfl ?_
        refine eg_Vpv0 cs_X9_326 dX9_day_78 (c_logs n5 (by rw [d11]; omega)) (by first | exact er202 | exact er203 | exact er204 | exact er205 | exact er206 | exact er207 | exact er208 | exact er209 | exact er210 | exact er211 | exact er212 | exact er213 | exact er214 | exact er215) rfl (Nat.le_of_ble_eq_true rfl) (by decide) ?_
        rintro y6 ⟨f6, n6⟩
        refine eg_iload_n dX9_day_81 rfl ?_
        refine eg_ireturn dX9_day_82 rfl rfl ?_
        rw [show R_day s = (sm (SS s.1 10) (s.1 3).toNat, puS s (logV (dayA s.1 (SS s.1 10)))) from by unfold R_day; rw [if_pos (by omega), if_neg (by omega), if_pos h62]]
        have pp := IM.push2 hI3 m1 m2 m3 m4 (w := y6) (fun c h1 h2 => by rw [f6 c h1]; exact f5 c h1 h2) n6
        exact ⟨rfl, rfl, y6, rfl, fun c hc => (pp.1 c hc).trans (fm3.1 c hc), pp.2⟩
      · refine eg_bipush dX9_day_65 (by decide) ?_
        refine eg_ireturn dX9_day_67 rfl rfl ?_
        rw [show R_day s = (-3, s) from by unfold R_day; rw [if_pos (by omega), if_neg (by omega), if_neg h62]]
        exact ⟨rfl, rfl, y3, rfl, fm3.1, hI3⟩
    · refine eg_bipush dX9_day_22 (by decide) ?_
      refine eg_ireturn dX9_day_24 rfl rfl ?_
      rw [show R_day s = (-2, s) from by unfold R_day; (repeat (first | rw [if_pos (by first | assumption | omega)] | rw [if_neg (by first | assumption | omega)]))]
      exact ⟨rfl, rfl, z, rfl, FM.rf, hI⟩
  · refine eg_iconst dX9_day_7 ?_
    refine eg_ireturn dX9_day_8 rfl rfl ?_
    rw [show R_day s = (-1, s) from by unfold R_day; (repeat (first | rw [if_pos (by first | assumption | omega)] | rw [if_neg (by first | assumption | omega)]))]
    exact ⟨rfl, rfl, z, rfl, FM.rf, hI⟩
