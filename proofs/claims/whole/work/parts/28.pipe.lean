/-- no pipe -/
def zV : eg_v := fun _ => 0
theorem VV_0 : VV 0 zV := by
  refine ⟨Or.inl ⟨rfl, rfl, rfl, rfl⟩, ⟨by decide, by decide⟩, ⟨by decide, by decide⟩, ⟨by decide, by decide⟩, ⟨by decide, by decide⟩, ⟨by decide, by decide⟩, ⟨by decide, by decide⟩, ?_, ?_, ?_, ?_⟩
  · intro i _ _; exact ⟨⟨Int.le_refl 0, by show (0 : Int) ≤ 9999; decide⟩, Int.le_refl 0, by show (0 : Int) ≤ 50; decide⟩
  · intro i h0 h1; exact absurd (show i < 0 from h1) (by omega)
  · intro i h0 h1; exact absurd (show i < 0 from h1) (by omega)
  · intro i h0 h1; exact absurd (show i < 0 from h1) (by omega)
theorem hP_0 {z : eg_Z} {b : Nat} (h : (∀ q, q ≤ 3 → z b q = 0) ∧ z (b + 1) 3 = 0 ∧ z (b + 3) 3 = 0 ∧ z (b + 5) 3 = 0 ∧ z (b + 7) 3 = 0 ∧ ∀ q, q < 4 → z (b + 10) q = 0) : hP z b zV ∧ hL z b zV := by
  obtain ⟨h0, h1, h3, h5, h7, ht⟩ := h
  refine ⟨⟨⟨h0 0 (by decide), h0 1 (by decide), h0 2 (by decide), h0 3 (by decide)⟩, ⟨h1, h3, h5, h7⟩, ?_, ?_, ?_, ?_, ?_, ht 0 (by decide), ht 1 (by decide), ht 2 (by decide), ht 3 (by decide)⟩, ?_, rfl⟩
  · intro r c g0 g1; exact absurd (show r < 0 from g1) (by omega)
  · intro r c g0 g1; exact absurd (show r < 0 from g1) (by omega)
  · intro r c g0 g1; exact absurd (show r < 0 from g1) (by omega)
  · intro r g0 g1; exact absurd (show r < 0 from g1) (by omega)
  · intro r c g0 g1; exact absurd (show r < 0 from g1) (by omega)
  · intro i s g0 g1 g2; exact absurd (show i < 0 from g2) (by omega)
theorem c_X2_clear {k : eg_K} {z : eg_Z} {X : eg_M} {n b : Nat} (hb : isB b = true) : eg_P k gX2_clear 1 0 0 [vR k b] n (enc k z X) (eg_p k none n X (fun z' => Md z z' b ∧ (∀ q, q ≤ 3 → z' b q = 0) ∧ z' (b + 1) 3 = 0 ∧ z' (b + 3) 3 = 0 ∧ z' (b + 5) 3 = 0 ∧ z' (b + 7) 3 = 0 ∧ (∀ q, q < 4 → z' (b + 10) q = 0) ∧ ∀ q, q < 6 → z' (b + 9) q = 0)) := by
  refine eg_P.of (by decide) (Nat.le_of_ble_eq_true rfl) ?_
  show eg_E k gX2_clear 1 0 0 n (enc k z X) [vR k b] [] 0 _
  refine eg_al_n dX2_clear_0 rfl rfl ?_
  refine eg_iconst dX2_clear_1 ?_
  refine eg_put fl_X2_9 dX2_clear_2 (by first | exact ep0 hb | exact ep1 hb | exact ep3 hb | exact ep5 hb | exact ep7 hb | exact ep9 hb | exact ep10 hb | exact ep11 hb | exact ep2 hb | exact ep4 hb | exact ep6 hb | exact ep8 hb) rfl rfl rfl rfl ?_
  refine eg_eqM (es0_0 hb) ?_
  generalize w0 : va_up z b _ = y0
  have n0 : ∀ c, c ≠ b → y0 c = z c := fun c hc9 => by rw [← w0, va_up_n _ _ hc9]
  have s0 : y0 b = va_up (z b) 0 0 := by rw [← w0, va_up_s]
  clear w0
  refine eg_al_n dX2_clear_5 rfl rfl ?_
  refine eg_iconst dX2_clear_6 ?_
  refine eg_put fl_X2_15 dX2_clear_7 (by first | exact ep0 hb | exact ep1 hb | exact ep3 hb | exact ep5 hb | exact ep7 hb | exact ep9 hb | exact ep10 hb | exact ep11 hb | exact ep2 hb | exact ep4 hb | exact ep6 hb | exact ep8 hb) rfl rfl rfl rfl ?_
  refine eg_eqM (es0_1 hb) ?_
  generalize w1 : va_up y0 b _ = y1
  have n1 : ∀ c, c ≠ b → y1 c = y0 c := fun c hc9 => by rw [← w1, va_up_n _ _ hc9]
  have s1 : y1 b = va_up (y0 b) 1 0 := by rw [← w1, va_up_s]
  clear w1
  refine eg_al_n dX2_clear_10 rfl rfl ?_
  refine eg_iconst dX2_clear_11 ?_
  refine eg_put fl_X2_18 dX2_clear_12 (by first | exact ep0 hb | exact ep1 hb | exact ep3 hb | exact ep5 hb | exact ep7 hb | exact ep9 hb | exact ep10 hb | exact ep11 hb | exact ep2 hb | exact ep4 hb | exact ep6 hb | exact ep8 hb) rfl rfl rfl rfl ?_
  refine eg_eqM (es0_2 hb) ?_
  generalize w2 : va_up y1 b _ = y2
  have n2 : ∀ c, c ≠ b → y2 c = y1 c := fun c hc9 => by rw [← w2, va_up_n _ _ hc9]
  have s2 : y2 b = va_up (y1 b) 2 0 := by rw [← w2, va_up_s]
  clear w2
  refine eg_al_n dX2_clear_15 rfl rfl ?_
  refine eg_iconst dX2_clear_16 ?_
  refine eg_put fl_X2_21 dX2_clear_17 (by first | exact ep0 hb | exact ep1 hb | exact ep3 hb | exact ep5 hb | exact ep7 hb | exact ep9 hb | exact ep10 hb | exact ep11 hb | exact ep2 hb | exact ep4 hb | exact ep6 hb | exact ep8 hb) rfl rfl rfl rfl ?_
  refine eg_eqM (es0_3 hb) ?_
  generalize w3 : va_up y2 b _ = y3
  have n3 : ∀ c, c ≠ b → y3 c = y2 c := fun c hc9 => by rw [← w3, va_up_n _ _ hc9]
  have s3 : y3 b = va_up (y2 b) 3 0 := by rw [← w3, va_up_s]
  clear w3
  refine eg_al_n dX2_clear_20 rfl rfl ?_
  refine eg_get fl_X2_29 dX2_clear_21 (by first | exact ep0 hb | exact ep1 hb | exact ep3 hb | exact ep5 hb | exact ep7 hb | exact ep9 hb | exact ep10 hb | exact ep11 hb | exact ep2 hb | exact ep4 hb | exact ep6 hb | exact ep8 hb) rfl ?_
  refine eg_iconst dX2_clear_24 ?_
  refine eg_put fl_X2_53 dX2_clear_25 (by first | exact ep0 hb | exact ep1 hb | exact ep3 hb | exact ep5 hb | exact ep7 hb | exact ep9 hb | exact ep10 hb | exact ep11 hb | exact ep2 hb | exact ep4 hb | exact ep6 hb | exact ep8 hb) rfl rfl rfl rfl ?_
  refine eg_eqM (es1 hb) ?_
  generalize w4 : va_up y3 (b + 1) _ = y4
  have n4 : ∀ c, c ≠ (b + 1) → y4 c = y3 c := fun c hc9 => by rw [← w4, va_up_n _ _ hc9]
  have s4 : y4 (b + 1) 3 = 0 := by rw [← w4, va_up_s, va_up_s]
  clear w4
  refine eg_al_n dX2_clear_28 rfl rfl ?_
  refine eg_get fl_X2_33 dX2_clear_29 (by first | exact ep0 hb | exact ep1 hb | exact ep3 hb | exact ep5 hb | exact ep7 hb | exact ep9 hb | exact ep10 hb | exact ep11 hb | exact ep2 hb | exact ep4 hb | exact ep6 hb | exact ep8 hb) rfl ?_
  refine eg_iconst dX2_clear_32 ?_
  refine eg_put fl_X2_53 dX2_clear_33 (by first | exact ep0 hb | exact ep1 hb | exact ep3 hb | exact ep5 hb | exact ep7 hb | exact ep9 hb | exact ep10 hb | exact ep11 hb | exact ep2 hb | exact ep4 hb | exact ep6 hb | exact ep8 hb) rfl rfl rfl rfl ?_
  refine eg_eqM (es3 hb) ?_
  generalize w5 : va_up y4 (b + 3) _ = y5
  have n5 : ∀ c, c ≠ (b + 3) → y5 c = y4 c := fun c hc9 => by rw [← w5, va_up_n _ _ hc9]
  have s5 : y5 (b + 3) 3 = 0 := by rw [← w5, va_up_s, va_up_s]
  clear w5
  refine eg_al_n dX2_clear_36 rfl rfl ?_
  refine eg_get fl_X2_36 dX2_clear_37 (by first | exact ep0 hb | exact ep1 hb | exact ep3 hb | exact ep5 hb | exact ep7 hb | exact ep9 hb | exact ep10 hb | exact ep11 hb | exact ep2 hb | exact ep4 hb | exact ep6 hb | exact ep8 hb) rfl ?_
  refine eg_iconst dX2_clear_40 ?_
  refine eg_put fl_X2_53 dX2_clear_41 (by first | exact ep0 hb | exact ep1 hb | exact ep3 hb | exact ep5 hb | exact ep7 hb | exact ep9 hb | exact ep10 hb | exact ep11 hb | exact ep2 hb | exact ep4 hb | exact ep6 hb | exact ep8 hb) rfl rfl rfl rfl ?_
  refine eg_eqM (es5 hb) ?_
  generalize w6 : va_up y5 (b + 5) _ = y6
  have n6 : ∀ c, c ≠ (b + 5) → y6 c = y5 c := fun c hc9 => by rw [← w6, va_up_n _ _ hc9]
  have s6 : y6 (b + 5) 3 = 0 := by rw [← w6, va_up_s, va_up_s]
  clear w6
  refine eg_al_n dX2_clear_44 rfl rfl ?_
  refine eg_get fl_X2_39 dX2_clear_45 (by first | exact ep0 hb | exact ep1 hb | exact ep3 hb | exact ep5 hb | exact ep7 hb | exact ep9 hb | exact ep10 hb | exact ep11 hb | exact ep2 hb | exact ep4 hb | exact ep6 hb | exact ep8 hb) rfl ?_
  refine eg_iconst dX2_clear_48 ?_
  refine eg_put fl_X2_53 dX2_clear_49 (by first | exact ep0 hb | exact ep1 hb | exact ep3 hb | exact ep5 hb | exact ep7 hb | exact ep9 hb | exact ep10 hb | exact ep11 hb | exact ep2 hb | exact ep4 hb | exact ep6 hb | exact ep8 hb) rfl rfl rfl rfl ?_
  refine eg_eqM (es7 hb) ?_
  generalize w7 : va_up y6 (b + 7) _ = y7
  have n7 : ∀ c, c ≠ (b + 7) → y7 c = y6 c := fun c hc9 => by rw [← w7, va_up_n _ _ hc9]
  have s7 : y7 (b + 7) 3 = 0 := by rw [← w7, va_up_s, va_up_s]
  clear w7
  refine eg_al_n dX2_clear_52 rfl rfl ?_
  refine eg_get fl_X2_42 dX2_clear_53 (by first | exact ep0 hb | exact ep1 hb | exact ep3 hb | exact ep5 hb | exact ep7 hb | exact ep9 hb | exact ep10 hb | exact ep11 hb | exact ep2 hb | exact ep4 hb | exact ep6 hb | exact ep8 hb) rfl ?_
  refine eg_lconst dX2_clear_56 ?_
  refine eg_Sv2 cs_X2_56 dX2_clear_57 (c_J7_fill_d0a16 (ep9 hb) (by decide)) (Nat.le_of_ble_eq_true rfl) (by decide) ?_
  refine eg_eqM (es9 hb) ?_
  generalize w8 : va_up y7 (b + 9) _ = y8
  have n8 : ∀ c, c ≠ (b + 9) → y8 c = y7 c := fun c hc9 => by rw [← w8, va_up_n _ _ hc9]
  have s8 : ∀ q, q < 6 → y8 (b + 9) q = 0 := fun q9 hq9 => by rw [← w8, va_up_s]; unfold fl_; rw [if_pos hq9]; rfl
  clear w8
  refine eg_al_n dX2_clear_60 rfl rfl ?_
  refine eg_get fl_X2_46 dX2_clear_61 (by first | exact ep0 hb | exact ep1 hb | exact ep3 hb | exact ep5 hb | exact ep7 hb | exact ep9 hb | exact ep10 hb | exact ep11 hb | exact ep2 hb | exact ep4 hb | exact ep6 hb | exact ep8 hb) rfl ?_
  refine eg_lconst dX2_clear_64 ?_
  refine eg_Sv2 cs_X2_56 dX2_clear_65 (c_J7_fill_d0a16 (ep10 hb) (by decide)) (Nat.le_of_ble_eq_true rfl) (by decide) ?_
  refine eg_eqM (es10 hb) ?_
  generalize w9 : va_up y8 (b + 10) _ = y9
  have n9 : ∀ c, c ≠ (b + 10) → y9 c = y8 c := fun c hc9 => by rw [← w9, va_up_n _ _ hc9]
  have s9 : ∀ q, q < 4 → y9 (b + 10) q = 0 := fun q9 hq9 => by rw [← w9, va_up_s]; unfold fl_; rw [if_pos hq9]; rfl
  clear w9
  refine eg_al_n dX2_clear_68 rfl rfl ?_
  refine eg_get fl_X2_49 dX2_clear_69 (by first | exact ep0 hb | exact ep1 hb | exact ep3 hb | exact ep5 hb | exact ep7 hb | exact ep9 hb | exact ep10 hb | exact ep11 hb | exact ep2 hb | exact ep4 hb | exact ep6 hb | exact ep8 hb) rfl ?_
  refine eg_iconst dX2_clear_72 ?_
  refine eg_Sv2 cs_X2_62 dX2_clear_73 (c_J7_fill_53178 (ep11 hb) (by decide)) (Nat.le_of_ble_eq_true rfl) (by decide) ?_
  refine eg_eqM (es11 hb) ?_
  generalize w10 : va_up y9 (b + 11) _ = y10
  have n10 : ∀ c, c ≠ (b + 11) → y10 c = y9 c := fun c hc9 => by rw [← w10, va_up_n _ _ hc9]
  have s10 : ∀ q, q < 48 → y10 (b + 11) q = 0 := fun q9 hq9 => by rw [← w10, va_up_s]; unfold fl_; rw [if_pos hq9]
  clear w10
  refine eg_return dX2_clear_76 rfl ?_
  refine ⟨rfl, rfl, y10, rfl, ?_, ?_, ?_, ?_, ?_, ?_, ?_, ?_⟩
  · intro c hc
    rw [n10 _ (by omega), n9 _ (by omega), n8 _ (by omega), n7 _ (by omega), n6 _ (by omega), n5 _ (by omega), n4 _ (by omega), n3 _ (by omega), n2 _ (by omega), n1 _ (by omega), n0 _ (by omega)]
  · intro q9 hq9
    rw [n10 _ (by omega), n9 _ (by omega), n8 _ (by omega), n7 _ (by omega), n6 _ (by omega), n5 _ (by omega), n4 _ (by omega), s3, s2, s1, s0]
    simp only [va_up]
    split
    · rfl
    split
    · rfl
    split
    · rfl
    split
    · rfl
    omega
  · rw [n10 _ (by omega), n9 _ (by omega), n8 _ (by omega), n7 _ (by omega), n6 _ (by omega), n5 _ (by omega), s4]
  · rw [n10 _ (by omega), n9 _ (by omega), n8 _ (by omega), n7 _ (by omega), n6 _ (by omega), s5]
  · rw [n10 _ (by omega), n9 _ (by omega), n8 _ (by omega), n7 _ (by omega), s6]
  · rw [n10 _ (by omega), n9 _ (by omega), n8 _ (by omega), s7]
  · intro q9 hq9
    rw [n10 _ (by omega), s9 q9 hq9]
  · intro q9 hq9
    rw [n10 _ (by omega), n9 _ (by omega), s8 q9 hq9]
/-- a shipper is cashed -/
def cashV (v : eg_v) (s : Int) : eg_v := va_up (va_up (va_up v (66 + 7 * s + 6).toNat (gH v s 6 + sDue v s)) (66 + 7 * s + 4).toNat (gH v s 4 - sOver v s)) 10 (v 10 + sOver v s)
def cashIt (v : eg_v) : Nat → eg_v
  | 0 => v
  | m + 1 => cashV (cashIt v m) (m : Int)
theorem cashIt_s {v : eg_v} {i : Int} (h : 0 ≤ i) : cashIt v (i + 1).toNat = cashV (cashIt v i.toNat) i := by
  rw [show (i + 1).toNat = i.toNat + 1 by omega]
  show cashV (cashIt v i.toNat) (i.toNat : Int) = _
  rw [Int.toNat_of_nonneg h]
theorem cashV_i {v : eg_v} {s : Int} (h0 : 0 ≤ s) (h1 : s < 6) {i : Nat} (h : i ≠ 10 ∧ (i < 66 ∨ 108 ≤ i)) : cashV v s i = v i := by
  unfold cashV
  rw [va_up_n, va_up_n, va_up_n] <;> omega
theorem VV_cash {v : eg_v} {B : Int} (hv : VV B v) {s : Int} (h0 : 0 ≤ s) (h1 : s < v 2) : VV B (cashV v s) := by
  have q := hv.r
  have oh := hv.H h0 h1
  unfold okH at oh
  have ob : gH v s 4 - sOver v s ≤ B ∧ -B ≤ gH v s 4 - sOver v s := by unfold sOver; split <;> (try split) <;> omega
  unfold cashV
  have a1 : VV B (va_up v (66 + 7 * s + 6).toNat (gH v s 6 + sDue v s)) := by
    refine k_H ⟨h0, h1⟩ ⟨by omega, by omega⟩ ?_ hv (Int.le_refl _)
    unfold okH
    rw [gH_i (c' := 0) h0 (by omega) (by omega) h0 (by omega) (by omega), gH_i (c' := 1) h0 (by omega) (by omega) h0 (by omega) (by omega), gH_i (c' := 2) h0 (by omega) (by omega) h0 (by omega) (by omega), gH_i (c' := 3) h0 (by omega) (by omega) h0 (by omega) (by omega), gH_i (c' := 4) h0 (by omega) (by omega) h0 (by omega) (by omega), gH_i (c' := 5) h0 (by omega) (by omega) h0 (by omega) (by omega)]
    rw [if_neg (by omega), if_neg (by omega), if_neg (by omega), if_neg (by omega), if_neg (by omega), if_neg (by omega)]
    exact oh
  have e2 : va_up v (66 + 7 * s + 6).toNat (gH v s 6 + sDue v s) 2 = v 2 := va_up_n _ _ (by omega)
  have oh2 := a1.H h0 (by rw [e2]; exact h1)
  unfold okH at oh2
  generalize va_up v (66 + 7 * s + 6).toNat (gH v s 6 + sDue v s) = w at *
  refine k_E (by omega) (k_H (B := B) ⟨h0, by rw [e2]; exact h1⟩ ⟨by omega, by omega⟩ ?_ a1 (Int.le_refl _)) (Int.le_refl _)
  unfold okH
  rw [gH_i (c' := 0) h0 (by omega) (by omega) h0 (by omega) (by omega), gH_i (c' := 1) h0 (by omega) (by omega) h0 (by omega) (by omega), gH_i (c' := 2) h0 (by omega) (by omega) h0 (by omega) (by omega), gH_i (c' := 3) h0 (by omega) (by omega) h0 (by omega) (by omega), gH_i (c' := 4) h0 (by omega) (by omega) h0 (by omega) (by omega), gH_i (c' := 5) h0 (by omega) (by omega) h0 (by omega) (by omega)]
  rw [if_neg (by omega), if_neg (by omega), if_neg (by omega), if_neg (by omega), if_pos (by omega), if_neg (by omega)]
  omega
theorem cashIt_p {v : eg_v} {B : Int} (hv : VV B v) : ∀ m : Nat, (m : Int) ≤ v 2 → VV B (cashIt v m) ∧ ∀ i : Nat, (i ≠ 10 ∧ (i < 66 ∨ 108 ≤ i)) → cashIt v m i = v i
  | 0, _ => ⟨hv, fun i _ => rfl⟩
  | m + 1, h => by
    have q := hv.r
    obtain ⟨h1, h2⟩ := cashIt_p hv m (by omega)
    have e2 := h2 2 (by omega)
    refine ⟨VV_cash h1 (by omega) (by rw [e2]; omega), fun i hi => ?_⟩
    show cashV (cashIt v m) (m : Int) i = v i
    rw [cashV_i (by omega) (by omega) hi]
    exact h2 i hi
theorem VV_ow {v : eg_v} {B : Int} (hv : VV B v) {s x : Int} (h0 : 0 ≤ s) (h1 : s < v 2) : VV B (va_up v (66 + 7 * s + 6).toNat x) := by
  have q := hv.r
  have oh := hv.H h0 h1
  refine k_H ⟨h0, h1⟩ ⟨by omega, by omega⟩ ?_ hv (Int.le_refl _)
  unfold okH at oh ⊢
  rw [gH_i (c' := 0) h0 (by omega) (by omega) h0 (by omega) (by omega), gH_i (c' := 1) h0 (by omega) (by omega) h0 (by omega) (by omega), gH_i (c' := 2) h0 (by omega) (by omega) h0 (by omega) (by omega), gH_i (c' := 3) h0 (by omega) (by omega) h0 (by omega) (by omega), gH_i (c' := 4) h0 (by omega) (by omega) h0 (by omega) (by omega), gH_i (c' := 5) h0 (by omega) (by omega) h0 (by omega) (by omega)]
  rw [if_neg (by omega), if_neg (by omega), if_neg (by omega), if_neg (by omega), if_neg (by omega), if_neg (by omega)]
  exact oh
theorem c_X2_cashAll {k : eg_K} {z : eg_Z} {X : eg_M} {n b : Nat} {v : eg_v} {B : Int} (hb : isB b = true) (hp : hP z b v) (hv : VV B v) (hB : B ≤ 100000000) : eg_P k gX2_cashAll 3 0 0 [vR k b] n (enc k z X) (eg_p k none n X (fun z' => Md z z' b ∧ z' (b + 11) = z (b + 11) ∧ hP z' b (cashIt v (v 2).toNat))) := by
  refine eg_P.of (by decide) (Nat.le_of_ble_eq_true rfl) ?_
  show eg_E k gX2_cashAll 3 0 0 n (enc k z X) [vR k b, vU, vU] [] 0 _
  have q := hv.r
  obtain ⟨⟨z0, z1, z2, z3⟩, ⟨c1, c3, c5, c7⟩, -⟩ := id hp
  have L : ∀ (m : Nat) (i : Int) (y : eg_Z) (u : Value), 0 ≤ i → i ≤ v 2 → hP y b (cashIt v i.toNat) → Md z y b → y (b + 11) = z (b + 11) → v 2 - i < (m : Int) → eg_E k gX2_cashAll 3 0 0 n (enc k y X) [vR k b, vI i, u] [] 2 (eg_p k none n X (fun z' => Md z z' b ∧ z' (b + 11) = z (b + 11) ∧ hP z' b (cashIt v (v 2).toNat))) := by
    intro m
    induction m with
    | zero => intro i y u h0 h1 hpy hm hl hmm; exfalso; omega
    | succ m ih =>
      intro i y u h0 h1 hpy hm hl hmm
      obtain ⟨hvi, hwi⟩ := cashIt_p hv i.toNat (by omega)
      have e2 : cashIt v i.toNat 2 = v 2 := hwi 2 (by omega)
      have c5y := hpy.2.1.2.2.1
      rw [e2] at c5y
      refine eg_iload_n dX2_cashAll_2 rfl ?_
      refine eg_al_n dX2_cashAll_3 rfl rfl ?_
      refine eg_get fl_X2_36 dX2_cashAll_4 (by first | exact ep0 hb | exact ep1 hb | exact ep3 hb | exact ep5 hb | exact ep7 hb | exact ep9 hb | exact ep10 hb | exact ep11 hb | exact ep2 hb | exact ep4 hb | exact ep6 hb | exact ep8 hb) rfl ?_
      refine eg_get fl_X2_53 dX2_cashAll_7 (by first | exact ep0 hb | exact ep1 hb | exact ep3 hb | exact ep5 hb | exact ep7 hb | exact ep9 hb | exact ep10 hb | exact ep11 hb | exact ep2 hb | exact ep4 hb | exact ep6 hb | exact ep8 hb) rfl ?_
      rw [c5y]
      refine eg_icmp_ge 61 dX2_cashAll_10 ⟨by omega, by omega⟩ ⟨by omega, by omega⟩ rfl (fun h10 => ?_) (fun h10 => ?_)
      · refine eg_return dX2_cashAll_61 rfl ?_
        have e9 : i.toNat = (v 2).toNat := by omega
        rw [e9] at hpy
        exact ⟨rfl, rfl, y, rfl, hm, hl, hpy⟩
      · have hi2 : i < cashIt v i.toNat 2 := by rw [e2]; exact h10
        have ob := sOver_b hvi h0 hi2
        have hcs := cashIt_s (v := v) h0
        have hvn := VV_cash hvi h0 hi2
        refine eg_al_n dX2_cashAll_13 rfl rfl ?_
        refine eg_iload_n dX2_cashAll_14 rfl ?_
        refine eg_Vf1 cs_X2_144 dX2_cashAll_15 (c_over hb hpy hvi hB h0 (by rw [e2]; omega)) (by first | exact ep0 hb | exact ep1 hb | exact ep3 hb | exact ep5 hb | exact ep7 hb | exact ep9 hb | exact ep10 hb | exact ep11 hb | exact ep2 hb | exact ep4 hb | exact ep6 hb | exact ep8 hb) rfl (Nat.le_of_ble_eq_true rfl) (by decide) ?_
        refine eg_istore_n dX2_cashAll_18 rfl rfl rfl ?_
        refine eg_al_n dX2_cashAll_19 rfl rfl ?_
        refine eg_get fl_X2_42 dX2_cashAll_20 (by first | exact ep0 hb | exact ep1 hb | exact ep3 hb | exact ep5 hb | exact ep7 hb | exact ep9 hb | exact ep10 hb | exact ep11 hb | exact ep2 hb | exact ep4 hb | exact ep6 hb | exact ep8 hb) rfl ?_
        refine eg_iload_n dX2_cashAll_23 rfl ?_
        refine eg_dup2 dX2_cashAll_24 rfl rfl ?_
        refine eg_lald dX2_cashAll_25 (by first | exact ep0 hb | exact ep1 hb | exact ep3 hb | exact ep5 hb | exact ep7 hb | exact ep9 hb | exact ep10 hb | exact ep11 hb | exact ep2 hb | exact ep4 hb | exact ep6 hb | exact ep8 hb) (by omega) (by omega) (by decide) ?_
        refine eg_al_n dX2_cashAll_26 rfl rfl ?_
        refine eg_iload_n dX2_cashAll_27 rfl ?_
        refine eg_Vf1 cs_X2_149 dX2_cashAll_28 (c_X2_dueFor hb hpy hvi hB h0 (by rw [e2]; omega)) (by first | exact ep0 hb | exact ep1 hb | exact ep3 hb | exact ep5 hb | exact ep7 hb | exact ep9 hb | exact ep10 hb | exact ep11 hb | exact ep2 hb | exact ep4 hb | exact ep6 hb | exact ep8 hb) rfl (Nat.le_of_ble_eq_true rfl) (by decide) ?_
        refine eg_ladd dX2_cashAll_31 ?_
        refine eg_last dX2_cashAll_32 (by first | exact ep0 hb | exact ep1 hb | exact ep3 hb | exact ep5 hb | exact ep7 hb | exact ep9 hb | exact ep10 hb | exact ep11 hb | exact ep2 hb | exact ep4 hb | exact ep6 hb | exact ep8 hb) (by omega) (by omega) (by decide) ?_
        refine eg_eqM (es9 hb) ?_
        have po := hpy.2.2.2.2.2.1 i h0 hi2
        rw [po]
        have hp1 := uO (x := gH (cashIt v i.toNat) i 6 + sDue (cashIt v i.toNat) i) ⟨h0, hi2⟩ hvi hpy
        generalize w1 : va_up y (b + 9) _ = y1 at hp1 ⊢
        have hv1 : VV B (va_up (cashIt v i.toNat) (66 + 7 * i + 6).toNat (gH (cashIt v i.toNat) i 6 + sDue (cashIt v i.toNat) i)) := VV_ow hvi h0 hi2
        refine eg_al_n dX2_cashAll_33 rfl rfl ?_
        refine eg_get fl_X2_46 dX2_cashAll_34 (by first | exact ep0 hb | exact ep1 hb | exact ep3 hb | exact ep5 hb | exact ep7 hb | exact ep9 hb | exact ep10 hb | exact ep11 hb | exact ep2 hb | exact ep4 hb | exact ep6 hb | exact ep8 hb) rfl ?_
        refine eg_iconst dX2_cashAll_37 ?_
        refine eg_dup2 dX2_cashAll_38 rfl rfl ?_
        refine eg_lald dX2_cashAll_39 (by first | exact ep0 hb | exact ep1 hb | exact ep3 hb | exact ep5 hb | exact ep7 hb | exact ep9 hb | exact ep10 hb | exact ep11 hb | exact ep2 hb | exact ep4 hb | exact ep6 hb | exact ep8 hb) (by omega) (by omega) (by decide) ?_
        refine eg_iload_n dX2_cashAll_40 rfl ?_
        refine eg_i2l dX2_cashAll_41 ⟨by omega, by omega⟩ ?_
        refine eg_ladd dX2_cashAll_42 ?_
        refine eg_last dX2_cashAll_43 (by first | exact ep0 hb | exact ep1 hb | exact ep3 hb | exact ep5 hb | exact ep7 hb | exact ep9 hb | exact ep10 hb | exact ep11 hb | exact ep2 hb | exact ep4 hb | exact ep6 hb | exact ep8 hb) (by omega) (by omega) (by decide) ?_
        refine eg_eqM (es10 hb) ?_
        rw [show Int.toNat 3 = 3 from rfl]
        have hp2 := uT3 (x := y1 (b + 10) 3 + sOver (cashIt v i.toNat) i) hv1 hp1
        have t3 : y1 (b + 10) 3 = cashIt v i.toNat 10 := hp1.2.2.2.2.2.2.2.2.2.2.trans (va_up_n _ _ (by omega))
        have hv2 : VV B _ := k_E (i0 := 10) (x := y1 (b + 10) 3 + sOver (cashIt v i.toNat) i) (by omega) hv1 (Int.le_refl _)
        generalize w2 : va_up y1 (b + 10) (va_up (y1 (b + 10)) 3 _) = y2 at hp2 ⊢
        have e22 : va_up (va_up (cashIt v i.toNat) (66 + 7 * i + 6).toNat (gH (cashIt v i.toNat) i 6 + sDue (cashIt v i.toNat) i)) 10 (y1 (b + 10) 3 + sOver (cashIt v i.toNat) i) 2 = v 2 := by rw [va_up_n _ _ (by omega), va_up_n _ _ (by omega), e2]
        have e24 : gH (va_up (va_up (cashIt v i.toNat) (66 + 7 * i + 6).toNat (gH (cashIt v i.toNat) i 6 + sDue (cashIt v i.toNat) i)) 10 (y1 (b + 10) 3 + sOver (cashIt v i.toNat) i)) i 4 = gH (cashIt v i.toNat) i 4 := by rw [gH_o (by omega) h0 (by omega) (by omega) (by omega), gH_i h0 (by omega) (by omega) h0 (by omega) (by omega), if_neg (by omega)]
        refine eg_al_n dX2_cashAll_44 rfl rfl ?_
        refine eg_get fl_X2_36 dX2_cashAll_45 (by first | exact ep0 hb | exact ep1 hb | exact ep3 hb | exact ep5 hb | exact ep7 hb | exact ep9 hb | exact ep10 hb | exact ep11 hb | exact ep2 hb | exact ep4 hb | exact ep6 hb | exact ep8 hb) rfl ?_
        refine eg_iload_n dX2_cashAll_48 rfl ?_
        refine eg_iconst dX2_cashAll_49 ?_
        refine eg_iload_n dX2_cashAll_50 rfl ?_
        refine eg_ineg dX2_cashAll_51 ?_
        refine eg_Vpv3 cs_X2_131 dX2_cashAll_52 (sh_raiseQ hb hp2 hv2 h0 (by rw [e22]; omega) (by omega) (by omega)) (by first | exact ep0 hb | exact ep1 hb | exact ep3 hb | exact ep5 hb | exact ep7 hb | exact ep9 hb | exact ep10 hb | exact ep11 hb | exact ep2 hb | exact ep4 hb | exact ep6 hb | exact ep8 hb) rfl (Nat.le_of_ble_eq_true rfl) (by decide) ?_
        rintro y3 ⟨m3, l3, hp3⟩
        rw [e24, t3, va_up_c _ _ _ (by omega)] at hp3
        refine eg_iinc dX2_cashAll_55 rfl rfl rfl ?_
        refine eg_goto 2 dX2_cashAll_58 rfl ?_
        refine ih (i + 1) y3 _ (by omega) (by omega) ?_ ?_ ?_ (by omega)
        · rw [hcs]; exact hp3
        · refine hm.tr (Md.tr (z' := y1) ?_ (Md.tr (z' := y2) ?_ m3))
          · rw [← w1]; exact md1 (by decide)
          · rw [← w2]; exact md1 (by decide)
        · rw [l3, ← w2, va_up_n _ _ (by omega), ← w1, va_up_n _ _ (by omega)]; exact hl
  refine eg_iconst dX2_cashAll_0 ?_
  refine eg_istore_n dX2_cashAll_1 rfl rfl rfl ?_
  exact L 7 0 z _ (by omega) (by omega) hp Md.rf rfl (by omega)
