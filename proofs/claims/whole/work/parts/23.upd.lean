theorem k_H {v : eg_v} {B B' : Int} {s c0 x : Int} (hs : 0 ≤ s ∧ s < v 2) (hc : 0 ≤ c0 ∧ c0 < 7) (ho : okH B' (va_up v (66 + 7 * s + c0).toNat x) s) (hv : VV B v) (hB : B ≤ B') : VV B' (va_up v (66 + 7 * s + c0).toNat x) := by
  have q := hv.r
  obtain ⟨r0, r1, r2, r3, r4, r5, r6, oS, oP, oH, oN⟩ := hv
  have w : ∀ i, i ≠ (66 + 7 * s + c0).toNat → va_up v (66 + 7 * s + c0).toNat x i = v i := fun i hi => va_up_n _ _ hi
  unfold VV
  rw [w 0 (by omega), w 1 (by omega), w 2 (by omega), w 3 (by omega), w 4 (by omega), w 5 (by omega), w 6 (by omega)]
  refine ⟨r0, r1, r2, r3, r4, r5, r6, ?_, ?_, ?_, ?_⟩
  · intro i h0 h1
    have h := oS i h0 h1
    unfold okS at h ⊢
    rw [gS_o (by omega) h0 h1 (by omega) (by omega), gS_o (by omega) h0 h1 (by omega) (by omega)]
    exact h
  · intro p h0 h1
    have h := oP p h0 h1
    unfold okP at h ⊢
    rw [w 0 (by omega), gP_o (by omega) h0 (by omega) (by omega) (by omega), gP_o (by omega) h0 (by omega) (by omega) (by omega), gP_o (by omega) h0 (by omega) (by omega) (by omega), gP_o (by omega) h0 (by omega) (by omega) (by omega)]
    exact h
  · intro s' h0 h1
    by_cases hss : s' = s
    · subst hss; exact ho
    · have h := oH s' h0 h1
      unfold okH at h ⊢
      rw [gH_i (c' := 0) hs.1 hc.1 hc.2 h0 (by omega) (by omega), if_neg (by omega)]
      rw [gH_i (c' := 1) hs.1 hc.1 hc.2 h0 (by omega) (by omega), if_neg (by omega)]
      rw [gH_i (c' := 2) hs.1 hc.1 hc.2 h0 (by omega) (by omega), if_neg (by omega)]
      rw [gH_i (c' := 3) hs.1 hc.1 hc.2 h0 (by omega) (by omega), if_neg (by omega)]
      rw [gH_i (c' := 4) hs.1 hc.1 hc.2 h0 (by omega) (by omega), if_neg (by omega)]
      rw [gH_i (c' := 5) hs.1 hc.1 hc.2 h0 (by omega) (by omega), if_neg (by omega)]
      omega
  · intro q0 h0 h1
    have h := oN q0 h0 h1
    unfold okN isIn isOut at h ⊢
    rw [w 1 (by omega), w 2 (by omega)]
    rw [gN_o (c := 0) (by omega) h0 (by omega) (by omega) (by omega), gN_o (c := 1) (by omega) h0 (by omega) (by omega) (by omega), gN_o (c := 2) (by omega) h0 (by omega) (by omega) (by omega), gN_o (c := 3) (by omega) h0 (by omega) (by omega) (by omega)]
    refine ⟨h.1, h.2.1.imp id (fun g => ⟨g.1, g.2.1, ?_⟩), h.2.2.1.imp id (fun g => ⟨g.1, g.2.1, ?_⟩), h.2.2.2⟩
    · rw [gP_o (by omega) g.1 (by omega) (by omega) (by omega)]
      exact g.2.2
    · rw [gP_o (by omega) g.1 (by omega) (by omega) (by omega)]
      exact g.2.2

theorem k_P {v : eg_v} {B B' : Int} {s c0 x : Int} (hs : 0 ≤ s ∧ s < v 1) (hc : 0 ≤ c0 ∧ c0 < 4) (hc1 : c0 ≠ 1) (ho : okP (va_up v (26 + 4 * s + c0).toNat x) s) (hv : VV B v) (hB : B ≤ B') : VV B' (va_up v (26 + 4 * s + c0).toNat x) := by
  have q := hv.r
  obtain ⟨r0, r1, r2, r3, r4, r5, r6, oS, oP, oH, oN⟩ := hv
  have w : ∀ i, i ≠ (26 + 4 * s + c0).toNat → va_up v (26 + 4 * s + c0).toNat x i = v i := fun i hi => va_up_n _ _ hi
  unfold VV
  rw [w 0 (by omega), w 1 (by omega), w 2 (by omega), w 3 (by omega), w 4 (by omega), w 5 (by omega), w 6 (by omega)]
  refine ⟨r0, r1, r2, r3, r4, r5, r6, ?_, ?_, ?_, ?_⟩
  · intro i h0 h1
    have h := oS i h0 h1
    unfold okS at h ⊢
    rw [gS_o (by omega) h0 h1 (by omega) (by omega), gS_o (by omega) h0 h1 (by omega) (by omega)]
    exact h
  · intro p h0 h1
    by_cases hss : p = s
    · subst hss; exact ho
    · have h := oP p h0 h1
      unfold okP at h ⊢
      rw [w 0 (by omega)]
      rw [gP_i (c' := 0) hs.1 hc.1 hc.2 h0 (by omega) (by omega), if_neg (by omega)]
      rw [gP_i (c' := 1) hs.1 hc.1 hc.2 h0 (by omega) (by omega), if_neg (by omega)]
      rw [gP_i (c' := 2) hs.1 hc.1 hc.2 h0 (by omega) (by omega), if_neg (by omega)]
      rw [gP_i (c' := 3) hs.1 hc.1 hc.2 h0 (by omega) (by omega), if_neg (by omega)]
      omega
  · intro s h0 h1
    have h := oH s h0 h1
    unfold okH at h ⊢
    rw [gH_o (c := 0) (by omega) h0 (by omega) (by omega) (by omega)]
    rw [gH_o (c := 1) (by omega) h0 (by omega) (by omega) (by omega)]
    rw [gH_o (c := 2) (by omega) h0 (by omega) (by omega) (by omega)]
    rw [gH_o (c := 3) (by omega) h0 (by omega) (by omega) (by omega)]
    rw [gH_o (c := 4) (by omega) h0 (by omega) (by omega) (by omega)]
    rw [gH_o (c := 5) (by omega) h0 (by omega) (by omega) (by omega)]
    omega
  · intro q0 h0 h1
    have h := oN q0 h0 h1
    unfold okN isIn isOut at h ⊢
    rw [w 1 (by omega), w 2 (by omega)]
    rw [gN_o (c := 0) (by omega) h0 (by omega) (by omega) (by omega), gN_o (c := 1) (by omega) h0 (by omega) (by omega) (by omega), gN_o (c := 2) (by omega) h0 (by omega) (by omega) (by omega), gN_o (c := 3) (by omega) h0 (by omega) (by omega) (by omega)]
    refine ⟨h.1, h.2.1.imp id (fun g => ⟨g.1, g.2.1, ?_⟩), h.2.2.1.imp id (fun g => ⟨g.1, g.2.1, ?_⟩), h.2.2.2⟩
    · rw [gP_i hs.1 hc.1 hc.2 g.1 (by omega) (by omega), if_neg (by omega)]
      exact g.2.2
    · rw [gP_i hs.1 hc.1 hc.2 g.1 (by omega) (by omega), if_neg (by omega)]
      exact g.2.2

theorem k_S {v : eg_v} {B B' : Int} {s c0 x : Int} (hs : 0 ≤ s ∧ s < 7) (hc : 0 ≤ c0 ∧ c0 < 2) (ho : okS (va_up v (12 + 2 * s + c0).toNat x) s) (hv : VV B v) (hB : B ≤ B') : VV B' (va_up v (12 + 2 * s + c0).toNat x) := by
  have q := hv.r
  obtain ⟨r0, r1, r2, r3, r4, r5, r6, oS, oP, oH, oN⟩ := hv
  have w : ∀ i, i ≠ (12 + 2 * s + c0).toNat → va_up v (12 + 2 * s + c0).toNat x i = v i := fun i hi => va_up_n _ _ hi
  unfold VV
  rw [w 0 (by omega), w 1 (by omega), w 2 (by omega), w 3 (by omega), w 4 (by omega), w 5 (by omega), w 6 (by omega)]
  refine ⟨r0, r1, r2, r3, r4, r5, r6, ?_, ?_, ?_, ?_⟩
  · intro i h0 h1
    by_cases hss : i = s
    · subst hss; exact ho
    · have h := oS i h0 h1
      unfold okS at h ⊢
      rw [gS_i (c' := 0) hs.1 hc.1 hc.2 h0 (by omega) (by omega), if_neg (by omega)]
      rw [gS_i (c' := 1) hs.1 hc.1 hc.2 h0 (by omega) (by omega), if_neg (by omega)]
      omega
  · intro p h0 h1
    have h := oP p h0 h1
    unfold okP at h ⊢
    rw [w 0 (by omega), gP_o (by omega) h0 (by omega) (by omega) (by omega), gP_o (by omega) h0 (by omega) (by omega) (by omega), gP_o (by omega) h0 (by omega) (by omega) (by omega), gP_o (by omega) h0 (by omega) (by omega) (by omega)]
    exact h
  · intro s h0 h1
    have h := oH s h0 h1
    unfold okH at h ⊢
    rw [gH_o (c := 0) (by omega) h0 (by omega) (by omega) (by omega)]
    rw [gH_o (c := 1) (by omega) h0 (by omega) (by omega) (by omega)]
    rw [gH_o (c := 2) (by omega) h0 (by omega) (by omega) (by omega)]
    rw [gH_o (c := 3) (by omega) h0 (by omega) (by omega) (by omega)]
    rw [gH_o (c := 4) (by omega) h0 (by omega) (by omega) (by omega)]
    rw [gH_o (c := 5) (by omega) h0 (by omega) (by omega) (by omega)]
    omega
  · intro q0 h0 h1
    have h := oN q0 h0 h1
    unfold okN isIn isOut at h ⊢
    rw [w 1 (by omega), w 2 (by omega)]
    rw [gN_o (c := 0) (by omega) h0 (by omega) (by omega) (by omega), gN_o (c := 1) (by omega) h0 (by omega) (by omega) (by omega), gN_o (c := 2) (by omega) h0 (by omega) (by omega) (by omega), gN_o (c := 3) (by omega) h0 (by omega) (by omega) (by omega)]
    refine ⟨h.1, h.2.1.imp id (fun g => ⟨g.1, g.2.1, ?_⟩), h.2.2.1.imp id (fun g => ⟨g.1, g.2.1, ?_⟩), h.2.2.2⟩
    · rw [gP_o (by omega) g.1 (by omega) (by omega) (by omega)]
      exact g.2.2
    · rw [gP_o (by omega) g.1 (by omega) (by omega) (by omega)]
      exact g.2.2

theorem k_N {v : eg_v} {B B' : Int} {s c0 x : Int} (hs : 0 ≤ s ∧ s < v 3) (hc : 0 ≤ c0 ∧ c0 < 4) (ho : okN (va_up v (108 + 4 * s + c0).toNat x) s) (hv : VV B v) (hB : B ≤ B') : VV B' (va_up v (108 + 4 * s + c0).toNat x) := by
  have q := hv.r
  obtain ⟨r0, r1, r2, r3, r4, r5, r6, oS, oP, oH, oN⟩ := hv
  have w : ∀ i, i ≠ (108 + 4 * s + c0).toNat → va_up v (108 + 4 * s + c0).toNat x i = v i := fun i hi => va_up_n _ _ hi
  unfold VV
  rw [w 0 (by omega), w 1 (by omega), w 2 (by omega), w 3 (by omega), w 4 (by omega), w 5 (by omega), w 6 (by omega)]
  refine ⟨r0, r1, r2, r3, r4, r5, r6, ?_, ?_, ?_, ?_⟩
  · intro i h0 h1
    have h := oS i h0 h1
    unfold okS at h ⊢
    rw [gS_o (by omega) h0 h1 (by omega) (by omega), gS_o (by omega) h0 h1 (by omega) (by omega)]
    exact h
  · intro p h0 h1
    have h := oP p h0 h1
    unfold okP at h ⊢
    rw [w 0 (by omega), gP_o (by omega) h0 (by omega) (by omega) (by omega), gP_o (by omega) h0 (by omega) (by omega) (by omega), gP_o (by omega) h0 (by omega) (by omega) (by omega), gP_o (by omega) h0 (by omega) (by omega) (by omega)]
    exact h
  · intro s h0 h1
    have h := oH s h0 h1
    unfold okH at h ⊢
    rw [gH_o (c := 0) (by omega) h0 (by omega) (by omega) (by omega)]
    rw [gH_o (c := 1) (by omega) h0 (by omega) (by omega) (by omega)]
    rw [gH_o (c := 2) (by omega) h0 (by omega) (by omega) (by omega)]
    rw [gH_o (c := 3) (by omega) h0 (by omega) (by omega) (by omega)]
    rw [gH_o (c := 4) (by omega) h0 (by omega) (by omega) (by omega)]
    rw [gH_o (c := 5) (by omega) h0 (by omega) (by omega) (by omega)]
    omega
  · intro q0 h0 h1
    by_cases hss : q0 = s
    · subst hss; exact ho
    · have h := oN q0 h0 h1
      unfold okN isIn isOut at h ⊢
      rw [w 1 (by omega), w 2 (by omega)]
      rw [gN_i (c' := 0) hs.1 hc.1 hc.2 h0 (by omega) (by omega), if_neg (by omega)]
      rw [gN_i (c' := 1) hs.1 hc.1 hc.2 h0 (by omega) (by omega), if_neg (by omega)]
      rw [gN_i (c' := 2) hs.1 hc.1 hc.2 h0 (by omega) (by omega), if_neg (by omega)]
      rw [gN_i (c' := 3) hs.1 hc.1 hc.2 h0 (by omega) (by omega), if_neg (by omega)]
      refine ⟨h.1, h.2.1.imp id (fun g => ⟨g.1, g.2.1, ?_⟩), h.2.2.1.imp id (fun g => ⟨g.1, g.2.1, ?_⟩), h.2.2.2⟩
      · rw [gP_o (by omega) g.1 (by omega) (by omega) (by omega)]
        exact g.2.2
      · rw [gP_o (by omega) g.1 (by omega) (by omega) (by omega)]
        exact g.2.2

theorem k_E {v : eg_v} {B B' : Int} {i0 : Nat} {x : Int} (hi : (7 ≤ i0 ∧ i0 < 12) ∨ 172 ≤ i0) (hv : VV B v) (hB : B ≤ B') : VV B' (va_up v i0 x) := by
  have q := hv.r
  obtain ⟨r0, r1, r2, r3, r4, r5, r6, oS, oP, oH, oN⟩ := hv
  have w : ∀ i, i ≠ i0 → va_up v i0 x i = v i := fun i hi => va_up_n _ _ hi
  unfold VV
  rw [w 0 (by omega), w 1 (by omega), w 2 (by omega), w 3 (by omega), w 4 (by omega), w 5 (by omega), w 6 (by omega)]
  refine ⟨r0, r1, r2, r3, r4, r5, r6, ?_, ?_, ?_, ?_⟩
  · intro i h0 h1
    have h := oS i h0 h1
    unfold okS at h ⊢
    rw [gS_o (by omega) h0 h1 (by omega) (by omega), gS_o (by omega) h0 h1 (by omega) (by omega)]
    exact h
  · intro p h0 h1
    have h := oP p h0 h1
    unfold okP at h ⊢
    rw [w 0 (by omega), gP_o (by omega) h0 (by omega) (by omega) (by omega), gP_o (by omega) h0 (by omega) (by omega) (by omega), gP_o (by omega) h0 (by omega) (by omega) (by omega), gP_o (by omega) h0 (by omega) (by omega) (by omega)]
    exact h
  · intro s h0 h1
    have h := oH s h0 h1
    unfold okH at h ⊢
    rw [gH_o (c := 0) (by omega) h0 (by omega) (by omega) (by omega)]
    rw [gH_o (c := 1) (by omega) h0 (by omega) (by omega) (by omega)]
    rw [gH_o (c := 2) (by omega) h0 (by omega) (by omega) (by omega)]
    rw [gH_o (c := 3) (by omega) h0 (by omega) (by omega) (by omega)]
    rw [gH_o (c := 4) (by omega) h0 (by omega) (by omega) (by omega)]
    rw [gH_o (c := 5) (by omega) h0 (by omega) (by omega) (by omega)]
    omega
  · intro q0 h0 h1
    have h := oN q0 h0 h1
    unfold okN isIn isOut at h ⊢
    rw [w 1 (by omega), w 2 (by omega)]
    rw [gN_o (c := 0) (by omega) h0 (by omega) (by omega) (by omega), gN_o (c := 1) (by omega) h0 (by omega) (by omega) (by omega), gN_o (c := 2) (by omega) h0 (by omega) (by omega) (by omega), gN_o (c := 3) (by omega) h0 (by omega) (by omega) (by omega)]
    refine ⟨h.1, h.2.1.imp id (fun g => ⟨g.1, g.2.1, ?_⟩), h.2.2.1.imp id (fun g => ⟨g.1, g.2.1, ?_⟩), h.2.2.2⟩
    · rw [gP_o (by omega) g.1 (by omega) (by omega) (by omega)]
      exact g.2.2
    · rw [gP_o (by omega) g.1 (by omega) (by omega) (by omega)]
      exact g.2.2

theorem k_D {v : eg_v} {B B' : Int} {x : Int} (hx : 0 ≤ x ∧ x ≤ 9999) (hv : VV B v) (hB : B ≤ B') : VV B' (va_up v 4 x) := by
  have q := hv.r
  obtain ⟨r0, r1, r2, r3, r4, r5, r6, oS, oP, oH, oN⟩ := hv
  have w : ∀ i, i ≠ 4 → va_up v 4 x i = v i := fun i hi => va_up_n _ _ hi
  unfold VV
  rw [w 0 (by omega), w 1 (by omega), w 2 (by omega), w 3 (by omega), va_up_s, w 5 (by omega), w 6 (by omega)]
  refine ⟨r0, r1, r2, r3, hx, r5, r6, ?_, ?_, ?_, ?_⟩
  · intro i h0 h1
    have h := oS i h0 h1
    unfold okS at h ⊢
    rw [gS_o (by omega) h0 h1 (by omega) (by omega), gS_o (by omega) h0 h1 (by omega) (by omega)]
    exact h
  · intro p h0 h1
    have h := oP p h0 h1
    unfold okP at h ⊢
    rw [w 0 (by omega), gP_o (by omega) h0 (by omega) (by omega) (by omega), gP_o (by omega) h0 (by omega) (by omega) (by omega), gP_o (by omega) h0 (by omega) (by omega) (by omega), gP_o (by omega) h0 (by omega) (by omega) (by omega)]
    exact h
  · intro s h0 h1
    have h := oH s h0 h1
    unfold okH at h ⊢
    rw [gH_o (c := 0) (by omega) h0 (by omega) (by omega) (by omega)]
    rw [gH_o (c := 1) (by omega) h0 (by omega) (by omega) (by omega)]
    rw [gH_o (c := 2) (by omega) h0 (by omega) (by omega) (by omega)]
    rw [gH_o (c := 3) (by omega) h0 (by omega) (by omega) (by omega)]
    rw [gH_o (c := 4) (by omega) h0 (by omega) (by omega) (by omega)]
    rw [gH_o (c := 5) (by omega) h0 (by omega) (by omega) (by omega)]
    omega
  · intro q0 h0 h1
    have h := oN q0 h0 h1
    unfold okN isIn isOut at h ⊢
    rw [w 1 (by omega), w 2 (by omega)]
    rw [gN_o (c := 0) (by omega) h0 (by omega) (by omega) (by omega), gN_o (c := 1) (by omega) h0 (by omega) (by omega) (by omega), gN_o (c := 2) (by omega) h0 (by omega) (by omega) (by omega), gN_o (c := 3) (by omega) h0 (by omega) (by omega) (by omega)]
    refine ⟨h.1, h.2.1.imp id (fun g => ⟨g.1, g.2.1, ?_⟩), h.2.2.1.imp id (fun g => ⟨g.1, g.2.1, ?_⟩), h.2.2.2⟩
    · rw [gP_o (by omega) g.1 (by omega) (by omega) (by omega)]
      exact g.2.2
    · rw [gP_o (by omega) g.1 (by omega) (by omega) (by omega)]
      exact g.2.2

theorem uD {z : eg_Z} {b : Nat} {v : eg_v} {B x : Int} (hv : VV B v) (hp : hP z b v) : hP (va_up z b (va_up (z b) 3 x)) b (va_up v 4 x) := by
  have q := hv.r
  obtain ⟨⟨a0, a1, a2, a3⟩, ⟨b1, b3, b5, b7⟩, pS, pP, pH, pO, pN, t0, t1, t2, t3⟩ := hp
  have e : ∀ j, 0 < j → va_up z b (va_up (z b) 3 x) (b + j) = z (b + j) := fun j hj => va_up_n _ _ (by omega)
  have w : ∀ i, i ≠ 4 → va_up v 4 x i = v i := fun i hi => va_up_n _ _ hi
  have ws : segs (va_up v 4 x) = segs v := by unfold segs; rw [w 0 (by omega)]
  unfold hP
  rw [ws, w 0 (by omega), w 1 (by omega), w 2 (by omega), w 3 (by omega), w 5 (by omega), w 6 (by omega), w 7 (by omega), w 8 (by omega), w 9 (by omega), w 10 (by omega), va_up_s, va_up_s]
  rw [e 1 (by omega), e 2 (by omega), e 3 (by omega), e 4 (by omega), e 5 (by omega), e 6 (by omega), e 7 (by omega), e 8 (by omega), e 9 (by omega), e 10 (by omega)]
  rw [va_up_s, va_up_n _ _ (show 0 ≠ 3 by decide), va_up_n _ _ (show 1 ≠ 3 by decide), va_up_n _ _ (show 2 ≠ 3 by decide)]
  refine ⟨⟨a0, a1, a2, rfl⟩, ⟨b1, b3, b5, b7⟩, ?_, ?_, ?_, ?_, ?_, ⟨t0, t1, t2, t3⟩⟩
  · intro r c h0 h1 h2 h3
    rw [gS_o (by omega) h0 (by omega) h2 (by omega)]
    exact pS r c h0 h1 h2 h3
  · intro r c h0 h1 h2 h3
    rw [gP_o (by omega) h0 (by omega) h2 (by omega)]
    exact pP r c h0 h1 h2 h3
  · intro r c h0 h1 h2 h3
    rw [gH_o (by omega) h0 (by omega) h2 (by omega)]
    exact pH r c h0 h1 h2 h3
  · intro r h0 h1
    rw [gH_o (by omega) h0 (by omega) (by omega) (by omega)]
    exact pO r h0 h1
  · intro r c h0 h1 h2 h3
    rw [gN_o (by omega) h0 (by omega) h2 (by omega)]
    exact pN r c h0 h1 h2 h3
