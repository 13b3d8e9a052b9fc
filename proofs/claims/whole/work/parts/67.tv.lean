theorem k_5 {v : eg_v} {B B' : Int} {x : Int} (hx : 0 ≤ x ∧ x ≤ 999) (hv : VV B v) (hB : B ≤ B') : VV B' (va_up v 5 x) := by
  have q := hv.r
  obtain ⟨r0, r1, r2, r3, r4, r5, r6, oS, oP, oH, oN⟩ := hv
  have w : ∀ i, i ≠ 5 → va_up v 5 x i = v i := fun i hi => va_up_n _ _ hi
  unfold VV
  rw [w 0 (by omega), w 1 (by omega), w 2 (by omega), w 3 (by omega), w 4 (by omega), va_up_s, w 6 (by omega)]
  refine ⟨r0, r1, r2, r3, r4, hx, r6, ?_, ?_, ?_, ?_⟩
  · intro i h0 h1
    have h := oS i h0 h1
    unfold okS at h ⊢
    rw [gS_o (by omega) h0 h1 (by omega) (by omega), gS_o (by omega) h0 h1 (by omega) (by omega)]
    exact h
  · intro p h0 h1
    have h := oP p h0 h1
    unfold okP at h ⊢
    rw [w 0 (by omega), gP_o (by omega) h0 (by omega) (by omega) (by omega), gP_o (by omega) h0 (by omega) (by omega) (by omega), gP_o (by omega) h0 (by omega) (by omega) (by omega), gP_o (by omega) h0 (by omega) (by omega) (by omega)]
    exact h
  · intro s h0 h1
    have h := oH s h0 h1
    unfold okH at h ⊢
    rw [gH_o (c := 0) (by omega) h0 (by omega) (by omega) (by omega)]
    rw [gH_o (c := 1) (by omega) h0 (by omega) (by omega) (by omega)]
    rw [gH_o (c := 2) (by omega) h0 (by omega) (by omega) (by omega)]
    rw [gH_o (c := 3) (by omega) h0 (by omega) (by omega) (by omega)]
    rw [gH_o (c := 4) (by omega) h0 (by omega) (by omega) (by omega)]
    rw [gH_o (c := 5) (by omega) h0 (by omega) (by omega) (by omega)]
    omega
  · intro q0 h0 h1
    have h := oN q0 h0 h1
    unfold okN isIn isOut at h ⊢
    rw [w 1 (by omega), w 2 (by omega)]
    rw [gN_o (c := 0) (by omega) h0 (by omega) (by omega) (by omega), gN_o (c := 1) (by omega) h0 (by omega) (by omega) (by omega), gN_o (c := 2) (by omega) h0 (by omega) (by omega) (by omega), gN_o (c := 3) (by omega) h0 (by omega) (by omega) (by omega)]
    refine ⟨h.1, h.2.1.imp id (fun g => ⟨g.1, g.2.1, ?_⟩), h.2.2.1.imp id (fun g => ⟨g.1, g.2.1, ?_⟩), h.2.2.2⟩
    · rw [gP_o (by omega) g.1 (by omega) (by omega) (by omega)]
      exact g.2.2
    · rw [gP_o (by omega) g.1 (by omega) (by omega) (by omega)]
      exact g.2.2
theorem k_6 {v : eg_v} {B B' : Int} {x : Int} (hx : 0 ≤ x ∧ x ≤ 100) (hv : VV B v) (hB : B ≤ B') : VV B' (va_up v 6 x) := by
  have q := hv.r
  obtain ⟨r0, r1, r2, r3, r4, r5, r6, oS, oP, oH, oN⟩ := hv
  have w : ∀ i, i ≠ 6 → va_up v 6 x i = v i := fun i hi => va_up_n _ _ hi
  unfold VV
  rw [w 0 (by omega), w 1 (by omega), w 2 (by omega), w 3 (by omega), w 4 (by omega), w 5 (by omega), va_up_s]
  refine ⟨r0, r1, r2, r3, r4, r5, hx, ?_, ?_, ?_, ?_⟩
  · intro i h0 h1
    have h := oS i h0 h1
    unfold okS at h ⊢
    rw [gS_o (by omega) h0 h1 (by omega) (by omega), gS_o (by omega) h0 h1 (by omega) (by omega)]
    exact h
  · intro p h0 h1
    have h := oP p h0 h1
    unfold okP at h ⊢
    rw [w 0 (by omega), gP_o (by omega) h0 (by omega) (by omega) (by omega), gP_o (by omega) h0 (by omega) (by omega) (by omega), gP_o (by omega) h0 (by omega) (by omega) (by omega), gP_o (by omega) h0 (by omega) (by omega) (by omega)]
    exact h
  · intro s h0 h1
    have h := oH s h0 h1
    unfold okH at h ⊢
    rw [gH_o (c := 0) (by omega) h0 (by omega) (by omega) (by omega)]
    rw [gH_o (c := 1) (by omega) h0 (by omega) (by omega) (by omega)]
    rw [gH_o (c := 2) (by omega) h0 (by omega) (by omega) (by omega)]
    rw [gH_o (c := 3) (by omega) h0 (by omega) (by omega) (by omega)]
    rw [gH_o (c := 4) (by omega) h0 (by omega) (by omega) (by omega)]
    rw [gH_o (c := 5) (by omega) h0 (by omega) (by omega) (by omega)]
    omega
  · intro q0 h0 h1
    have h := oN q0 h0 h1
    unfold okN isIn isOut at h ⊢
    rw [w 1 (by omega), w 2 (by omega)]
    rw [gN_o (c := 0) (by omega) h0 (by omega) (by omega) (by omega), gN_o (c := 1) (by omega) h0 (by omega) (by omega) (by omega), gN_o (c := 2) (by omega) h0 (by omega) (by omega) (by omega), gN_o (c := 3) (by omega) h0 (by omega) (by omega) (by omega)]
    refine ⟨h.1, h.2.1.imp id (fun g => ⟨g.1, g.2.1, ?_⟩), h.2.2.1.imp id (fun g => ⟨g.1, g.2.1, ?_⟩), h.2.2.2⟩
    · rw [gP_o (by omega) g.1 (by omega) (by omega) (by omega)]
      exact g.2.2
    · rw [gP_o (by omega) g.1 (by omega) (by omega) (by omega)]
      exact g.2.2
theorem u5 {z : eg_Z} {b : Nat} {v : eg_v} {B x : Int} (hv : VV B v) (hp : hP z b v) : hP (va_up z b (va_up (z b) 1 x)) b (va_up v 5 x) := by
  have q := hv.r
  obtain ⟨⟨a0, a1, a2, a3⟩, ⟨b1, b3, b5, b7⟩, pS, pP, pH, pO, pN, t0, t1, t2, t3⟩ := hp
  have e : ∀ j, 0 < j → va_up z b (va_up (z b) 1 x) (b + j) = z (b + j) := fun j hj => va_up_n _ _ (by omega)
  have w : ∀ i, i ≠ 5 → va_up v 5 x i = v i := fun i hi => va_up_n _ _ hi
  have ws : segs (va_up v 5 x) = segs v := by unfold segs; rw [w 0 (by omega)]
  unfold hP
  rw [ws, w 0 (by omega), w 1 (by omega), w 2 (by omega), w 3 (by omega), w 4 (by omega), w 6 (by omega), w 7 (by omega), w 8 (by omega), w 9 (by omega), w 10 (by omega), va_up_s, va_up_s]
  rw [e 1 (by omega), e 2 (by omega), e 3 (by omega), e 4 (by omega), e 5 (by omega), e 6 (by omega), e 7 (by omega), e 8 (by omega), e 9 (by omega), e 10 (by omega)]
  rw [va_up_s, va_up_n _ _ (show 0 ≠ 1 by decide), va_up_n _ _ (show 2 ≠ 1 by decide), va_up_n _ _ (show 3 ≠ 1 by decide)]
  refine ⟨⟨a0, rfl, a2, a3⟩, ⟨b1, b3, b5, b7⟩, ?_, ?_, ?_, ?_, ?_, ⟨t0, t1, t2, t3⟩⟩
  · intro r c h0 h1 h2 h3
    rw [gS_o (by omega) h0 (by omega) h2 (by omega)]
    exact pS r c h0 h1 h2 h3
  · intro r c h0 h1 h2 h3
    rw [gP_o (by omega) h0 (by omega) h2 (by omega)]
    exact pP r c h0 h1 h2 h3
  · intro r c h0 h1 h2 h3
    rw [gH_o (by omega) h0 (by omega) h2 (by omega)]
    exact pH r c h0 h1 h2 h3
  · intro r h0 h1
    rw [gH_o (by omega) h0 (by omega) (by omega) (by omega)]
    exact pO r h0 h1
  · intro r c h0 h1 h2 h3
    rw [gN_o (by omega) h0 (by omega) h2 (by omega)]
    exact pN r c h0 h1 h2 h3
theorem u6 {z : eg_Z} {b : Nat} {v : eg_v} {B x : Int} (hv : VV B v) (hp : hP z b v) : hP (va_up z b (va_up (z b) 2 x)) b (va_up v 6 x) := by
  have q := hv.r
  obtain ⟨⟨a0, a1, a2, a3⟩, ⟨b1, b3, b5, b7⟩, pS, pP, pH, pO, pN, t0, t1, t2, t3⟩ := hp
  have e : ∀ j, 0 < j → va_up z b (va_up (z b) 2 x) (b + j) = z (b + j) := fun j hj => va_up_n _ _ (by omega)
  have w : ∀ i, i ≠ 6 → va_up v 6 x i = v i := fun i hi => va_up_n _ _ hi
  have ws : segs (va_up v 6 x) = segs v := by unfold segs; rw [w 0 (by omega)]
  unfold hP
  rw [ws, w 0 (by omega), w 1 (by omega), w 2 (by omega), w 3 (by omega), w 4 (by omega), w 5 (by omega), w 7 (by omega), w 8 (by omega), w 9 (by omega), w 10 (by omega), va_up_s, va_up_s]
  rw [e 1 (by omega), e 2 (by omega), e 3 (by omega), e 4 (by omega), e 5 (by omega), e 6 (by omega), e 7 (by omega), e 8 (by omega), e 9 (by omega), e 10 (by omega)]
  rw [va_up_s, va_up_n _ _ (show 0 ≠ 2 by decide), va_up_n _ _ (show 1 ≠ 2 by decide), va_up_n _ _ (show 3 ≠ 2 by decide)]
  refine ⟨⟨a0, a1, rfl, a3⟩, ⟨b1, b3, b5, b7⟩, ?_, ?_, ?_, ?_, ?_, ⟨t0, t1, t2, t3⟩⟩
  · intro r c h0 h1 h2 h3
    rw [gS_o (by omega) h0 (by omega) h2 (by omega)]
    exact pS r c h0 h1 h2 h3
  · intro r c h0 h1 h2 h3
    rw [gP_o (by omega) h0 (by omega) h2 (by omega)]
    exact pP r c h0 h1 h2 h3
  · intro r c h0 h1 h2 h3
    rw [gH_o (by omega) h0 (by omega) h2 (by omega)]
    exact pH r c h0 h1 h2 h3
  · intro r h0 h1
    rw [gH_o (by omega) h0 (by omega) (by omega) (by omega)]
    exact pO r h0 h1
  · intro r c h0 h1 h2 h3
    rw [gN_o (by omega) h0 (by omega) h2 (by omega)]
    exact pN r c h0 h1 h2 h3
theorem VV_P {v v' : eg_v} {B : Int} (hv : VV B v) (he : ∀ i, i ≠ 1 → i < 26 ∨ 66 ≤ i → v' i = v i) (hp : ∀ p c : Int, 0 ≤ p → p < v 1 → 0 ≤ c → c < 4 → gP v' p c = gP v p c) (h1 : v' 1 = v 1 + 1) (h10 : v 1 < 10) (h0 : 2 ≤ v 0) (hn : okP v' (v 1)) : VV B v' := by
  have q := hv.r
  obtain ⟨r0, r1, r2, r3, r4, r5, r6, oS, oP, oH, oN⟩ := hv
  have e : ∀ i, i ≠ 1 → i < 12 → v' i = v i := fun i a b => he i a (by omega)
  unfold VV
  rw [e 0 (by decide) (by decide), h1, e 2 (by decide) (by decide), e 3 (by decide) (by decide), e 4 (by decide) (by decide), e 5 (by decide) (by decide), e 6 (by decide) (by decide)]
  refine ⟨Or.inr (by omega), by omega, r2, r3, r4, r5, r6, ?_, ?_, ?_, ?_⟩
  · intro i g0 g1
    have h := oS i g0 g1
    unfold okS at h ⊢
    rw [show gS v' i 0 = gS v i 0 from he _ (by omega) (by omega), show gS v' i 1 = gS v i 1 from he _ (by omega) (by omega)]
    exact h
  · intro p g0 g1
    by_cases c : p = v 1
    · rw [c]; exact hn
    · have h := oP p g0 (by omega)
      unfold okP at h ⊢
      rw [e 0 (by decide) (by decide), hp p 0 g0 (by omega) (by omega) (by omega), hp p 1 g0 (by omega) (by omega) (by omega), hp p 2 g0 (by omega) (by omega) (by omega), hp p 3 g0 (by omega) (by omega) (by omega)]
      exact h
  · intro s g0 g1
    have h := oH s g0 g1
    unfold okH at h ⊢
    rw [show gH v' s 0 = gH v s 0 from he _ (by omega) (by omega), show gH v' s 1 = gH v s 1 from he _ (by omega) (by omega), show gH v' s 2 = gH v s 2 from he _ (by omega) (by omega), show gH v' s 3 = gH v s 3 from he _ (by omega) (by omega), show gH v' s 4 = gH v s 4 from he _ (by omega) (by omega), show gH v' s 5 = gH v s 5 from he _ (by omega) (by omega)]
    exact h
  · intro x g0 g1
    have h := oN x g0 g1
    unfold okN isIn isOut at h ⊢
    rw [e 2 (by decide) (by decide), h1, show gN v' x 0 = gN v x 0 from he _ (by omega) (by omega), show gN v' x 1 = gN v x 1 from he _ (by omega) (by omega), show gN v' x 2 = gN v x 2 from he _ (by omega) (by omega), show gN v' x 3 = gN v x 3 from he _ (by omega) (by omega)]
    exact ⟨h.1, h.2.1.imp id (fun g => ⟨g.1, by omega, by rw [hp _ 1 g.1 g.2.1 (by omega) (by omega)]; exact g.2.2⟩), h.2.2.1.imp id (fun g => ⟨g.1, by omega, by rw [hp _ 1 g.1 g.2.1 (by omega) (by omega)]; exact g.2.2⟩), h.2.2.2⟩
theorem VV_Hh {v v' : eg_v} {B : Int} (hv : VV B v) (he : ∀ i, i ≠ 2 → i < 66 ∨ 108 ≤ i → v' i = v i) (hp : ∀ p c : Int, 0 ≤ p → p < v 2 → 0 ≤ c → c < 7 → gH v' p c = gH v p c) (h1 : v' 2 = v 2 + 1) (h10 : v 2 < 6) (h0 : 2 ≤ v 0) (hn : okH B v' (v 2)) : VV B v' := by
  have q := hv.r
  obtain ⟨r0, r1, r2, r3, r4, r5, r6, oS, oP, oH, oN⟩ := hv
  have e : ∀ i, i ≠ 2 → i < 12 → v' i = v i := fun i a b => he i a (by omega)
  unfold VV
  rw [e 0 (by decide) (by decide), h1, e 1 (by decide) (by decide), e 3 (by decide) (by decide), e 4 (by decide) (by decide), e 5 (by decide) (by decide), e 6 (by decide) (by decide)]
  refine ⟨Or.inr (by omega), r1, by omega, r3, r4, r5, r6, ?_, ?_, ?_, ?_⟩
  · intro i g0 g1
    have h := oS i g0 g1
    unfold okS at h ⊢
    rw [show gS v' i 0 = gS v i 0 from he _ (by omega) (by omega), show gS v' i 1 = gS v i 1 from he _ (by omega) (by omega)]
    exact h
  · intro p g0 g1
    have h := oP p g0 g1
    unfold okP at h ⊢
    rw [e 0 (by decide) (by decide), show gP v' p 0 = gP v p 0 from he _ (by omega) (by omega), show gP v' p 1 = gP v p 1 from he _ (by omega) (by omega), show gP v' p 2 = gP v p 2 from he _ (by omega) (by omega), show gP v' p 3 = gP v p 3 from he _ (by omega) (by omega)]
    exact h
  · intro s g0 g1
    by_cases c : s = v 2
    · rw [c]; exact hn
    · have h := oH s g0 (by omega)
      unfold okH at h ⊢
      rw [hp s 0 g0 (by omega) (by omega) (by omega), hp s 1 g0 (by omega) (by omega) (by omega), hp s 2 g0 (by omega) (by omega) (by omega), hp s 3 g0 (by omega) (by omega) (by omega), hp s 4 g0 (by omega) (by omega) (by omega), hp s 5 g0 (by omega) (by omega) (by omega)]
      exact h
  · intro x g0 g1
    have h := oN x g0 g1
    unfold okN isIn isOut at h ⊢
    rw [e 1 (by decide) (by decide), h1, show gN v' x 0 = gN v x 0 from he _ (by omega) (by omega), show gN v' x 1 = gN v x 1 from he _ (by omega) (by omega), show gN v' x 2 = gN v x 2 from he _ (by omega) (by omega), show gN v' x 3 = gN v x 3 from he _ (by omega) (by omega)]
    exact ⟨by omega, h.2.1.imp id (fun g => ⟨g.1, g.2.1, by rw [show gP v' (gN v x 1) 1 = gP v (gN v x 1) 1 from he _ (by omega) (by omega)]; exact g.2.2⟩), h.2.2.1.imp id (fun g => ⟨g.1, g.2.1, by rw [show gP v' (gN v x 2) 1 = gP v (gN v x 2) 1 from he _ (by omega) (by omega)]; exact g.2.2⟩), h.2.2.2⟩
theorem hP_P {z z' : eg_Z} {b : Nat} {v v' : eg_v} {B : Int} (hv : VV B v) (hp : hP z b v) (he : ∀ i, i ≠ 1 → i < 26 ∨ 66 ≤ i → v' i = v i) (h10 : v' 1 ≤ 10) (hz : ∀ j, j < 11 → j ≠ 3 → j ≠ 4 → z' (b + j) = z (b + j)) (h3 : z' (b + 3) 3 = v' 1) (h4 : ∀ q c : Int, 0 ≤ q → q < v' 1 → 0 ≤ c → c < 4 → z' (b + 4) (q * 4 + c).toNat = gP v' q c) : hP z' b v' := by
  have q := hv.r
  obtain ⟨⟨a0, a1, a2, a3⟩, ⟨b1, b3, b5, b7⟩, pS, pP, pH, pO, pN, t0, t1, t2, t3⟩ := hp
  have z0 := hz 0 (by decide) (by decide) (by decide)
  rw [Nat.add_zero] at z0
  have ws : segs v' = segs v := by unfold segs; rw [he 0 (by decide) (by omega)]
  unfold hP
  rw [ws, he 0 (by decide) (by omega), he 2 (by decide) (by omega), he 3 (by decide) (by omega), he 4 (by decide) (by omega), he 5 (by decide) (by omega), he 6 (by decide) (by omega), he 7 (by decide) (by omega), he 8 (by decide) (by omega), he 9 (by decide) (by omega), he 10 (by decide) (by omega), z0, hz 1 (by decide) (by decide) (by decide), hz 2 (by decide) (by decide) (by decide), hz 5 (by decide) (by decide) (by decide), hz 6 (by decide) (by decide) (by decide), hz 7 (by decide) (by decide) (by decide), hz 8 (by decide) (by decide) (by decide), hz 9 (by decide) (by decide) (by decide), hz 10 (by decide) (by decide) (by decide)]
  refine ⟨⟨a0, a1, a2, a3⟩, ⟨b1, h3, b5, b7⟩, ?_, h4, ?_, ?_, ?_, ⟨t0, t1, t2, t3⟩⟩
  · intro r c h0 h1 h2 h3
    rw [show gS v' r c = gS v r c from he _ (by omega) (by omega)]
    exact pS r c h0 h1 h2 h3
  · intro r c h0 h1 h2 h3
    rw [show gH v' r c = gH v r c from he _ (by omega) (by omega)]
    exact pH r c h0 h1 h2 h3
  · intro r h0 h1
    rw [show gH v' r 6 = gH v r 6 from he _ (by omega) (by omega)]
    exact pO r h0 h1
  · intro r c h0 h1 h2 h3
    rw [show gN v' r c = gN v r c from he _ (by omega) (by omega)]
    exact pN r c h0 h1 h2 h3
theorem hP_H {z z' : eg_Z} {b : Nat} {v v' : eg_v} {B : Int} (hv : VV B v) (hp : hP z b v) (he : ∀ i, i ≠ 2 → i < 66 ∨ 108 ≤ i → v' i = v i) (h10 : v' 2 ≤ 6) (hz : ∀ j, j < 11 → j ≠ 5 → j ≠ 6 → z' (b + j) = z (b + j)) (h3 : z' (b + 5) 3 = v' 2) (h4 : ∀ q c : Int, 0 ≤ q → q < v' 2 → 0 ≤ c → c < 6 → z' (b + 6) (q * 6 + c).toNat = gH v' q c) (ho : ∀ q : Int, 0 ≤ q → q < v' 2 → z (b + 9) q.toNat = gH v' q 6) : hP z' b v' := by
  have q := hv.r
  obtain ⟨⟨a0, a1, a2, a3⟩, ⟨b1, b3, b5, b7⟩, pS, pP, pH, pO, pN, t0, t1, t2, t3⟩ := hp
  have z0 := hz 0 (by decide) (by decide) (by decide)
  rw [Nat.add_zero] at z0
  have ws : segs v' = segs v := by unfold segs; rw [he 0 (by decide) (by omega)]
  unfold hP
  rw [ws, he 0 (by decide) (by omega), he 1 (by decide) (by omega), he 3 (by decide) (by omega), he 4 (by decide) (by omega), he 5 (by decide) (by omega), he 6 (by decide) (by omega), he 7 (by decide) (by omega), he 8 (by decide) (by omega), he 9 (by decide) (by omega), he 10 (by decide) (by omega), z0, hz 1 (by decide) (by decide) (by decide), hz 2 (by decide) (by decide) (by decide), hz 3 (by decide) (by decide) (by decide), hz 4 (by decide) (by decide) (by decide), hz 7 (by decide) (by decide) (by decide), hz 8 (by decide) (by decide) (by decide), hz 9 (by decide) (by decide) (by decide), hz 10 (by decide) (by decide) (by decide)]
  refine ⟨⟨a0, a1, a2, a3⟩, ⟨b1, b3, h3, b7⟩, ?_, ?_, h4, ho, ?_, ⟨t0, t1, t2, t3⟩⟩
  · intro r c h0 h1 h2 h3
    rw [show gS v' r c = gS v r c from he _ (by omega) (by omega)]
    exact pS r c h0 h1 h2 h3
  · intro r c h0 h1 h2 h3
    rw [show gP v' r c = gP v r c from he _ (by omega) (by omega)]
    exact pP r c h0 h1 h2 h3
  · intro r c h0 h1 h2 h3
    rw [show gN v' r c = gN v r c from he _ (by omega) (by omega)]
    exact pN r c h0 h1 h2 h3
/-- the new rows, in words -/
theorem ptV_o {v : eg_v} {h w c : Int} (h1 : 0 ≤ v 1 ∧ v 1 < 10) {i : Nat} (hi : i ≠ 1) (hj : (i : Int) < 26 + 4 * v 1 ∨ 26 + 4 * v 1 + 3 ≤ (i : Int)) : ptV v h w c i = v i := by
  unfold ptV
  rw [va_up_n _ _ hi, va_up_n _ _ (by omega), va_up_n _ _ (by omega), va_up_n _ _ (by omega)]
theorem ptV_1 {v : eg_v} {h w c : Int} : ptV v h w c 1 = v 1 + 1 := by unfold ptV; rw [va_up_s]
theorem ptV_g {v : eg_v} {h w c : Int} (h1 : 0 ≤ v 1 ∧ v 1 < 10) : gP (ptV v h w c) (v 1) 0 = h ∧ gP (ptV v h w c) (v 1) 1 = w ∧ gP (ptV v h w c) (v 1) 2 = c ∧ gP (ptV v h w c) (v 1) 3 = gP v (v 1) 3 := by
  refine ⟨?_, ?_, ?_, ptV_o h1 (by omega) (by omega)⟩
  · unfold gP ptV
    rw [va_up_n _ _ (by omega), va_up_n _ _ (by omega), va_up_n _ _ (by omega), Int.add_zero, va_up_s]
  · unfold gP ptV
    rw [va_up_n _ _ (by omega), va_up_n _ _ (by omega), va_up_s]
  · unfold gP ptV
    rw [va_up_n _ _ (by omega), va_up_s]
theorem shV_o {v : eg_v} {f r o l : Int} (h1 : 0 ≤ v 2 ∧ v 2 < 6) {i : Nat} (hi : i ≠ 2) (hj : (i : Int) < 66 + 7 * v 2 ∨ 66 + 7 * v 2 + 4 ≤ (i : Int)) : shV v f r o l i = v i := by
  unfold shV
  rw [va_up_n _ _ hi, va_up_n _ _ (by omega), va_up_n _ _ (by omega), va_up_n _ _ (by omega), va_up_n _ _ (by omega)]
theorem shV_2 {v : eg_v} {f r o l : Int} : shV v f r o l 2 = v 2 + 1 := by unfold shV; rw [va_up_s]
theorem shV_g {v : eg_v} {f r o l : Int} (h1 : 0 ≤ v 2 ∧ v 2 < 6) : gH (shV v f r o l) (v 2) 0 = f ∧ gH (shV v f r o l) (v 2) 1 = r ∧ gH (shV v f r o l) (v 2) 2 = o ∧ gH (shV v f r o l) (v 2) 3 = l := by
  refine ⟨?_, ?_, ?_, ?_⟩
  · unfold gH shV
    rw [va_up_n _ _ (by omega), va_up_n _ _ (by omega), va_up_n _ _ (by omega), va_up_n _ _ (by omega), va_up_s]
  · unfold gH shV
    rw [va_up_n _ _ (by omega), va_up_n _ _ (by omega), va_up_n _ _ (by omega), va_up_s]
  · unfold gH shV
    rw [va_up_n _ _ (by omega), va_up_n _ _ (by omega), va_up_s]
  · unfold gH shV
    rw [va_up_n _ _ (by omega), va_up_s]
theorem tv_pt {v : eg_v} {h w c : Int} (ht : tv v) (h1 : v 1 < 10) (hh : 0 ≤ h ∧ h < v 0) (hw : 0 ≤ w ∧ w ≤ 1) (hc : 0 ≤ c ∧ c ≤ 9999) : tv (ptV v h w c) := by
  obtain ⟨a, b, d, e, f, g, k⟩ := ht
  have q := a.r.2
  have z3 : gP v (v 1) 3 = 0 := g _ (by omega) (by omega)
  obtain ⟨p0, p1, p2, p3⟩ := ptV_g (v := v) (h := h) (w := w) (c := c) ⟨by omega, h1⟩
  have o : ∀ {i : Nat}, i ≠ 1 → ((i : Int) < 26 + 4 * v 1 ∨ 26 + 4 * v 1 + 3 ≤ (i : Int)) → ptV v h w c i = v i := fun a b => ptV_o ⟨by omega, h1⟩ a b
  refine ⟨VV_P a (fun i hi hj => o hi (by omega)) (fun p c0 g0 g1 g2 g3 => o (by omega) (by omega)) ptV_1 h1 b ?_, by rw [o (by decide) (by omega)]; exact b, by rw [o (by decide) (by omega)]; exact d, by rw [o (by decide) (by omega)]; exact e, fun i x y => by rw [o (by omega) (by omega)]; exact f i x y, fun i x y => ?_, fun i x y => ?_⟩
  · unfold okP
    rw [p0, p1, p2, p3, z3, o (i := 0) (by decide) (by omega)]
    omega
  · rw [ptV_1] at x
    rw [o (by omega) (by omega)]
    exact g i (by omega) y
  · rw [o (i := 2) (by decide) (by omega)] at x
    rw [o (by omega) (by omega)]
    exact k i x y
theorem tv_sh {v : eg_v} {f r o l : Int} (ht : tv v) (h1 : v 2 < 6) (hf : 0 ≤ f ∧ f ≤ 9999) (hr : 1 ≤ r ∧ r ≤ 9) (ho : 0 ≤ o ∧ o ≤ 9999) (hl : 0 ≤ l ∧ l ≤ 9999) : tv (shV v f r o l) := by
  obtain ⟨a, b, d, e, f9, g, k⟩ := ht
  have q := a.r.2
  have z4 : gH v (v 2) 4 = 0 := k _ (by omega) (by omega)
  have z5 : gH v (v 2) 5 = 0 := k _ (by omega) (by omega)
  obtain ⟨p0, p1, p2, p3⟩ := shV_g (v := v) (f := f) (r := r) (o := o) (l := l) ⟨by omega, h1⟩
  have oo : ∀ {i : Nat}, i ≠ 2 → ((i : Int) < 66 + 7 * v 2 ∨ 66 + 7 * v 2 + 4 ≤ (i : Int)) → shV v f r o l i = v i := fun a b => shV_o ⟨by omega, h1⟩ a b
  refine ⟨VV_Hh a (fun i hi hj => oo hi (by omega)) (fun p c0 g0 g1 g2 g3 => oo (by omega) (by omega)) shV_2 h1 b ?_, by rw [oo (by decide) (by omega)]; exact b, by rw [oo (by decide) (by omega)]; exact d, by rw [oo (by decide) (by omega)]; exact e, fun i x y => by rw [oo (by omega) (by omega)]; exact f9 i x y, fun i x y => ?_, fun i x y => ?_⟩
  · unfold okH
    rw [p0, p1, p2, p3, show gH (shV v f r o l) (v 2) 4 = gH v (v 2) 4 from oo (by omega) (by omega), show gH (shV v f r o l) (v 2) 5 = gH v (v 2) 5 from oo (by omega) (by omega), z4, z5]
    omega
  · rw [oo (i := 1) (by decide) (by omega)] at x
    rw [oo (by omega) (by omega)]
    exact g i x y
  · rw [shV_2] at x
    rw [oo (by omega) (by omega)]
    exact k i (by omega) y
theorem tv_e {v v' : eg_v} (ht : tv v) (hv : VV 0 v') (e : ∀ i, (i < 5 ∧ i ≠ 3) ∨ (7 ≤ i ∧ i < 12) ∨ (26 ≤ i ∧ i < 108) → v' i = v i) : tv v' := by
  obtain ⟨a, b, d, e9, f, g, k⟩ := ht
  refine ⟨hv, by rw [e 0 (by omega)]; exact b, by rw [e 4 (by omega)]; exact d, by rw [e 11 (by omega)]; exact e9, fun i x y => by rw [e i (by omega)]; exact f i x y, fun i x y => ?_, fun i x y => ?_⟩
  · rw [e 1 (by omega)] at x
    have := a.r.2
    rw [e i (by omega)]; exact g i x y
  · rw [e 2 (by omega)] at x
    have := a.r.2
    rw [e i (by omega)]; exact k i x y
theorem VV_s2 {v : eg_v} {B x c f : Int} (h : VV B v) (h0 : 0 ≤ x) (h1 : x < 7) (hc : 0 ≤ c ∧ c ≤ 9999) (hf : 0 ≤ f ∧ f ≤ 50) : VV B (va_up (va_up v (12 + 2 * x).toNat c) (12 + 2 * x + 1).toNat f) := by
  have o := h.S h0 h1
  unfold okS at o
  have a : VV B (va_up v (12 + 2 * x + 0).toNat c) := by
    refine k_S ⟨h0, h1⟩ ⟨by omega, by omega⟩ ?_ h (Int.le_refl _)
    unfold okS
    rw [gS_i h0 (by omega) (by omega) h0 (by omega) (by omega), if_pos (by omega), gS_i h0 (by omega) (by omega) h0 (by omega) (by omega), if_neg (by omega)]
    exact ⟨hc, o.2⟩
  rw [Int.add_zero] at a
  have o2 := a.S h0 h1
  unfold okS at o2
  refine k_S ⟨h0, h1⟩ ⟨by omega, by omega⟩ ?_ a (Int.le_refl _)
  unfold okS
  rw [gS_i h0 (by omega) (by omega) h0 (by omega) (by omega), if_neg (by omega), gS_i h0 (by omega) (by omega) h0 (by omega) (by omega), if_pos (by omega)]
  exact ⟨o2.1, hf⟩
theorem VV_add {v : eg_v} {B s f t x : Int} (h : VV B v) (h0 : 2 ≤ v 0) (h3 : v 3 < 16) (hs : 0 ≤ s ∧ s < v 2) (hf : f = -1 ∨ isIn v f) (ht : t = -1 ∨ isOut v t) (hft : f ≠ -1 ∨ t ≠ -1) (hx : 0 ≤ x ∧ x ≤ 9999) : VV B (addV v s f t x) := by
  have r := h.r
  have e : ∀ i, i ≠ 3 → i < 108 ∨ 172 ≤ i → addV v s f t x i = v i := fun i a b => addV_o ⟨by omega, by omega⟩ a b
  have w : ∀ i, i < 66 → i ≠ 3 → addV v s f t x i = v i := fun i a b => e i b (by omega)
  refine VV_N h e (by rw [addV_3]; omega) (by omega) (fun q g0 g1 => ?_)
  rw [addV_3] at g1
  unfold okN
  rw [addV_N (by omega) g0 (by omega) (by omega) (by omega), addV_N (by omega) g0 (by omega) (by omega) (by omega), addV_N (by omega) g0 (by omega) (by omega) (by omega), addV_N (by omega) g0 (by omega) (by omega) (by omega), w 2 (by omega) (by omega)]
  by_cases hq : q = v 3
  · rw [if_pos hq, if_pos hq, if_pos hq, if_pos hq, if_pos rfl, if_neg (by omega), if_pos rfl, if_neg (by omega), if_neg (by omega), if_pos rfl, if_neg (by omega), if_neg (by omega), if_neg (by omega)]
    exact ⟨hs, hf.imp id (isIn_e w (by omega)), ht.imp id (isOut_e w (by omega)), hft, hx⟩
  · rw [if_neg hq, if_neg hq, if_neg hq, if_neg hq]
    have o := h.N g0 (show q < v 3 by omega)
    unfold okN at o
    exact ⟨o.1, o.2.1.imp id (isIn_e w (by omega)), o.2.2.1.imp id (isOut_e w (by omega)), o.2.2.2.1, o.2.2.2.2⟩
