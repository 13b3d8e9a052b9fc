theorem gS_o {v : eg_v} {i : Nat} {x : Int} {r c : Int} (hi : i < 12 ∨ 26 ≤ i) (h0 : 0 ≤ r) (h1 : r < 7) (h2 : 0 ≤ c) (h3 : c < 2) : gS (va_up v i x) r c = gS v r c := by
  unfold gS
  rw [va_up_n]
  omega
theorem gS_i {v : eg_v} {x : Int} {r c r' c' : Int} (h0 : 0 ≤ r) (h2 : 0 ≤ c) (h3 : c < 2) (h0' : 0 ≤ r') (h2' : 0 ≤ c') (h3' : c' < 2) : gS (va_up v (12 + 2 * r + c).toNat x) r' c' = if r' = r ∧ c' = c then x else gS v r' c' := by
  unfold gS
  by_cases h : r' = r ∧ c' = c
  · rw [if_pos h, h.1, h.2, va_up_s]
  · rw [if_neg h, va_up_n]
    omega
theorem gP_o {v : eg_v} {i : Nat} {x : Int} {r c : Int} (hi : i < 26 ∨ 66 ≤ i) (h0 : 0 ≤ r) (h1 : r < 10) (h2 : 0 ≤ c) (h3 : c < 4) : gP (va_up v i x) r c = gP v r c := by
  unfold gP
  rw [va_up_n]
  omega
theorem gP_i {v : eg_v} {x : Int} {r c r' c' : Int} (h0 : 0 ≤ r) (h2 : 0 ≤ c) (h3 : c < 4) (h0' : 0 ≤ r') (h2' : 0 ≤ c') (h3' : c' < 4) : gP (va_up v (26 + 4 * r + c).toNat x) r' c' = if r' = r ∧ c' = c then x else gP v r' c' := by
  unfold gP
  by_cases h : r' = r ∧ c' = c
  · rw [if_pos h, h.1, h.2, va_up_s]
  · rw [if_neg h, va_up_n]
    omega
theorem gH_o {v : eg_v} {i : Nat} {x : Int} {r c : Int} (hi : i < 66 ∨ 108 ≤ i) (h0 : 0 ≤ r) (h1 : r < 6) (h2 : 0 ≤ c) (h3 : c < 7) : gH (va_up v i x) r c = gH v r c := by
  unfold gH
  rw [va_up_n]
  omega
theorem gH_i {v : eg_v} {x : Int} {r c r' c' : Int} (h0 : 0 ≤ r) (h2 : 0 ≤ c) (h3 : c < 7) (h0' : 0 ≤ r') (h2' : 0 ≤ c') (h3' : c' < 7) : gH (va_up v (66 + 7 * r + c).toNat x) r' c' = if r' = r ∧ c' = c then x else gH v r' c' := by
  unfold gH
  by_cases h : r' = r ∧ c' = c
  · rw [if_pos h, h.1, h.2, va_up_s]
  · rw [if_neg h, va_up_n]
    omega
theorem gN_o {v : eg_v} {i : Nat} {x : Int} {r c : Int} (hi : i < 108 ∨ 172 ≤ i) (h0 : 0 ≤ r) (h1 : r < 16) (h2 : 0 ≤ c) (h3 : c < 4) : gN (va_up v i x) r c = gN v r c := by
  unfold gN
  rw [va_up_n]
  omega
theorem gN_i {v : eg_v} {x : Int} {r c r' c' : Int} (h0 : 0 ≤ r) (h2 : 0 ≤ c) (h3 : c < 4) (h0' : 0 ≤ r') (h2' : 0 ≤ c') (h3' : c' < 4) : gN (va_up v (108 + 4 * r + c).toNat x) r' c' = if r' = r ∧ c' = c then x else gN v r' c' := by
  unfold gN
  by_cases h : r' = r ∧ c' = c
  · rw [if_pos h, h.1, h.2, va_up_s]
  · rw [if_neg h, va_up_n]
    omega
theorem uS {z : eg_Z} {b : Nat} {v : eg_v} {B : Int} {s c0 x : Int} (hs : 0 ≤ s ∧ s < segs v) (hc : 0 ≤ c0 ∧ c0 < 2) (hv : VV B v) (hp : hP z b v) : hP (va_up z (b + 2) (va_up (z (b + 2)) (s * 2 + c0).toNat x)) b (va_up v (12 + 2 * s + c0).toNat x) := by
  have q := hv.r
  obtain ⟨⟨a0, a1, a2, a3⟩, ⟨b1, b3, b5, b7⟩, pS, pP, pH, pO, pN, t0, t1, t2, t3⟩ := hp
  have e : ∀ j, j ≠ 2 → va_up z (b + 2) (va_up (z (b + 2)) (s * 2 + c0).toNat x) (b + j) = z (b + j) := fun j hj => va_up_n _ _ (by omega)
  have e0 : va_up z (b + 2) (va_up (z (b + 2)) (s * 2 + c0).toNat x) b = z b := va_up_n _ _ (by omega)
  have w : ∀ i, i ≠ (12 + 2 * s + c0).toNat → va_up v (12 + 2 * s + c0).toNat x i = v i := fun i hi => va_up_n _ _ hi
  have ws : segs (va_up v (12 + 2 * s + c0).toNat x) = segs v := by unfold segs; rw [w 0 (by omega)]
  unfold hP
  rw [ws, w 0 (by omega), w 1 (by omega), w 2 (by omega), w 3 (by omega), w 4 (by omega), w 5 (by omega), w 6 (by omega), w 7 (by omega), w 8 (by omega), w 9 (by omega), w 10 (by omega), e0]
  rw [e 1 (by omega)]
  rw [e 3 (by omega)]
  rw [e 4 (by omega)]
  rw [e 5 (by omega)]
  rw [e 6 (by omega)]
  rw [e 7 (by omega)]
  rw [e 8 (by omega)]
  rw [e 9 (by omega)]
  rw [e 10 (by omega)]
  rw [va_up_s]
  refine ⟨⟨a0, a1, a2, a3⟩, ⟨b1, b3, b5, b7⟩, ?_, ?_, ?_, ?_, ?_, ?_⟩
  · intro r c h0 h1 h2 h3
    rw [gS_i hs.1 hc.1 (by omega) h0 h2 (by omega)]
    by_cases h : r = s ∧ c = c0
    · rw [if_pos h, h.1, h.2, va_up_s]
    · rw [if_neg h, va_up_n _ _ (by omega)]
      exact pS r c h0 h1 h2 h3
  · intro r c h0 h1 h2 h3
    rw [gP_o (by omega) h0 (by omega) h2 (by omega)]
    exact pP r c h0 h1 h2 h3
  · intro r c h0 h1 h2 h3
    rw [gH_o (by omega) h0 (by omega) h2 (by omega)]
    exact pH r c h0 h1 h2 h3
  · intro r h0 h1
    rw [gH_o (by omega) h0 (by omega) (by omega) (by omega)]
    exact pO r h0 h1
  · intro r c h0 h1 h2 h3
    rw [gN_o (by omega) h0 (by omega) h2 (by omega)]
    exact pN r c h0 h1 h2 h3
  · exact ⟨t0, t1, t2, t3⟩
theorem uP {z : eg_Z} {b : Nat} {v : eg_v} {B : Int} {s c0 x : Int} (hs : 0 ≤ s ∧ s < v 1) (hc : 0 ≤ c0 ∧ c0 < 4) (hv : VV B v) (hp : hP z b v) : hP (va_up z (b + 4) (va_up (z (b + 4)) (s * 4 + c0).toNat x)) b (va_up v (26 + 4 * s + c0).toNat x) := by
  have q := hv.r
  obtain ⟨⟨a0, a1, a2, a3⟩, ⟨b1, b3, b5, b7⟩, pS, pP, pH, pO, pN, t0, t1, t2, t3⟩ := hp
  have e : ∀ j, j ≠ 4 → va_up z (b + 4) (va_up (z (b + 4)) (s * 4 + c0).toNat x) (b + j) = z (b + j) := fun j hj => va_up_n _ _ (by omega)
  have e0 : va_up z (b + 4) (va_up (z (b + 4)) (s * 4 + c0).toNat x) b = z b := va_up_n _ _ (by omega)
  have w : ∀ i, i ≠ (26 + 4 * s + c0).toNat → va_up v (26 + 4 * s + c0).toNat x i = v i := fun i hi => va_up_n _ _ hi
  have ws : segs (va_up v (26 + 4 * s + c0).toNat x) = segs v := by unfold segs; rw [w 0 (by omega)]
  unfold hP
  rw [ws, w 0 (by omega), w 1 (by omega), w 2 (by omega), w 3 (by omega), w 4 (by omega), w 5 (by omega), w 6 (by omega), w 7 (by omega), w 8 (by omega), w 9 (by omega), w 10 (by omega), e0]
  rw [e 1 (by omega)]
  rw [e 2 (by omega)]
  rw [e 3 (by omega)]
  rw [e 5 (by omega)]
  rw [e 6 (by omega)]
  rw [e 7 (by omega)]
  rw [e 8 (by omega)]
  rw [e 9 (by omega)]
  rw [e 10 (by omega)]
  rw [va_up_s]
  refine ⟨⟨a0, a1, a2, a3⟩, ⟨b1, b3, b5, b7⟩, ?_, ?_, ?_, ?_, ?_, ?_⟩
  · intro r c h0 h1 h2 h3
    rw [gS_o (by omega) h0 (by omega) h2 (by omega)]
    exact pS r c h0 h1 h2 h3
  · intro r c h0 h1 h2 h3
    rw [gP_i hs.1 hc.1 (by omega) h0 h2 (by omega)]
    by_cases h : r = s ∧ c = c0
    · rw [if_pos h, h.1, h.2, va_up_s]
    · rw [if_neg h, va_up_n _ _ (by omega)]
      exact pP r c h0 h1 h2 h3
  · intro r c h0 h1 h2 h3
    rw [gH_o (by omega) h0 (by omega) h2 (by omega)]
    exact pH r c h0 h1 h2 h3
  · intro r h0 h1
    rw [gH_o (by omega) h0 (by omega) (by omega) (by omega)]
    exact pO r h0 h1
  · intro r c h0 h1 h2 h3
    rw [gN_o (by omega) h0 (by omega) h2 (by omega)]
    exact pN r c h0 h1 h2 h3
  · exact ⟨t0, t1, t2, t3⟩
theorem uH {z : eg_Z} {b : Nat} {v : eg_v} {B : Int} {s c0 x : Int} (hs : 0 ≤ s ∧ s < v 2) (hc : 0 ≤ c0 ∧ c0 < 6) (hv : VV B v) (hp : hP z b v) : hP (va_up z (b + 6) (va_up (z (b + 6)) (s * 6 + c0).toNat x)) b (va_up v (66 + 7 * s + c0).toNat x) := by
  have q := hv.r
  obtain ⟨⟨a0, a1, a2, a3⟩, ⟨b1, b3, b5, b7⟩, pS, pP, pH, pO, pN, t0, t1, t2, t3⟩ := hp
  have e : ∀ j, j ≠ 6 → va_up z (b + 6) (va_up (z (b + 6)) (s * 6 + c0).toNat x) (b + j) = z (b + j) := fun j hj => va_up_n _ _ (by omega)
  have e0 : va_up z (b + 6) (va_up (z (b + 6)) (s * 6 + c0).toNat x) b = z b := va_up_n _ _ (by omega)
  have w : ∀ i, i ≠ (66 + 7 * s + c0).toNat → va_up v (66 + 7 * s + c0).toNat x i = v i := fun i hi => va_up_n _ _ hi
  have ws : segs (va_up v (66 + 7 * s + c0).toNat x) = segs v := by unfold segs; rw [w 0 (by omega)]
  unfold hP
  rw [ws, w 0 (by omega), w 1 (by omega), w 2 (by omega), w 3 (by omega), w 4 (by omega), w 5 (by omega), w 6 (by omega), w 7 (by omega), w 8 (by omega), w 9 (by omega), w 10 (by omega), e0]
  rw [e 1 (by omega)]
  rw [e 2 (by omega)]
  rw [e 3 (by omega)]
  rw [e 4 (by omega)]
  rw [e 5 (by omega)]
  rw [e 7 (by omega)]
  rw [e 8 (by omega)]
  rw [e 9 (by omega)]
  rw [e 10 (by omega)]
  rw [va_up_s]
  refine ⟨⟨a0, a1, a2, a3⟩, ⟨b1, b3, b5, b7⟩, ?_, ?_, ?_, ?_, ?_, ?_⟩
  · intro r c h0 h1 h2 h3
    rw [gS_o (by omega) h0 (by omega) h2 (by omega)]
    exact pS r c h0 h1 h2 h3
  · intro r c h0 h1 h2 h3
    rw [gP_o (by omega) h0 (by omega) h2 (by omega)]
    exact pP r c h0 h1 h2 h3
  · intro r c h0 h1 h2 h3
    rw [gH_i hs.1 hc.1 (by omega) h0 h2 (by omega)]
    by_cases h : r = s ∧ c = c0
    · rw [if_pos h, h.1, h.2, va_up_s]
    · rw [if_neg h, va_up_n _ _ (by omega)]
      exact pH r c h0 h1 h2 h3
  · intro r h0 h1
    rw [gH_i hs.1 hc.1 (by omega) h0 (by omega) (by omega), if_neg (by omega)]
    exact pO r h0 h1
  · intro r c h0 h1 h2 h3
    rw [gN_o (by omega) h0 (by omega) h2 (by omega)]
    exact pN r c h0 h1 h2 h3
  · exact ⟨t0, t1, t2, t3⟩
theorem uN {z : eg_Z} {b : Nat} {v : eg_v} {B : Int} {s c0 x : Int} (hs : 0 ≤ s ∧ s < v 3) (hc : 0 ≤ c0 ∧ c0 < 4) (hv : VV B v) (hp : hP z b v) : hP (va_up z (b + 8) (va_up (z (b + 8)) (s * 4 + c0).toNat x)) b (va_up v (108 + 4 * s + c0).toNat x) := by
  have q := hv.r
  obtain ⟨⟨a0, a1, a2, a3⟩, ⟨b1, b3, b5, b7⟩, pS, pP, pH, pO, pN, t0, t1, t2, t3⟩ := hp
  have e : ∀ j, j ≠ 8 → va_up z (b + 8) (va_up (z (b + 8)) (s * 4 + c0).toNat x) (b + j) = z (b + j) := fun j hj => va_up_n _ _ (by omega)
  have e0 : va_up z (b + 8) (va_up (z (b + 8)) (s * 4 + c0).toNat x) b = z b := va_up_n _ _ (by omega)
  have w : ∀ i, i ≠ (108 + 4 * s + c0).toNat → va_up v (108 + 4 * s + c0).toNat x i = v i := fun i hi => va_up_n _ _ hi
  have ws : segs (va_up v (108 + 4 * s + c0).toNat x) = segs v := by unfold segs; rw [w 0 (by omega)]
  unfold hP
  rw [ws, w 0 (by omega), w 1 (by omega), w 2 (by omega), w 3 (by omega), w 4 (by omega), w 5 (by omega), w 6 (by omega), w 7 (by omega), w 8 (by omega), w 9 (by omega), w 10 (by omega), e0]
  rw [e 1 (by omega)]
  rw [e 2 (by omega)]
  rw [e 3 (by omega)]
  rw [e 4 (by omega)]
  rw [e 5 (by omega)]
  rw [e 6 (by omega)]
  rw [e 7 (by omega)]
  rw [e 9 (by omega)]
  rw [e 10 (by omega)]
  rw [va_up_s]
  refine ⟨⟨a0, a1, a2, a3⟩, ⟨b1, b3, b5, b7⟩, ?_, ?_, ?_, ?_, ?_, ?_⟩
  · intro r c h0 h1 h2 h3
    rw [gS_o (by omega) h0 (by omega) h2 (by omega)]
    exact pS r c h0 h1 h2 h3
  · intro r c h0 h1 h2 h3
    rw [gP_o (by omega) h0 (by omega) h2 (by omega)]
    exact pP r c h0 h1 h2 h3
  · intro r c h0 h1 h2 h3
    rw [gH_o (by omega) h0 (by omega) h2 (by omega)]
    exact pH r c h0 h1 h2 h3
  · intro r h0 h1
    rw [gH_o (by omega) h0 (by omega) (by omega) (by omega)]
    exact pO r h0 h1
  · intro r c h0 h1 h2 h3
    rw [gN_i hs.1 hc.1 (by omega) h0 h2 (by omega)]
    by_cases h : r = s ∧ c = c0
    · rw [if_pos h, h.1, h.2, va_up_s]
    · rw [if_neg h, va_up_n _ _ (by omega)]
      exact pN r c h0 h1 h2 h3
  · exact ⟨t0, t1, t2, t3⟩
theorem uO {z : eg_Z} {b : Nat} {v : eg_v} {B : Int} {s x : Int} (hs : 0 ≤ s ∧ s < v 2) (hv : VV B v) (hp : hP z b v) : hP (va_up z (b + 9) (va_up (z (b + 9)) s.toNat x)) b (va_up v (66 + 7 * s + 6).toNat x) := by
  have q := hv.r
  obtain ⟨⟨a0, a1, a2, a3⟩, ⟨b1, b3, b5, b7⟩, pS, pP, pH, pO, pN, t0, t1, t2, t3⟩ := hp
  have e : ∀ j, j ≠ 9 → va_up z (b + 9) (va_up (z (b + 9)) s.toNat x) (b + j) = z (b + j) := fun j hj => va_up_n _ _ (by omega)
  have e0 : va_up z (b + 9) (va_up (z (b + 9)) s.toNat x) b = z b := va_up_n _ _ (by omega)
  have w : ∀ i, i ≠ (66 + 7 * s + 6).toNat → va_up v (66 + 7 * s + 6).toNat x i = v i := fun i hi => va_up_n _ _ hi
  have ws : segs (va_up v (66 + 7 * s + 6).toNat x) = segs v := by unfold segs; rw [w 0 (by omega)]
  unfold hP
  rw [ws, w 0 (by omega), w 1 (by omega), w 2 (by omega), w 3 (by omega), w 4 (by omega), w 5 (by omega), w 6 (by omega), w 7 (by omega), w 8 (by omega), w 9 (by omega), w 10 (by omega), e0]
  rw [e 1 (by omega)]
  rw [e 2 (by omega)]
  rw [e 3 (by omega)]
  rw [e 4 (by omega)]
  rw [e 5 (by omega)]
  rw [e 6 (by omega)]
  rw [e 7 (by omega)]
  rw [e 8 (by omega)]
  rw [e 10 (by omega)]
  rw [va_up_s]
  refine ⟨⟨a0, a1, a2, a3⟩, ⟨b1, b3, b5, b7⟩, ?_, ?_, ?_, ?_, ?_, ?_⟩
  · intro r c h0 h1 h2 h3
    rw [gS_o (by omega) h0 (by omega) h2 (by omega)]
    exact pS r c h0 h1 h2 h3
  · intro r c h0 h1 h2 h3
    rw [gP_o (by omega) h0 (by omega) h2 (by omega)]
    exact pP r c h0 h1 h2 h3
  · intro r c h0 h1 h2 h3
    rw [gH_i hs.1 (by omega) (by omega) h0 h2 (by omega), if_neg (by omega)]
    exact pH r c h0 h1 h2 h3
  · intro r h0 h1
    rw [gH_i hs.1 (by omega) (by omega) h0 (by omega) (by omega)]
    by_cases h : r = s
    · subst h; rw [if_pos ⟨rfl, rfl⟩, va_up_s]
    · rw [if_neg (by omega), va_up_n _ _ (by omega)]
      exact pO r h0 h1
  · intro r c h0 h1 h2 h3
    rw [gN_o (by omega) h0 (by omega) h2 (by omega)]
    exact pN r c h0 h1 h2 h3
  · exact ⟨t0, t1, t2, t3⟩
theorem uT0 {z : eg_Z} {b : Nat} {v : eg_v} {B : Int} {x : Int} (hv : VV B v) (hp : hP z b v) : hP (va_up z (b + 10) (va_up (z (b + 10)) 0 x)) b (va_up v 7 x) := by
  have q := hv.r
  obtain ⟨⟨a0, a1, a2, a3⟩, ⟨b1, b3, b5, b7⟩, pS, pP, pH, pO, pN, t0, t1, t2, t3⟩ := hp
  have e : ∀ j, j ≠ 10 → va_up z (b + 10) (va_up (z (b + 10)) 0 x) (b + j) = z (b + j) := fun j hj => va_up_n _ _ (by omega)
  have e0 : va_up z (b + 10) (va_up (z (b + 10)) 0 x) b = z b := va_up_n _ _ (by omega)
  have w : ∀ i, i ≠ 7 → va_up v 7 x i = v i := fun i hi => va_up_n _ _ hi
  have ws : segs (va_up v 7 x) = segs v := by unfold segs; rw [w 0 (by omega)]
  unfold hP
  rw [ws, w 0 (by omega), w 1 (by omega), w 2 (by omega), w 3 (by omega), w 4 (by omega), w 5 (by omega), w 6 (by omega), e0]
  rw [e 1 (by omega)]
  rw [e 2 (by omega)]
  rw [e 3 (by omega)]
  rw [e 4 (by omega)]
  rw [e 5 (by omega)]
  rw [e 6 (by omega)]
  rw [e 7 (by omega)]
  rw [e 8 (by omega)]
  rw [e 9 (by omega)]
  rw [va_up_s]
  refine ⟨⟨a0, a1, a2, a3⟩, ⟨b1, b3, b5, b7⟩, ?_, ?_, ?_, ?_, ?_, ?_⟩
  · intro r c h0 h1 h2 h3
    rw [gS_o (by omega) h0 (by omega) h2 (by omega)]
    exact pS r c h0 h1 h2 h3
  · intro r c h0 h1 h2 h3
    rw [gP_o (by omega) h0 (by omega) h2 (by omega)]
    exact pP r c h0 h1 h2 h3
  · intro r c h0 h1 h2 h3
    rw [gH_o (by omega) h0 (by omega) h2 (by omega)]
    exact pH r c h0 h1 h2 h3
  · intro r h0 h1
    rw [gH_o (by omega) h0 (by omega) (by omega) (by omega)]
    exact pO r h0 h1
  · intro r c h0 h1 h2 h3
    rw [gN_o (by omega) h0 (by omega) h2 (by omega)]
    exact pN r c h0 h1 h2 h3
  · exact ⟨by rw [va_up_s, va_up_s], by rw [va_up_n _ _ (by omega), w 8 (by omega)]; exact t1, by rw [va_up_n _ _ (by omega), w 9 (by omega)]; exact t2, by rw [va_up_n _ _ (by omega), w 10 (by omega)]; exact t3⟩
theorem uT1 {z : eg_Z} {b : Nat} {v : eg_v} {B : Int} {x : Int} (hv : VV B v) (hp : hP z b v) : hP (va_up z (b + 10) (va_up (z (b + 10)) 1 x)) b (va_up v 8 x) := by
  have q := hv.r
  obtain ⟨⟨a0, a1, a2, a3⟩, ⟨b1, b3, b5, b7⟩, pS, pP, pH, pO, pN, t0, t1, t2, t3⟩ := hp
  have e : ∀ j, j ≠ 10 → va_up z (b + 10) (va_up (z (b + 10)) 1 x) (b + j) = z (b + j) := fun j hj => va_up_n _ _ (by omega)
  have e0 : va_up z (b + 10) (va_up (z (b + 10)) 1 x) b = z b := va_up_n _ _ (by omega)
  have w : ∀ i, i ≠ 8 → va_up v 8 x i = v i := fun i hi => va_up_n _ _ hi
  have ws : segs (va_up v 8 x) = segs v := by unfold segs; rw [w 0 (by omega)]
  unfold hP
  rw [ws, w 0 (by omega), w 1 (by omega), w 2 (by omega), w 3 (by omega), w 4 (by omega), w 5 (by omega), w 6 (by omega), e0]
  rw [e 1 (by omega)]
  rw [e 2 (by omega)]
  rw [e 3 (by omega)]
  rw [e 4 (by omega)]
  rw [e 5 (by omega)]
  rw [e 6 (by omega)]
  rw [e 7 (by omega)]
  rw [e 8 (by omega)]
  rw [e 9 (by omega)]
  rw [va_up_s]
  refine ⟨⟨a0, a1, a2, a3⟩, ⟨b1, b3, b5, b7⟩, ?_, ?_, ?_, ?_, ?_, ?_⟩
  · intro r c h0 h1 h2 h3
    rw [gS_o (by omega) h0 (by omega) h2 (by omega)]
    exact pS r c h0 h1 h2 h3
  · intro r c h0 h1 h2 h3
    rw [gP_o (by omega) h0 (by omega) h2 (by omega)]
    exact pP r c h0 h1 h2 h3
  · intro r c h0 h1 h2 h3
    rw [gH_o (by omega) h0 (by omega) h2 (by omega)]
    exact pH r c h0 h1 h2 h3
  · intro r h0 h1
    rw [gH_o (by omega) h0 (by omega) (by omega) (by omega)]
    exact pO r h0 h1
  · intro r c h0 h1 h2 h3
    rw [gN_o (by omega) h0 (by omega) h2 (by omega)]
    exact pN r c h0 h1 h2 h3
  · exact ⟨by rw [va_up_n _ _ (by omega), w 7 (by omega)]; exact t0, by rw [va_up_s, va_up_s], by rw [va_up_n _ _ (by omega), w 9 (by omega)]; exact t2, by rw [va_up_n _ _ (by omega), w 10 (by omega)]; exact t3⟩
theorem uT2 {z : eg_Z} {b : Nat} {v : eg_v} {B : Int} {x : Int} (hv : VV B v) (hp : hP z b v) : hP (va_up z (b + 10) (va_up (z (b + 10)) 2 x)) b (va_up v 9 x) := by
  have q := hv.r
  obtain ⟨⟨a0, a1, a2, a3⟩, ⟨b1, b3, b5, b7⟩, pS, pP, pH, pO, pN, t0, t1, t2, t3⟩ := hp
  have e : ∀ j, j ≠ 10 → va_up z (b + 10) (va_up (z (b + 10)) 2 x) (b + j) = z (b + j) := fun j hj => va_up_n _ _ (by omega)
  have e0 : va_up z (b + 10) (va_up (z (b + 10)) 2 x) b = z b := va_up_n _ _ (by omega)
  have w : ∀ i, i ≠ 9 → va_up v 9 x i = v i := fun i hi => va_up_n _ _ hi
  have ws : segs (va_up v 9 x) = segs v := by unfold segs; rw [w 0 (by omega)]
  unfold hP
  rw [ws, w 0 (by omega), w 1 (by omega), w 2 (by omega), w 3 (by omega), w 4 (by omega), w 5 (by omega), w 6 (by omega), e0]
  rw [e 1 (by omega)]
  rw [e 2 (by omega)]
  rw [e 3 (by omega)]
  rw [e 4 (by omega)]
  rw [e 5 (by omega)]
  rw [e 6 (by omega)]
  rw [e 7 (by omega)]
  rw [e 8 (by omega)]
  rw [e 9 (by omega)]
  rw [va_up_s]
  refine ⟨⟨a0, a1, a2, a3⟩, ⟨b1, b3, b5, b7⟩, ?_, ?_, ?_, ?_, ?_, ?_⟩
  · intro r c h0 h1 h2 h3
    rw [gS_o (by omega) h0 (by omega) h2 (by omega)]
    exact pS r c h0 h1 h2 h3
  · intro r c h0 h1 h2 h3
    rw [gP_o (by omega) h0 (by omega) h2 (by omega)]
    exact pP r c h0 h1 h2 h3
  · intro r c h0 h1 h2 h3
    rw [gH_o (by omega) h0 (by omega) h2 (by omega)]
    exact pH r c h0 h1 h2 h3
  · intro r h0 h1
    rw [gH_o (by omega) h0 (by omega) (by omega) (by omega)]
    exact pO r h0 h1
  · intro r c h0 h1 h2 h3
    rw [gN_o (by omega) h0 (by omega) h2 (by omega)]
    exact pN r c h0 h1 h2 h3
  · exact ⟨by rw [va_up_n _ _ (by omega), w 7 (by omega)]; exact t0, by rw [va_up_n _ _ (by omega), w 8 (by omega)]; exact t1, by rw [va_up_s, va_up_s], by rw [va_up_n _ _ (by omega), w 10 (by omega)]; exact t3⟩
theorem uT3 {z : eg_Z} {b : Nat} {v : eg_v} {B : Int} {x : Int} (hv : VV B v) (hp : hP z b v) : hP (va_up z (b + 10) (va_up (z (b + 10)) 3 x)) b (va_up v 10 x) := by
  have q := hv.r
  obtain ⟨⟨a0, a1, a2, a3⟩, ⟨b1, b3, b5, b7⟩, pS, pP, pH, pO, pN, t0, t1, t2, t3⟩ := hp
  have e : ∀ j, j ≠ 10 → va_up z (b + 10) (va_up (z (b + 10)) 3 x) (b + j) = z (b + j) := fun j hj => va_up_n _ _ (by omega)
  have e0 : va_up z (b + 10) (va_up (z (b + 10)) 3 x) b = z b := va_up_n _ _ (by omega)
  have w : ∀ i, i ≠ 10 → va_up v 10 x i = v i := fun i hi => va_up_n _ _ hi
  have ws : segs (va_up v 10 x) = segs v := by unfold segs; rw [w 0 (by omega)]
  unfold hP
  rw [ws, w 0 (by omega), w 1 (by omega), w 2 (by omega), w 3 (by omega), w 4 (by omega), w 5 (by omega), w 6 (by omega), e0]
  rw [e 1 (by omega)]
  rw [e 2 (by omega)]
  rw [e 3 (by omega)]
  rw [e 4 (by omega)]
  rw [e 5 (by omega)]
  rw [e 6 (by omega)]
  rw [e 7 (by omega)]
  rw [e 8 (by omega)]
  rw [e 9 (by omega)]
  rw [va_up_s]
  refine ⟨⟨a0, a1, a2, a3⟩, ⟨b1, b3, b5, b7⟩, ?_, ?_, ?_, ?_, ?_, ?_⟩
  · intro r c h0 h1 h2 h3
    rw [gS_o (by omega) h0 (by omega) h2 (by omega)]
    exact pS r c h0 h1 h2 h3
  · intro r c h0 h1 h2 h3
    rw [gP_o (by omega) h0 (by omega) h2 (by omega)]
    exact pP r c h0 h1 h2 h3
  · intro r c h0 h1 h2 h3
    rw [gH_o (by omega) h0 (by omega) h2 (by omega)]
    exact pH r c h0 h1 h2 h3
  · intro r h0 h1
    rw [gH_o (by omega) h0 (by omega) (by omega) (by omega)]
    exact pO r h0 h1
  · intro r c h0 h1 h2 h3
    rw [gN_o (by omega) h0 (by omega) h2 (by omega)]
    exact pN r c h0 h1 h2 h3
  · exact ⟨by rw [va_up_n _ _ (by omega), w 7 (by omega)]; exact t0, by rw [va_up_n _ _ (by omega), w 8 (by omega)]; exact t1, by rw [va_up_n _ _ (by omega), w 9 (by omega)]; exact t2, by rw [va_up_s, va_up_s]⟩
