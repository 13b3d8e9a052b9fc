theorem PK_o {v : eg_v} {i : Nat} {x : Int} (hi : i < 66 ∨ 108 ≤ i) (h2 : i ≠ 2) (h6 : v 2 ≤ 6) (h : PK v) : PK (va_up v i x) := fun s h0 h1 => by
  rw [va_up_n _ _ (Ne.symm h2)] at h1
  rw [gH_o hi h0 (by omega) (by omega) (by omega), gH_o hi h0 (by omega) (by omega) (by omega)]
  exact h s h0 h1
theorem isIn_e {v v' : eg_v} (h : ∀ i, i < 66 → i ≠ 3 → v' i = v i) (h1 : v 1 ≤ 10) {p : Int} (hp : isIn v p) : isIn v' p := by
  obtain ⟨a, b, c⟩ := hp
  refine ⟨a, by rw [h 1 (by omega) (by omega)]; exact b, ?_⟩
  unfold gP at c ⊢
  rw [h _ (by omega) (by omega)]
  exact c
theorem isOut_e {v v' : eg_v} (h : ∀ i, i < 66 → i ≠ 3 → v' i = v i) (h1 : v 1 ≤ 10) {p : Int} (hp : isOut v p) : isOut v' p := by
  obtain ⟨a, b, c⟩ := hp
  refine ⟨a, by rw [h 1 (by omega) (by omega)]; exact b, ?_⟩
  unfold gP at c ⊢
  rw [h _ (by omega) (by omega)]
  exact c
theorem hL_u {z : eg_Z} {b : Nat} {v : eg_v} {i : Nat} {x : Int} (hi : i < 172) (h2 : i ≠ 2) (h4 : i ≠ 4) (h11 : i ≠ 11) (h : hL z b v) : hL z b (va_up v i x) := by
  unfold hL at h ⊢
  rw [va_up_n _ _ (Ne.symm h2), va_up_n _ _ (Ne.symm h4), va_up_n _ _ (Ne.symm h11)]
  refine ⟨fun j s g0 g1 g2 g3 g4 => ?_, h.2⟩
  rw [va_up_n _ _ (by omega)]
  exact h.1 j s g0 g1 g2 g3 g4
theorem hL_e {z : eg_Z} {b : Nat} {v v' : eg_v} (e : ∀ i, (i = 2 ∨ i = 4 ∨ i = 11 ∨ 172 ≤ i) → v' i = v i) (h : hL z b v) : hL z b v' := by
  unfold hL at h ⊢
  rw [e 2 (by omega), e 4 (by omega), e 11 (by omega)]
  refine ⟨fun j s g0 g1 g2 g3 g4 => ?_, h.2⟩
  rw [e _ (by omega)]
  exact h.1 j s g0 g1 g2 g3 g4
theorem okV_n {v : eg_v} {q x : Int} (h : okV v) (h0 : 0 ≤ q) (h1 : q < v 3) (hx : 0 ≤ x ∧ x ≤ 9999) : okV (va_up v (108 + 4 * q + 3).toNat x) := by
  have r := h.1.r.2
  have w : ∀ i, i < 66 → i ≠ 3 → va_up v (108 + 4 * q + 3).toNat x i = v i := fun i hi _ => va_up_n _ _ (by omega)
  refine ⟨k_N ⟨h0, h1⟩ ⟨by omega, by omega⟩ ?_ h.1 (Int.le_refl _), PK_o (by omega) (by omega) (by omega) h.2.1, by rw [w 4 (by omega) (by omega)]; exact h.2.2⟩
  have o := h.1.N h0 h1
  unfold okN at o ⊢
  rw [gN_i h0 (by omega) (by omega) h0 (by omega) (by omega), if_neg (by omega), gN_i h0 (by omega) (by omega) h0 (by omega) (by omega), if_neg (by omega), gN_i h0 (by omega) (by omega) h0 (by omega) (by omega), if_neg (by omega), gN_i h0 (by omega) (by omega) h0 (by omega) (by omega), if_pos (by omega), w 2 (by omega) (by omega)]
  exact ⟨o.1, o.2.1.imp id (isIn_e w (by omega)), o.2.2.1.imp id (isOut_e w (by omega)), o.2.2.2.1, hx⟩
theorem okV_p {v : eg_v} {p c x : Int} (h : okV v) (h0 : 0 ≤ p) (h1 : p < v 1) (hc : (c = 0 ∧ 0 ≤ x ∧ x < v 0) ∨ (c = 2 ∧ 0 ≤ x ∧ x ≤ 9999) ∨ (c = 3 ∧ -99 ≤ x ∧ x ≤ 99)) : okV (va_up v (26 + 4 * p + c).toNat x) := by
  have r := h.1.r.2
  have w : ∀ i, i < 26 → va_up v (26 + 4 * p + c).toNat x i = v i := fun i hi => va_up_n _ _ (by omega)
  have hc0 : 0 ≤ c ∧ c < 4 := by omega
  refine ⟨k_P ⟨h0, h1⟩ hc0 (by omega) ?_ h.1 (Int.le_refl _), PK_o (by omega) (by omega) (by omega) h.2.1, by rw [w 4 (by omega)]; exact h.2.2⟩
  have o := h.1.P h0 h1
  unfold okP at o ⊢
  rw [gP_i h0 hc0.1 hc0.2 h0 (by omega) (by omega), gP_i h0 hc0.1 hc0.2 h0 (by omega) (by omega), gP_i h0 hc0.1 hc0.2 h0 (by omega) (by omega), gP_i h0 hc0.1 hc0.2 h0 (by omega) (by omega), w 0 (by omega)]
  rcases hc with ⟨rfl, hc⟩ | ⟨rfl, hc⟩ | ⟨rfl, hc⟩
  · rw [if_pos (by omega), if_neg (by omega), if_neg (by omega), if_neg (by omega)]; exact ⟨hc, o.2.1, o.2.2.1, o.2.2.2⟩
  · rw [if_neg (by omega), if_neg (by omega), if_pos (by omega), if_neg (by omega)]; exact ⟨o.1, o.2.1, hc, o.2.2.2⟩
  · rw [if_neg (by omega), if_neg (by omega), if_neg (by omega), if_pos (by omega)]; exact ⟨o.1, o.2.1, o.2.2.1, hc⟩
theorem okV_s {v : eg_v} {i x : Int} (h : okV v) (h0 : 0 ≤ i) (h1 : i < 7) (hx : 0 ≤ x ∧ x ≤ 9999) : okV (va_up v (12 + 2 * i + 0).toNat x) := by
  have r := h.1.r.2
  refine ⟨k_S ⟨h0, h1⟩ ⟨by omega, by omega⟩ ?_ h.1 (Int.le_refl _), PK_o (by omega) (by omega) (by omega) h.2.1, by rw [va_up_n _ _ (by omega)]; exact h.2.2⟩
  have o := h.1.S h0 h1
  unfold okS at o ⊢
  rw [gS_i h0 (by omega) (by omega) h0 (by omega) (by omega), if_pos (by omega), gS_i h0 (by omega) (by omega) h0 (by omega) (by omega), if_neg (by omega)]
  exact ⟨hx, o.2⟩
/-- a shipper's number becomes another -/
theorem okV_h {v : eg_v} {B s c x : Int} (h : VV B v) (hk : PK v) (h0 : 0 ≤ s) (h1 : s < v 2) (hc : 0 ≤ c ∧ c < 6) (hx : (c = 0 ∨ c = 2 ∨ c = 3) → 0 ≤ x ∧ x ≤ 9999) (hr : c = 1 → 1 ≤ x ∧ x ≤ 9) (hb : c = 4 ∨ c = 5 → -B ≤ x ∧ x ≤ B) (hl : c = 3 → -x ≤ gH v s 5 ∧ gH v s 5 ≤ x) (hp : c = 5 → -gH v s 3 ≤ x ∧ x ≤ gH v s 3) : VV B (va_up v (66 + 7 * s + c).toNat x) ∧ PK (va_up v (66 + 7 * s + c).toNat x) := by
  have r := h.r.2
  have o := h.H h0 h1
  unfold okH at o
  constructor
  · refine k_H ⟨h0, h1⟩ ⟨by omega, by omega⟩ ?_ h (Int.le_refl _)
    unfold okH
    rw [gH_i h0 hc.1 (by omega) h0 (by omega) (by omega), gH_i h0 hc.1 (by omega) h0 (by omega) (by omega), gH_i h0 hc.1 (by omega) h0 (by omega) (by omega), gH_i h0 hc.1 (by omega) h0 (by omega) (by omega), gH_i h0 hc.1 (by omega) h0 (by omega) (by omega), gH_i h0 hc.1 (by omega) h0 (by omega) (by omega)]
    refine ⟨?_, ?_, ?_, ?_, ?_, ?_⟩ <;> split <;> omega
  · intro t g0 g1
    rw [va_up_n _ _ (by omega)] at g1
    have k := hk t g0 g1
    rw [gH_i h0 hc.1 (by omega) g0 (by omega) (by omega), gH_i h0 hc.1 (by omega) g0 (by omega) (by omega)]
    by_cases e : t = s
    · subst e
      by_cases e3 : c = 3
      · subst e3; rw [if_pos (by omega), if_neg (by omega)]; exact hl rfl
      · by_cases e5 : c = 5
        · subst e5; rw [if_neg (by omega), if_pos (by omega)]; exact hp rfl
        · rw [if_neg (by omega), if_neg (by omega)]; exact k
    · rw [if_neg (by omega), if_neg (by omega)]; exact k
theorem okV_add {v : eg_v} {s f t x : Int} (h : okV v) (h3 : v 3 < 16) (hs : 0 ≤ s ∧ s < v 2) (hf : f = -1 ∨ isIn v f) (ht : t = -1 ∨ isOut v t) (hft : f ≠ -1 ∨ t ≠ -1) (hx : 0 ≤ x ∧ x ≤ 9999) : okV (addV v s f t x) := by
  have r := h.1.r
  have e : ∀ i, i ≠ 3 → i < 108 ∨ 172 ≤ i → addV v s f t x i = v i := fun i a b => addV_o ⟨by omega, by omega⟩ a b
  have w : ∀ i, i < 66 → i ≠ 3 → addV v s f t x i = v i := fun i a b => e i b (by omega)
  refine ⟨VV_N h.1 e (by rw [addV_3]; omega) (by omega) (fun q h0 h1 => ?_), fun u h0 h1 => ?_, by rw [e 4 (by omega) (by omega)]; exact h.2.2⟩
  · rw [addV_3] at h1
    unfold okN
    rw [addV_N (by omega) h0 (by omega) (by omega) (by omega), addV_N (by omega) h0 (by omega) (by omega) (by omega), addV_N (by omega) h0 (by omega) (by omega) (by omega), addV_N (by omega) h0 (by omega) (by omega) (by omega), w 2 (by omega) (by omega)]
    by_cases hq : q = v 3
    · rw [if_pos hq, if_pos hq, if_pos hq, if_pos hq, if_pos rfl, if_neg (by omega), if_pos rfl, if_neg (by omega), if_neg (by omega), if_pos rfl, if_neg (by omega), if_neg (by omega), if_neg (by omega)]
      exact ⟨hs, hf.imp id (isIn_e w (by omega)), ht.imp id (isOut_e w (by omega)), hft, hx⟩
    · rw [if_neg hq, if_neg hq, if_neg hq, if_neg hq]
      have o := h.1.N h0 (show q < v 3 by omega)
      unfold okN at o
      exact ⟨o.1, o.2.1.imp id (isIn_e w (by omega)), o.2.2.1.imp id (isOut_e w (by omega)), o.2.2.2.1, o.2.2.2.2⟩
  · rw [e 2 (by omega) (by omega)] at h1
    rw [gH_e e h0 (by omega) (by omega) (by omega), gH_e e h0 (by omega) (by omega) (by omega)]
    exact h.2.1 u h0 h1
theorem okV_rem {v : eg_v} {k : Int} (h : okV v) (h0 : 0 ≤ k) (h1 : k < v 3) : okV (remV v k) := by
  have r := h.1.r
  have e : ∀ i, i ≠ 3 → i < 108 ∨ 172 ≤ i → remV v k i = v i := fun i a b => remV_o a b
  have w : ∀ i, i < 66 → i ≠ 3 → remV v k i = v i := fun i a b => e i b (by omega)
  refine ⟨VV_N h.1 e (by rw [remV_3]; omega) (by omega) (fun q g0 g1 => ?_), fun u g0 g1 => ?_, by rw [e 4 (by omega) (by omega)]; exact h.2.2⟩
  · rw [remV_3] at g1
    unfold okN
    rw [remV_N (by omega) g0 g1 (by omega) (by omega), remV_N (by omega) g0 g1 (by omega) (by omega), remV_N (by omega) g0 g1 (by omega) (by omega), remV_N (by omega) g0 g1 (by omega) (by omega), w 2 (by omega) (by omega)]
    have o := h.1.N (q := if q < k then q else q + 1) (by split <;> omega) (by split <;> omega)
    unfold okN at o
    by_cases hq : q < k
    · rw [if_pos hq] at o
      rw [if_pos hq, if_pos hq, if_pos hq, if_pos hq]
      exact ⟨o.1, o.2.1.imp id (isIn_e w (by omega)), o.2.2.1.imp id (isOut_e w (by omega)), o.2.2.2.1, o.2.2.2.2⟩
    · rw [if_neg hq] at o
      rw [if_neg hq, if_neg hq, if_neg hq, if_neg hq]
      exact ⟨o.1, o.2.1.imp id (isIn_e w (by omega)), o.2.2.1.imp id (isOut_e w (by omega)), o.2.2.2.1, o.2.2.2.2⟩
  · rw [e 2 (by omega) (by omega)] at g1
    rw [gH_e e g0 (by omega) (by omega) (by omega), gH_e e g0 (by omega) (by omega) (by omega)]
    exact h.2.1 u g0 g1
/-- THE STATE of all: the pipe, how many states can come back, these, which shelves are kept, what they keep, the tape's length, its bytes -/
abbrev eg_S : Type := eg_v × Nat × (Nat → eg_v) × (Nat → Bool) × (Nat → eg_v) × Nat × (Nat → Int)
def kpB (f : Nat → Bool) : Int := (if f 0 = true then 1 else 0) + (if f 1 = true then 2 else 0)
def okT (L : Nat) (t : Nat → Int) : Prop := L ≤ 400 ∧ ∀ i, i < L → -128 ≤ t i ∧ t i < 128
def IC (z : eg_Z) (s : eg_S) : Prop := hV z 1 s.1 ∧ hH z s.2.1 s.2.2.1 ∧ (z 0 5 = kpB s.2.2.2.1 ∧ ∀ j, j < 2 → s.2.2.2.1 j = true → hV z (157 + 12 * j) (s.2.2.2.2.1 j)) ∧ (okT s.2.2.2.2.2.1 s.2.2.2.2.2.2 ∧ z 182 1 = (s.2.2.2.2.2.1 : Int) ∧ ∀ i, i < s.2.2.2.2.2.1 → z 183 i = s.2.2.2.2.2.2 i)
/-- the frame of a call of the class -/
def FC (z z' : eg_Z) : Prop := ∀ c : Nat, ((196 ≤ c ∧ c < 199) ∨ 202 ≤ c) → z' c = z c
theorem FC.rf {z : eg_Z} : FC z z := fun _ _ => rfl
/-- only what every call makes anew has changed -/
def Fr (z z' : eg_Z) : Prop := ∀ c : Nat, (c < 13 ∨ (34 ≤ c ∧ c < 181) ∨ c = 182 ∨ c = 183 ∨ (196 ≤ c ∧ c < 199) ∨ 202 ≤ c) → z' c = z c
theorem Fr.rf {z : eg_Z} : Fr z z := fun _ _ => rfl
theorem Fr.tr {z z' z'' : eg_Z} (h : Fr z z') (h' : Fr z' z'') : Fr z z'' := fun c hc => (h' c hc).trans (h c hc)
theorem Fr.s {z z' : eg_Z} (h : MdS z z') : Fr z z' := fun c hc => h c (by omega)
theorem Fr.t {z z' : eg_Z} (h : Md z z' 13) : Fr z z' := fun c hc => h c (by omega)
theorem Fr.fc {z z' : eg_Z} (h : Fr z z') : FC z z' := fun c hc => h c (by omega)
theorem Fr.ic {z z' : eg_Z} {s : eg_S} (h : Fr z z') (hI : IC z s) : IC z' s := by
  obtain ⟨a, b, ⟨c1, c2⟩, d1, d2, d3⟩ := hI
  refine ⟨hV_c (fun j hj => h _ (by omega)) a, hH_c b (fun c h1 h2 => h c (by omega)), ⟨by rw [h 0 (by omega)]; exact c1, fun j hj hk => hV_c (fun i hi => h _ (by omega)) (c2 j hj hk)⟩, d1, by rw [h 182 (by omega)]; exact d2, fun i hi => by rw [h 183 (by omega)]; exact d3 i hi⟩
def puS (s : eg_S) (v : eg_v) : eg_S := (v, puD s.2.1, puP s.2.1 s.2.2.1 s.1, s.2.2.2)
theorem IC.push {z y w : eg_Z} {s : eg_S} {v : eg_v} (hI : IC z s) (h1 : ∀ c, (c < 34 ∨ 156 ≤ c) → y c = z c) (h2 : hH y (puD s.2.1) (puP s.2.1 s.2.2.1 s.1)) (h3 : Md y w 1) (h4 : hV w 1 v) : FC z w ∧ IC w (puS s v) := by
  obtain ⟨a, b, ⟨c1, c2⟩, d1, d2, d3⟩ := hI
  have e : ∀ c, (c = 0 ∨ 156 ≤ c) → w c = z c := fun c hc => (h3 c (by omega)).trans (h1 c (by omega))
  refine ⟨fun c hc => e c (by omega), h4, hH_c h2 (fun c g1 g2 => h3 c (by omega)), ⟨by rw [e 0 (by omega)]; exact c1, fun j hj hk => hV_c (fun i hi => e _ (by omega)) (c2 j hj hk)⟩, d1, by rw [e 182 (by omega)]; exact d2, fun i hi => by rw [e 183 (by omega)]; exact d3 i hi⟩
theorem bi_d {p : Prop} [Decidable p] : bi (decide p = true) = bi p := by unfold bi; by_cases h : p <;> simp [h]
