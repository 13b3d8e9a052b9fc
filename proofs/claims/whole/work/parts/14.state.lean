/-- a pipe's twelve cells, by their offset from its first -/
def shP (k : eg_K) (b j : Nat) (f : Nat → Int) : va_E := match j with
  | 0 => oO 3 [vI (f 0), vI (f 1), vI (f 2), vI (f 3), vR k (b + 1), vR k (b + 3), vR k (b + 5), vR k (b + 7), vR k (b + 9), vR k (b + 10), vR k (b + 11)]
  | 1 => oO 6 [vI 2, vI 7, vR k (b + 2), vI (f 3)]
  | 2 => aI k 14 f
  | 3 => oO 6 [vI 4, vI 10, vR k (b + 4), vI (f 3)]
  | 4 => aI k 40 f
  | 5 => oO 6 [vI 6, vI 6, vR k (b + 6), vI (f 3)]
  | 6 => aI k 36 f
  | 7 => oO 6 [vI 4, vI 16, vR k (b + 8), vI (f 3)]
  | 8 => aI k 64 f
  | 9 => aL k 6 f
  | 10 => aL k 4 f
  | _ => aI k 48 f
/-- the first cell of the pipe that a cell belongs to -/
def pbs (c : Nat) : Option Nat := if 1 ≤ c ∧ c < 25 then some (1 + 12 * ((c - 1) / 12)) else if 36 ≤ c ∧ c < 156 then some (36 + 12 * ((c - 36) / 12)) else if 157 ≤ c ∧ c < 181 then some (157 + 12 * ((c - 157) / 12)) else if 184 ≤ c ∧ c < 196 then some 184 else none
/-- the pipes' first cells: pipe 1, trial 13, ring 36 + 12 i, shelves 157, 169, the reader's 184 -/
def isB (b : Nat) : Bool := decide (pbs b = some b)
def ringf (j : Nat) : Option Nat := some (36 + 12 * j)
def shlf (j : Nat) : Option Nat := some (157 + 12 * j)
def shO (k : eg_K) (c : Nat) (f : Nat → Int) : Option va_E := match c with
  | 0 => some (oO 9 [vR k 1, vR k 13, vR k 25, vR k 34, vR k 156, vI (f 5), vR k 181, vR k 196, vR k 199])
  | 25 => some (oO 5 [vR k 26, vR k 27, vR k 28, vR k 29, vR k 30, vR k 31, vR k 32, vR k 33, vI (f 8)])
  | 26 => some (aI k 16 f)
  | 27 => some (aI k 16 f)
  | 28 => some (aI k 16 f)
  | 29 => some (aI k 46 f)
  | 30 => some (aI k 46 f)
  | 31 => some (aI k 16 f)
  | 32 => some (aI k 16 f)
  | 33 => some (aI k 16 f)
  | 34 => some (oO 1 [vR k 35, vI (f 1), vI (f 2)])
  | 35 => some (aP k 10 ringf)
  | 156 => some (aP k 2 shlf)
  | 181 => some (oO 4 [vR k 182, vR k 184, vI (f 2), vI (f 3), vI (f 4), vI (f 5)])
  | 182 => some (oO 7 [vR k 183, vI (f 1)])
  | 183 => some (aB k 400 f)
  | 196 => some (oO 8 [vR k 197])
  | 197 => some (oO 0 [vR k (f 0).toNat, vI 0, vI (f 2), vI (f 3)])
  | 199 => some (oO 2 [vR k 200, vR k 201, vI (f 2)])
  | 200 => some (aI k 6 f)
  | 201 => some (aI k 18 f)
  | 202 => some (oO 10 [vR k 203, vR k 204, vR k 205, vR k 206, vR k 207, vR k 208, vI (f 6), vR k 209, vI (f 8), vI (f 9), vI (f 10), vI (f 11), vR k 210, vR k 211, vR k 212, vR k 213, vR k 214, vR k 215, vI (f 18), vI (f 19), vI (f 20)])
  | 203 => some (aL k 220 f)
  | 204 => some (aL k 220 f)
  | 205 => some (aL k 220 f)
  | 206 => some (aL k 2200 f)
  | 207 => some (aL k 440 f)
  | 208 => some (aZ k 2 f)
  | 209 => some (aB k 400 f)
  | 210 => some (aI k 36 f)
  | 211 => some (aI k 16 f)
  | 212 => some (aI k 16 f)
  | 213 => some (aI k 16 f)
  | 214 => some (aI k 16 f)
  | 215 => some (aI k 16 f)
  | _ => none
def shA (k : eg_K) (c : Nat) (f : Nat → Int) : Option va_E := match pbs c with
  | some b => some (shP k b (c - b) f)
  | none => shO k c f
abbrev eg_Z : Type := Nat → Nat → Int
/-- THE MEMORY: the static cells hold z, the others X -/
def enc (k : eg_K) (z : eg_Z) (X : eg_M) : eg_M := fun c => match shA k c (z c) with
  | some e => some e
  | none => X c
theorem enc_at {k : eg_K} {z : eg_Z} {X : eg_M} {c : Nat} {e : va_E} (h : shA k c (z c) = some e) : enc k z X c = some e := by unfold enc; rw [h]
theorem enc_st {k : eg_K} {z : eg_Z} {X : eg_M} {c : Nat} (f : Nat → Int) {e : va_E} (h : shA k c f = some e) : va_up (enc k z X) c (some e) = enc k (va_up z c f) X := by
  funext q
  by_cases hq : q = c
  · subst hq
    have h1 : shA k q (va_up z q f q) = some e := by simp only [va_up, if_true]; exact h
    rw [enc_at h1]
    simp [va_up]
  · simp [va_up, hq, enc]
theorem pbs_b : ∀ b, b < 185 → isB b = true → ∀ j, j < 12 → pbs (b + j) = some b := by decide +kernel
theorem isB_lt {b : Nat} (h : isB b = true) : b < 185 := by
  have h1 := of_decide_eq_true h
  unfold pbs at h1
  split at h1
  · omega
  · split at h1
    · omega
    · split at h1
      · omega
      · split at h1
        · simp at h1; omega
        · cases h1
theorem shA_p {k : eg_K} {b j : Nat} {f : Nat → Int} (hb : isB b = true) (hj : j < 12) : shA k (b + j) f = some (shP k b j f) := by
  unfold shA
  rw [pbs_b b (isB_lt hb) hb j hj]
  show some (shP k b (b + j - b) f) = _
  rw [Nat.add_sub_cancel_left]
theorem ep0 {k : eg_K} {z : eg_Z} {X : eg_M} {b : Nat} (hb : isB b = true) : enc k z X b = some (oO 3 [vI (z b 0), vI (z b 1), vI (z b 2), vI (z b 3), vR k (b + 1), vR k (b + 3), vR k (b + 5), vR k (b + 7), vR k (b + 9), vR k (b + 10), vR k (b + 11)]) := enc_at (shA_p (j := 0) hb (by decide))
theorem es0_0 {k : eg_K} {z : eg_Z} {X : eg_M} {b : Nat} {x : Int} (hb : isB b = true) : va_up (enc k z X) b (some (oO 3 [vI x, vI (z b 1), vI (z b 2), vI (z b 3), vR k (b + 1), vR k (b + 3), vR k (b + 5), vR k (b + 7), vR k (b + 9), vR k (b + 10), vR k (b + 11)])) = enc k (va_up z b (va_up (z b) 0 x)) X := enc_st (va_up (z b) 0 x) (shA_p (j := 0) hb (by decide))
theorem es0_1 {k : eg_K} {z : eg_Z} {X : eg_M} {b : Nat} {x : Int} (hb : isB b = true) : va_up (enc k z X) b (some (oO 3 [vI (z b 0), vI x, vI (z b 2), vI (z b 3), vR k (b + 1), vR k (b + 3), vR k (b + 5), vR k (b + 7), vR k (b + 9), vR k (b + 10), vR k (b + 11)])) = enc k (va_up z b (va_up (z b) 1 x)) X := enc_st (va_up (z b) 1 x) (shA_p (j := 0) hb (by decide))
theorem es0_2 {k : eg_K} {z : eg_Z} {X : eg_M} {b : Nat} {x : Int} (hb : isB b = true) : va_up (enc k z X) b (some (oO 3 [vI (z b 0), vI (z b 1), vI x, vI (z b 3), vR k (b + 1), vR k (b + 3), vR k (b + 5), vR k (b + 7), vR k (b + 9), vR k (b + 10), vR k (b + 11)])) = enc k (va_up z b (va_up (z b) 2 x)) X := enc_st (va_up (z b) 2 x) (shA_p (j := 0) hb (by decide))
theorem es0_3 {k : eg_K} {z : eg_Z} {X : eg_M} {b : Nat} {x : Int} (hb : isB b = true) : va_up (enc k z X) b (some (oO 3 [vI (z b 0), vI (z b 1), vI (z b 2), vI x, vR k (b + 1), vR k (b + 3), vR k (b + 5), vR k (b + 7), vR k (b + 9), vR k (b + 10), vR k (b + 11)])) = enc k (va_up z b (va_up (z b) 3 x)) X := enc_st (va_up (z b) 3 x) (shA_p (j := 0) hb (by decide))
theorem ep1 {k : eg_K} {z : eg_Z} {X : eg_M} {b : Nat} (hb : isB b = true) : enc k z X (b + 1) = some (oO 6 [vI 2, vI 7, vR k (b + 2), vI (z (b + 1) 3)]) := enc_at (shA_p (j := 1) hb (by decide))
theorem es1 {k : eg_K} {z : eg_Z} {X : eg_M} {b : Nat} {x : Int} (hb : isB b = true) : va_up (enc k z X) (b + 1) (some (oO 6 [vI 2, vI 7, vR k (b + 2), vI x])) = enc k (va_up z (b + 1) (va_up (z (b + 1)) 3 x)) X := enc_st (va_up (z (b + 1)) 3 x) (shA_p (j := 1) hb (by decide))
theorem ep2 {k : eg_K} {z : eg_Z} {X : eg_M} {b : Nat} (hb : isB b = true) : enc k z X (b + 2) = some (aI k 14 (z (b + 2))) := enc_at (shA_p (j := 2) hb (by decide))
theorem es2 {k : eg_K} {z : eg_Z} {X : eg_M} {b : Nat} {f : Nat → Int} (hb : isB b = true) : va_up (enc k z X) (b + 2) (some (aI k 14 (f))) = enc k (va_up z (b + 2) f) X := enc_st f (shA_p (j := 2) hb (by decide))
theorem ep3 {k : eg_K} {z : eg_Z} {X : eg_M} {b : Nat} (hb : isB b = true) : enc k z X (b + 3) = some (oO 6 [vI 4, vI 10, vR k (b + 4), vI (z (b + 3) 3)]) := enc_at (shA_p (j := 3) hb (by decide))
theorem es3 {k : eg_K} {z : eg_Z} {X : eg_M} {b : Nat} {x : Int} (hb : isB b = true) : va_up (enc k z X) (b + 3) (some (oO 6 [vI 4, vI 10, vR k (b + 4), vI x])) = enc k (va_up z (b + 3) (va_up (z (b + 3)) 3 x)) X := enc_st (va_up (z (b + 3)) 3 x) (shA_p (j := 3) hb (by decide))
theorem ep4 {k : eg_K} {z : eg_Z} {X : eg_M} {b : Nat} (hb : isB b = true) : enc k z X (b + 4) = some (aI k 40 (z (b + 4))) := enc_at (shA_p (j := 4) hb (by decide))
theorem es4 {k : eg_K} {z : eg_Z} {X : eg_M} {b : Nat} {f : Nat → Int} (hb : isB b = true) : va_up (enc k z X) (b + 4) (some (aI k 40 (f))) = enc k (va_up z (b + 4) f) X := enc_st f (shA_p (j := 4) hb (by decide))
theorem ep5 {k : eg_K} {z : eg_Z} {X : eg_M} {b : Nat} (hb : isB b = true) : enc k z X (b + 5) = some (oO 6 [vI 6, vI 6, vR k (b + 6), vI (z (b + 5) 3)]) := enc_at (shA_p (j := 5) hb (by decide))
theorem es5 {k : eg_K} {z : eg_Z} {X : eg_M} {b : Nat} {x : Int} (hb : isB b = true) : va_up (enc k z X) (b + 5) (some (oO 6 [vI 6, vI 6, vR k (b + 6), vI x])) = enc k (va_up z (b + 5) (va_up (z (b + 5)) 3 x)) X := enc_st (va_up (z (b + 5)) 3 x) (shA_p (j := 5) hb (by decide))
theorem ep6 {k : eg_K} {z : eg_Z} {X : eg_M} {b : Nat} (hb : isB b = true) : enc k z X (b + 6) = some (aI k 36 (z (b + 6))) := enc_at (shA_p (j := 6) hb (by decide))
theorem es6 {k : eg_K} {z : eg_Z} {X : eg_M} {b : Nat} {f : Nat → Int} (hb : isB b = true) : va_up (enc k z X) (b + 6) (some (aI k 36 (f))) = enc k (va_up z (b + 6) f) X := enc_st f (shA_p (j := 6) hb (by decide))
theorem ep7 {k : eg_K} {z : eg_Z} {X : eg_M} {b : Nat} (hb : isB b = true) : enc k z X (b + 7) = some (oO 6 [vI 4, vI 16, vR k (b + 8), vI (z (b + 7) 3)]) := enc_at (shA_p (j := 7) hb (by decide))
theorem es7 {k : eg_K} {z : eg_Z} {X : eg_M} {b : Nat} {x : Int} (hb : isB b = true) : va_up (enc k z X) (b + 7) (some (oO 6 [vI 4, vI 16, vR k (b + 8), vI x])) = enc k (va_up z (b + 7) (va_up (z (b + 7)) 3 x)) X := enc_st (va_up (z (b + 7)) 3 x) (shA_p (j := 7) hb (by decide))
theorem ep8 {k : eg_K} {z : eg_Z} {X : eg_M} {b : Nat} (hb : isB b = true) : enc k z X (b + 8) = some (aI k 64 (z (b + 8))) := enc_at (shA_p (j := 8) hb (by decide))
theorem es8 {k : eg_K} {z : eg_Z} {X : eg_M} {b : Nat} {f : Nat → Int} (hb : isB b = true) : va_up (enc k z X) (b + 8) (some (aI k 64 (f))) = enc k (va_up z (b + 8) f) X := enc_st f (shA_p (j := 8) hb (by decide))
theorem ep9 {k : eg_K} {z : eg_Z} {X : eg_M} {b : Nat} (hb : isB b = true) : enc k z X (b + 9) = some (aL k 6 (z (b + 9))) := enc_at (shA_p (j := 9) hb (by decide))
theorem es9 {k : eg_K} {z : eg_Z} {X : eg_M} {b : Nat} {f : Nat → Int} (hb : isB b = true) : va_up (enc k z X) (b + 9) (some (aL k 6 (f))) = enc k (va_up z (b + 9) f) X := enc_st f (shA_p (j := 9) hb (by decide))
theorem ep10 {k : eg_K} {z : eg_Z} {X : eg_M} {b : Nat} (hb : isB b = true) : enc k z X (b + 10) = some (aL k 4 (z (b + 10))) := enc_at (shA_p (j := 10) hb (by decide))
theorem es10 {k : eg_K} {z : eg_Z} {X : eg_M} {b : Nat} {f : Nat → Int} (hb : isB b = true) : va_up (enc k z X) (b + 10) (some (aL k 4 (f))) = enc k (va_up z (b + 10) f) X := enc_st f (shA_p (j := 10) hb (by decide))
theorem ep11 {k : eg_K} {z : eg_Z} {X : eg_M} {b : Nat} (hb : isB b = true) : enc k z X (b + 11) = some (aI k 48 (z (b + 11))) := enc_at (shA_p (j := 11) hb (by decide))
theorem es11 {k : eg_K} {z : eg_Z} {X : eg_M} {b : Nat} {f : Nat → Int} (hb : isB b = true) : va_up (enc k z X) (b + 11) (some (aI k 48 (f))) = enc k (va_up z (b + 11) f) X := enc_st f (shA_p (j := 11) hb (by decide))
