/-! THE STATE: the row of 220 numbers that the reference keeps is the mathematical value; a pipe's twelve cells hold it (hP). -/
abbrev eg_v : Type := Nat → Int
def gS (v : eg_v) (i c : Int) : Int := v (12 + 2 * i + c).toNat
def gP (v : eg_v) (p c : Int) : Int := v (26 + 4 * p + c).toNat
def gH (v : eg_v) (s c : Int) : Int := v (66 + 7 * s + c).toNat
def gN (v : eg_v) (q c : Int) : Int := v (108 + 4 * q + c).toNat
def segs (v : eg_v) : Int := if v 0 = 0 then 0 else v 0 - 1
def okP (v : eg_v) (p : Int) : Prop := (0 ≤ gP v p 0 ∧ gP v p 0 < v 0) ∧ (0 ≤ gP v p 1 ∧ gP v p 1 ≤ 1) ∧ (0 ≤ gP v p 2 ∧ gP v p 2 ≤ 9999) ∧ (-99 ≤ gP v p 3 ∧ gP v p 3 ≤ 99)
def okS (v : eg_v) (i : Int) : Prop := (0 ≤ gS v i 0 ∧ gS v i 0 ≤ 9999) ∧ (0 ≤ gS v i 1 ∧ gS v i 1 ≤ 50)
def okH (B : Int) (v : eg_v) (s : Int) : Prop := (0 ≤ gH v s 0 ∧ gH v s 0 ≤ 9999) ∧ (1 ≤ gH v s 1 ∧ gH v s 1 ≤ 9) ∧ (0 ≤ gH v s 2 ∧ gH v s 2 ≤ 9999) ∧ (0 ≤ gH v s 3 ∧ gH v s 3 ≤ 9999) ∧ (-B ≤ gH v s 4 ∧ gH v s 4 ≤ B) ∧ (-B ≤ gH v s 5 ∧ gH v s 5 ≤ B)
/-- parked and lent within the limits -/
def PK (v : eg_v) : Prop := ∀ s : Int, 0 ≤ s → s < v 2 → -gH v s 3 ≤ gH v s 5 ∧ gH v s 5 ≤ gH v s 3
def isIn (v : eg_v) (p : Int) : Prop := 0 ≤ p ∧ p < v 1 ∧ gP v p 1 = 1
def isOut (v : eg_v) (p : Int) : Prop := 0 ≤ p ∧ p < v 1 ∧ gP v p 1 = 0
def okN (v : eg_v) (q : Int) : Prop := (0 ≤ gN v q 0 ∧ gN v q 0 < v 2) ∧ (gN v q 1 = -1 ∨ isIn v (gN v q 1)) ∧ (gN v q 2 = -1 ∨ isOut v (gN v q 2)) ∧ (gN v q 1 ≠ -1 ∨ gN v q 2 ≠ -1) ∧ (0 ≤ gN v q 3 ∧ gN v q 3 ≤ 9999)
/-- what every state keeps; B: how far balances may go -/
def VV (B : Int) (v : eg_v) : Prop :=
  ((v 0 = 0 ∧ v 1 = 0 ∧ v 2 = 0 ∧ v 3 = 0) ∨ (2 ≤ v 0 ∧ v 0 ≤ 8)) ∧ (0 ≤ v 1 ∧ v 1 ≤ 10) ∧ (0 ≤ v 2 ∧ v 2 ≤ 6) ∧ (0 ≤ v 3 ∧ v 3 ≤ 16) ∧ (0 ≤ v 4 ∧ v 4 ≤ 9999) ∧ (0 ≤ v 5 ∧ v 5 ≤ 999) ∧ (0 ≤ v 6 ∧ v 6 ≤ 100) ∧
  (∀ i : Int, 0 ≤ i → i < 7 → okS v i) ∧ (∀ p : Int, 0 ≤ p → p < v 1 → okP v p) ∧ (∀ s : Int, 0 ≤ s → s < v 2 → okH B v s) ∧ (∀ q : Int, 0 ≤ q → q < v 3 → okN v q)
/-- a pipe's cells from b on hold v (but for the log) -/
def hP (z : eg_Z) (b : Nat) (v : eg_v) : Prop :=
  (z b 0 = v 0 ∧ z b 1 = v 5 ∧ z b 2 = v 6 ∧ z b 3 = v 4) ∧ (z (b + 1) 3 = segs v ∧ z (b + 3) 3 = v 1 ∧ z (b + 5) 3 = v 2 ∧ z (b + 7) 3 = v 3) ∧
  (∀ i c : Int, 0 ≤ i → i < segs v → 0 ≤ c → c < 2 → z (b + 2) (i * 2 + c).toNat = gS v i c) ∧
  (∀ p c : Int, 0 ≤ p → p < v 1 → 0 ≤ c → c < 4 → z (b + 4) (p * 4 + c).toNat = gP v p c) ∧
  (∀ s c : Int, 0 ≤ s → s < v 2 → 0 ≤ c → c < 6 → z (b + 6) (s * 6 + c).toNat = gH v s c) ∧
  (∀ s : Int, 0 ≤ s → s < v 2 → z (b + 9) s.toNat = gH v s 6) ∧
  (∀ q c : Int, 0 ≤ q → q < v 3 → 0 ≤ c → c < 4 → z (b + 8) (q * 4 + c).toNat = gN v q c) ∧
  (z (b + 10) 0 = v 7 ∧ z (b + 10) 1 = v 8 ∧ z (b + 10) 2 = v 9 ∧ z (b + 10) 3 = v 10)
/-- its log -/
def hL (z : eg_Z) (b : Nat) (v : eg_v) : Prop := (∀ i s : Int, 0 ≤ i → i < 8 → i < v 4 → 0 ≤ s → s < v 2 → z (b + 11) (i * 6 + s).toNat = v (172 + 6 * i + s).toNat) ∧ v 11 = (if v 4 < 8 then v 4 else 8)
theorem VV.sgs {B : Int} {v : eg_v} (h : VV B v) : 0 ≤ segs v ∧ segs v ≤ 7 ∧ ((v 0 = 0 ∧ segs v = 0) ∨ (v 0 ≠ 0 ∧ segs v = v 0 - 1)) := by
  have h1 := h.1
  show 0 ≤ (if v 0 = 0 then 0 else v 0 - 1) ∧ (if v 0 = 0 then 0 else v 0 - 1) ≤ 7 ∧ ((v 0 = 0 ∧ (if v 0 = 0 then 0 else v 0 - 1) = 0) ∨ (v 0 ≠ 0 ∧ (if v 0 = 0 then 0 else v 0 - 1) = v 0 - 1))
  split <;> omega
