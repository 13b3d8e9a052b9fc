/-! WHAT A TAPE TELLS: the signs of a tape, runs of signs of a kind, numbers, parts; a fault is 8 place + kind -/
def tc (L : Nat) (t : Nat → Int) (i : Nat) : Int := if i < L then t i % 256 else -1
def rnF (P : Int → Bool) (L : Nat) (t : Nat → Int) : Nat → Nat → Nat
  | 0, i => i
  | m + 1, i => if P (tc L t i) = true then rnF P L t m (i + 1) else i
/-- behind the signs of a kind -/
def rn (P : Int → Bool) (L : Nat) (t : Nat → Int) (i : Nat) : Nat := rnF P L t (L - i) i
def bB (c : Int) : Bool := decide (c = 32)
def lB (c : Int) : Bool := decide (97 ≤ c ∧ c ≤ 122)
def dB (c : Int) : Bool := decide (48 ≤ c ∧ c ≤ 57)
theorem tc_b {L : Nat} {t : Nat → Int} {i : Nat} : -1 ≤ tc L t i ∧ tc L t i < 256 := by unfold tc; split <;> omega
theorem tc_o {L : Nat} {t : Nat → Int} {i : Nat} (h : L ≤ i) : tc L t i = -1 := by unfold tc; rw [if_neg (by omega)]
theorem tc_i {L : Nat} {t : Nat → Int} {i : Nat} (h : i < L) : tc L t i = t i % 256 := by unfold tc; rw [if_pos h]
theorem tc_n {L : Nat} {t : Nat → Int} {i : Nat} (h : tc L t i ≠ -1) : i < L := by
  by_cases e : i < L
  · exact e
  · exact absurd (tc_o (by omega)) h
theorem rn_y {P : Int → Bool} {L : Nat} {t : Nat → Int} {i : Nat} (hi : i < L) (h : P (tc L t i) = true) : rn P L t i = rn P L t (i + 1) := by
  unfold rn
  rw [show L - i = (L - (i + 1)) + 1 by omega]
  show (if P (tc L t i) = true then rnF P L t (L - (i + 1)) (i + 1) else i) = _
  rw [if_pos h]
theorem rn_n {P : Int → Bool} {L : Nat} {t : Nat → Int} {i : Nat} (h : i < L → ¬ P (tc L t i) = true) : rn P L t i = i := by
  unfold rn
  by_cases e : i < L
  · rw [show L - i = (L - (i + 1)) + 1 by omega]
    show (if P (tc L t i) = true then rnF P L t (L - (i + 1)) (i + 1) else i) = _
    rw [if_neg (h e)]
  · rw [show L - i = 0 by omega]; rfl
theorem rnF_b {P : Int → Bool} {L : Nat} {t : Nat → Int} : ∀ m i : Nat, i ≤ rnF P L t m i ∧ rnF P L t m i ≤ i + m
  | 0, i => ⟨Nat.le_refl _, Nat.le_refl _⟩
  | m + 1, i => by
    have ih := rnF_b (P := P) (L := L) (t := t) m (i + 1)
    unfold rnF
    split <;> omega
theorem rn_b {P : Int → Bool} {L : Nat} {t : Nat → Int} {i : Nat} (h : i ≤ L) : i ≤ rn P L t i ∧ rn P L t i ≤ L := by
  have := rnF_b (P := P) (L := L) (t := t) (L - i) i
  unfold rn
  omega
theorem rnF_c {P : Int → Bool} {L : Nat} {t u : Nat → Int} (h : ∀ j, j < L → t j = u j) : ∀ m i : Nat, rnF P L t m i = rnF P L u m i
  | 0, i => rfl
  | m + 1, i => by
    have e : tc L t i = tc L u i := by unfold tc; split; (rw [h i (by assumption)]); rfl
    unfold rnF
    rw [e, rnF_c h m (i + 1)]
/-- the number that digits spell -/
def evN (L : Nat) (t : Nat → Int) (a : Nat) : Nat → Int
  | 0 => 0
  | m + 1 => evN L t a m * 10 + (tc L t (a + m) - 48)
def sk (L : Nat) (t : Nat → Int) (i : Nat) : Nat := rn bB L t i
def we (L : Nat) (t : Nat → Int) (i : Nat) : Nat := rn lB L t (sk L t i)
def de (L : Nat) (t : Nat → Int) (i : Nat) : Nat := rn dB L t (sk L t i)
def nv (L : Nat) (t : Nat → Int) (i : Nat) : Int := evN L t (sk L t i) (de L t i - sk L t i)
/-- a number between lo and hi: a fault, or the place behind it and what it is -/
def nmR (L : Nat) (t : Nat → Int) (i : Nat) (lo hi : Int) : Int ⊕ (Nat × Int) :=
  if dB (tc L t (sk L t i)) = true then (if lo ≤ nv L t i ∧ nv L t i ≤ hi then .inr (de L t i, nv L t i) else .inl (8 * (sk L t i : Int) + 2)) else .inl (8 * (sk L t i : Int) + 1)
/-- whether a word stands there -/
def wis (L : Nat) (t : Nat → Int) (a e : Nat) (w : List Int) : Bool := decide (e = a + w.length) && (List.range w.length).all (fun j => decide (tc L t (a + j) = w.getD j 0))
theorem wis_y {L : Nat} {t : Nat → Int} {a e : Nat} {w : List Int} (h : e = a + w.length) (hj : ∀ j, j < w.length → tc L t (a + j) = w.getD j 0) : wis L t a e w = true := by
  unfold wis
  rw [Bool.and_eq_true]
  exact ⟨decide_eq_true h, List.all_eq_true.mpr (fun j hj2 => decide_eq_true (hj j (List.mem_range.mp hj2)))⟩
theorem wis_t {L : Nat} {t : Nat → Int} {a e : Nat} {w : List Int} (h : wis L t a e w = true) : e = a + w.length ∧ ∀ j, j < w.length → tc L t (a + j) = w.getD j 0 := by
  unfold wis at h
  rw [Bool.and_eq_true] at h
  exact ⟨of_decide_eq_true h.1, fun j hj => of_decide_eq_true (List.all_eq_true.mp h.2 j (List.mem_range.mpr hj))⟩
def bd {α β : Type} (x : Int ⊕ α) (f : α → Int ⊕ β) : Int ⊕ β := match x with
  | .inl e => .inl e
  | .inr a => f a
/-- the parts -/
def wSeg : List Int := eg_chs "segment"
def wIn : List Int := eg_chs "in"
def wOut : List Int := eg_chs "out"
def wShp : List Int := eg_chs "shipper"
def wNom : List Int := eg_chs "nom"
def wPrk : List Int := eg_chs "park"
def wLon : List Int := eg_chs "loan"
def wPrc : List Int := eg_chs "price"
def wHub : List Int := eg_chs "hubs"
def sgR (L : Nat) (t : Nat → Int) (i : Nat) (v : eg_v) : Int ⊕ (Nat × eg_v) :=
  bd (nmR L t i 0 (v 0 - 2)) (fun a => bd (nmR L t a.1 0 9999) (fun b => bd (nmR L t b.1 0 50) (fun c => .inr (c.1, va_up (va_up v (12 + 2 * a.2).toNat b.2) (12 + 2 * a.2 + 1).toNat c.2))))
def ptV (v : eg_v) (h w c : Int) : eg_v := va_up (va_up (va_up (va_up v (26 + 4 * v 1).toNat h) (26 + 4 * v 1 + 1).toNat w) (26 + 4 * v 1 + 2).toNat c) 1 (v 1 + 1)
def ptR (L : Nat) (t : Nat → Int) (i : Nat) (v : eg_v) (w : Int) : Int ⊕ (Nat × eg_v) :=
  bd (nmR L t i 0 (v 0 - 1)) (fun a => bd (nmR L t a.1 0 9999) (fun b => .inr (b.1, ptV v a.2 w b.2)))
def shV (v : eg_v) (f r o l : Int) : eg_v := va_up (va_up (va_up (va_up (va_up v (66 + 7 * v 2 + 0).toNat f) (66 + 7 * v 2 + 1).toNat r) (66 + 7 * v 2 + 2).toNat o) (66 + 7 * v 2 + 3).toNat l) 2 (v 2 + 1)
def shR_ (L : Nat) (t : Nat → Int) (i : Nat) (v : eg_v) : Int ⊕ (Nat × eg_v) :=
  bd (nmR L t i 0 9999) (fun a => bd (nmR L t a.1 1 9) (fun b => bd (nmR L t b.1 0 9999) (fun c => bd (nmR L t c.1 0 9999) (fun d => .inr (d.1, shV v a.2 b.2 c.2 d.2)))))
/-- a point that gas comes in by (w = 1) or goes out by (w = 0) -/
def poR (L : Nat) (t : Nat → Int) (i : Nat) (v : eg_v) (w : Int) : Int ⊕ (Nat × Int) :=
  bd (nmR L t i 0 (v 1 - 1)) (fun a => if gP v a.2 1 = w then .inr a else .inl (8 * (sk L t i : Int) + 2))
def noR (L : Nat) (t : Nat → Int) (i : Nat) (v : eg_v) (b c : Bool) : Int ⊕ (Nat × eg_v) :=
  bd (nmR L t i 0 (v 2 - 1)) (fun a => bd (if b = true then poR L t a.1 v 1 else .inr (a.1, -1)) (fun f => bd (if c = true then poR L t f.1 v 0 else .inr (f.1, -1)) (fun g => bd (nmR L t g.1 0 9999) (fun x => .inr (x.1, addV v a.2 f.2 g.2 x.2)))))
def prR (L : Nat) (t : Nat → Int) (i : Nat) (v : eg_v) : Int ⊕ (Nat × eg_v) :=
  bd (nmR L t i 0 999) (fun a => bd (nmR L t a.1 0 100) (fun b => .inr (b.1, va_up (va_up v 5 a.2) 6 b.2)))
def fuR (L : Nat) (t : Nat → Int) (i : Nat) (full : Bool) (r : Int ⊕ (Nat × eg_v)) : Int ⊕ (Nat × eg_v) := if full = true then .inl (8 * (sk L t i : Int) + 3) else r
def PT (L : Nat) (t : Nat → Int) (i : Nat) (v : eg_v) : Int ⊕ (Nat × eg_v) :=
  if wis L t (sk L t i) (we L t i) wSeg = true then sgR L t (we L t i) v
  else if wis L t (sk L t i) (we L t i) wIn = true then fuR L t i (decide (10 ≤ v 1)) (ptR L t (we L t i) v 1)
  else if wis L t (sk L t i) (we L t i) wOut = true then fuR L t i (decide (10 ≤ v 1)) (ptR L t (we L t i) v 0)
  else if wis L t (sk L t i) (we L t i) wShp = true then fuR L t i (decide (6 ≤ v 2)) (shR_ L t (we L t i) v)
  else if wis L t (sk L t i) (we L t i) wNom = true then fuR L t i (decide (16 ≤ v 3)) (noR L t (we L t i) v true true)
  else if wis L t (sk L t i) (we L t i) wPrk = true then fuR L t i (decide (16 ≤ v 3)) (noR L t (we L t i) v true false)
  else if wis L t (sk L t i) (we L t i) wLon = true then fuR L t i (decide (16 ≤ v 3)) (noR L t (we L t i) v false true)
  else if wis L t (sk L t i) (we L t i) wPrc = true then prR L t (we L t i) v
  else .inl (8 * (sk L t i : Int) + 1)
def PL (L : Nat) (t : Nat → Int) : Nat → Nat → eg_v → Int ⊕ eg_v
  | 0, _, v => .inr v
  | m + 1, i, v => if L ≤ sk L t i then .inr v else if tc L t (sk L t i) = 59 then bd (PT L t (sk L t i + 1) v) (fun a => PL L t m a.1 a.2) else .inl (8 * (sk L t i : Int) + 1)
def hbV (h : Int) : eg_v := fun i => if i = 0 then h else if 12 ≤ i ∧ i < 26 ∧ i % 2 = 0 then 9999 else 0
def hbR (L : Nat) (t : Nat → Int) : Int ⊕ (Nat × eg_v) := if wis L t (sk L t 0) (we L t 0) wHub = true then bd (nmR L t (we L t 0) 2 8) (fun a => .inr (a.1, hbV a.2)) else .inl (8 * (sk L t 0 : Int) + 1)
def TL (L : Nat) (t : Nat → Int) : Int ⊕ eg_v := bd (hbR L t) (fun a => PL L t (L + 1) a.1 a.2)
def R_tell (s : eg_S) : Int × eg_S := match TL s.2.2.2.2.2.1 s.2.2.2.2.2.2 with
  | .inl e => (-2 - e, tpS s 0 s.2.2.2.2.2.2)
  | .inr v => (v 1, (v, 0, s.2.2.1, s.2.2.2.1, s.2.2.2.2.1, 0, s.2.2.2.2.2.2))
/-- what is told so far -/
def tv (v : eg_v) : Prop := VV 0 v ∧ 2 ≤ v 0 ∧ v 4 = 0 ∧ v 11 = 0 ∧ (∀ i : Nat, 7 ≤ i → i < 11 → v i = 0) ∧ (∀ i : Nat, 26 + 4 * v 1 ≤ (i : Int) → i < 66 → v i = 0) ∧ ∀ i : Nat, 66 + 7 * v 2 ≤ (i : Int) → i < 108 → v i = 0
theorem nmR_e {L : Nat} {t : Nat → Int} {i : Nat} {lo hi : Int} {e : Int} (h : nmR L t i lo hi = .inl e) : 0 < e := by
  unfold nmR at h
  split at h
  · split at h
    · cases h
    · injection h with h; omega
  · injection h with h; omega
theorem nmR_r {L : Nat} {t : Nat → Int} {i : Nat} {lo hi : Int} {a : Nat × Int} (hi2 : i ≤ L) (h : nmR L t i lo hi = .inr a) : a.1 ≤ L ∧ i ≤ a.1 ∧ lo ≤ a.2 ∧ a.2 ≤ hi := by
  have s1 := rn_b (P := bB) (t := t) hi2
  have s2 := rn_b (P := dB) (L := L) (t := t) (i := sk L t i) (by unfold sk; omega)
  unfold nmR at h
  split at h
  · split at h
    · rename_i h3
      injection h with h
      subst h
      exact ⟨by show de L t i ≤ L; unfold de; omega, by show i ≤ de L t i; unfold de; unfold sk at *; omega, h3.1, h3.2⟩
    · cases h
  · cases h
