/-! THE SCHEDULE, as functions of the row. Stops are numbered as the class numbers them: 0 IN points, 10 up, 17 down, 24 OUT points, 34 limits (parked, loans). -/
def gb (v : eg_v) (q c : Int) : Bool :=
  if c < 10 then decide (gN v q 1 = c)
  else if c < 17 then decide ((gN v q 1 ≠ -1 ∧ gN v q 2 ≠ -1) ∧ gP v (gN v q 1) 0 ≤ c - 10 ∧ c - 10 < gP v (gN v q 2) 0)
  else if c < 24 then decide ((gN v q 1 ≠ -1 ∧ gN v q 2 ≠ -1) ∧ gP v (gN v q 2) 0 ≤ c - 17 ∧ c - 17 < gP v (gN v q 1) 0)
  else if c < 34 then decide (gN v q 2 = c - 24)
  else if (c - 34) % 2 = 0 then decide (gN v q 2 = -1 ∧ gN v q 0 = (c - 34) / 2)
  else decide (gN v q 1 = -1 ∧ gN v q 0 = (c - 34) / 2)
/-- what the parts at a stop are together -/
def tgF (v : eg_v) (c : Int) (p : Int → Int) (q : Int) : Int := if gb v q c = true then p q else 0
def tg (v : eg_v) (c : Int) (p : Int → Int) : Int := sm (tgF v c p) (v 3).toNat
/-- a part, cut downwards -/
def qt (v : eg_v) (c l : Int) (p : Int → Int) (q : Int) : Int := if gb v q c = true then p q * l / tg v c p else p q
def ov (v : eg_v) (c l : Int) (p : Int → Int) : Nat → Int
  | 0 => l - sm (tgF v c (qt v c l p)) (v 3).toNat
  | m + 1 => if 0 < ov v c l p m ∧ qt v c l p m < p m then ov v c l p m - 1 else ov v c l p m
/-- the parts behind a stop -/
def sqP (v : eg_v) (c l : Int) (p : Int → Int) (q : Int) : Int := if tg v c p ≤ l then p q else if 0 < ov v c l p q.toNat ∧ qt v c l p q < p q then qt v c l p q + 1 else qt v c l p q
def cdC (c : Int) : Int := if c < 10 then 100 else if c < 17 then 200 + c - 10 else if c < 24 then 300 + c - 17 else if c < 34 then 400 else 500
def sqC (v : eg_v) (c l : Int) (p ct : Int → Int) (q : Int) : Int := if sqP v c l p q < p q ∧ ct q = -2 then cdC c else ct q
def pz (v : eg_v) (l : Int → Int) (p : Int → Int) : Nat → Int → Int
  | 0 => p
  | m + 1 => sqP v m (l m) (pz v l p m)
def cz (v : eg_v) (l : Int → Int) (p ct : Int → Int) : Nat → Int → Int
  | 0 => ct
  | m + 1 => sqC v m (l m) (pz v l p m) (cz v l p ct m)
/-- parts that are good: of each nomination, not below 0, at most 9999 -/
def okp (v : eg_v) (p : Int → Int) : Prop := ∀ q : Int, 0 ≤ q → q < v 3 → 0 ≤ p q ∧ p q ≤ 9999
theorem tgF_b {v : eg_v} {c : Int} {p : Int → Int} (h : okp v p) : ∀ i : Int, 0 ≤ i → i < ((v 3).toNat : Int) → 0 ≤ tgF v c p i ∧ tgF v c p i ≤ 9999 := by
  intro i h0 h1
  have := h i h0 (by omega)
  unfold tgF
  split <;> omega
theorem tg_b {v : eg_v} {c : Int} {p : Int → Int} (h : okp v p) : 0 ≤ tg v c p ∧ tg v c p ≤ 9999 * ((v 3).toNat : Int) := sm_b (tgF_b h)
theorem sm_le {f g : Int → Int} {n : Nat} (h : ∀ i : Int, 0 ≤ i → i < n → f i ≤ g i) : sm f n ≤ sm g n := by
  induction n with
  | zero => exact Int.le_refl _
  | succ n ih =>
    have h1 := ih (fun i h0 h1 => h i h0 (by omega))
    have h2 := h n (by omega) (by omega)
    show sm f n + f n ≤ sm g n + g n
    omega
theorem tg_le {v : eg_v} {c : Int} {p p' : Int → Int} (h : ∀ q : Int, 0 ≤ q → q < v 3 → p q ≤ p' q) : tg v c p ≤ tg v c p' := by
  refine sm_le (fun i h0 h1 => ?_)
  have := h i h0 (by omega)
  unfold tgF
  split <;> omega
theorem sm_one {f : Int → Int} {n : Nat} (h : ∀ i : Int, 0 ≤ i → i < n → 0 ≤ f i) {j : Int} (h0 : 0 ≤ j) (h1 : j < n) : f j ≤ sm f n := by
  induction n with
  | zero => omega
  | succ n ih =>
    show f j ≤ sm f n + f n
    by_cases hj : j = n
    · have h2 : 0 ≤ sm f n := by
        have := sm_le (f := fun _ => 0) (g := f) (n := n) (fun i a b => h i a (by omega))
        have e : ∀ m, sm (fun _ => 0) m = 0 := by intro m; induction m with
          | zero => rfl
          | succ m ih => show sm (fun _ => 0) m + 0 = 0; omega
        rw [e] at this
        exact this
      rw [hj]; omega
    · have h2 := ih (fun i a b => h i a (by omega)) (by omega)
      have h3 := h n (by omega) (by omega)
      omega
theorem qt_b {v : eg_v} {c l : Int} {p : Int → Int} (h : okp v p) (hl : 0 ≤ l) (ht : l < tg v c p) {q : Int} (h0 : 0 ≤ q) (h1 : q < v 3) : 0 ≤ qt v c l p q ∧ qt v c l p q ≤ p q := by
  have hp := h q h0 h1
  unfold qt
  split
  · have m0 : 0 ≤ p q * l := Int.mul_nonneg hp.1 hl
    have m1 : p q * l ≤ p q * tg v c p := Int.mul_le_mul_of_nonneg_left (by omega) hp.1
    refine ⟨Int.ediv_nonneg m0 (by omega), ?_⟩
    have := Int.ediv_le_ediv (show 0 < tg v c p by omega) m1
    rw [Int.mul_ediv_cancel _ (by omega)] at this
    exact this
  · exact ⟨hp.1, Int.le_refl _⟩
theorem ov_b {v : eg_v} {c l : Int} {p : Int → Int} (h0 : 0 ≤ ov v c l p 0) : ∀ m : Nat, 0 ≤ ov v c l p m ∧ ov v c l p m ≤ ov v c l p 0
  | 0 => ⟨h0, Int.le_refl _⟩
  | m + 1 => by
    have := ov_b h0 m
    have e : ov v c l p (m + 1) = if 0 < ov v c l p m ∧ qt v c l p m < p m then ov v c l p m - 1 else ov v c l p m := rfl
    rw [e]
    split <;> omega
theorem sqt {v : eg_v} {c l : Int} {p : Int → Int} (h : okp v p) (hl : 0 ≤ l) (ht : l < tg v c p) : sm (tgF v c (qt v c l p)) (v 3).toNat ≤ l := by
  have key : ∀ n : Nat, (n : Int) ≤ v 3 → sm (tgF v c (qt v c l p)) n * tg v c p ≤ sm (tgF v c p) n * l := by
    intro n
    induction n with
    | zero => intro _; show (0 : Int) * _ ≤ 0 * _; omega
    | succ n ih =>
      intro hn
      have h2 := ih (by omega)
      show (sm (tgF v c (qt v c l p)) n + tgF v c (qt v c l p) n) * tg v c p ≤ (sm (tgF v c p) n + tgF v c p n) * l
      rw [Int.add_mul, Int.add_mul]
      have h3 : tgF v c (qt v c l p) n * tg v c p ≤ tgF v c p n * l := by
        unfold tgF
        by_cases hg : gb v n c = true
        · rw [if_pos hg, if_pos hg]
          unfold qt
          rw [if_pos hg]
          exact Int.ediv_mul_le _ (by omega)
        · rw [if_neg hg, if_neg hg]; omega
      omega
  have hb := tg_b (c := c) h
  have k := key (v 3).toNat (by omega)
  have e : sm (tgF v c p) (v 3).toNat = tg v c p := rfl
  rw [e, Int.mul_comm (tg v c p) l] at k
  exact Int.le_of_mul_le_mul_right k (by omega)
theorem sqP_b {v : eg_v} {c l : Int} {p : Int → Int} (h : okp v p) (hl : 0 ≤ l) {q : Int} (h0 : 0 ≤ q) (h1 : q < v 3) : 0 ≤ sqP v c l p q ∧ sqP v c l p q ≤ p q := by
  have hp := h q h0 h1
  unfold sqP
  split
  · exact ⟨hp.1, Int.le_refl _⟩
  · have := qt_b h hl (by omega) (c := c) h0 h1
    split <;> omega
theorem sqP_ok {v : eg_v} {c l : Int} {p : Int → Int} (h : okp v p) (hl : 0 ≤ l) : okp v (sqP v c l p) := fun q h0 h1 => by
  have a := sqP_b (c := c) h hl h0 h1
  have b := h q h0 h1
  omega
/-- behind a stop no more goes by it than is left there -/
theorem sqP_l {v : eg_v} {c l : Int} {p : Int → Int} (h : okp v p) (hl : 0 ≤ l) : tg v c (sqP v c l p) ≤ l := by
  by_cases ht : tg v c p ≤ l
  · have e : tg v c (sqP v c l p) ≤ tg v c p := tg_le (fun q h0 h1 => (sqP_b h hl h0 h1).2)
    omega
  · have hs := sqt (c := c) h hl (by omega)
    have o0 : 0 ≤ ov v c l p 0 := by show 0 ≤ l - _; omega
    have key : ∀ n : Nat, sm (tgF v c (sqP v c l p)) n ≤ sm (tgF v c (qt v c l p)) n + (ov v c l p 0 - ov v c l p n) := by
      intro n
      induction n with
      | zero => show (0 : Int) ≤ 0 + _; omega
      | succ n h2 =>
        have e1 : sm (tgF v c (sqP v c l p)) (n + 1) = sm (tgF v c (sqP v c l p)) n + tgF v c (sqP v c l p) n := rfl
        have e2 : sm (tgF v c (qt v c l p)) (n + 1) = sm (tgF v c (qt v c l p)) n + tgF v c (qt v c l p) n := rfl
        have e3 : ov v c l p (n + 1) = if 0 < ov v c l p n ∧ qt v c l p n < p n then ov v c l p n - 1 else ov v c l p n := rfl
        have t1 : tgF v c (sqP v c l p) n ≤ tgF v c (qt v c l p) n + (ov v c l p n - ov v c l p (n + 1)) := by
          rw [e3]
          unfold tgF
          by_cases hg : gb v n c = true
          · rw [if_pos hg, if_pos hg]
            unfold sqP
            rw [if_neg ht, Int.toNat_natCast]
            split <;> omega
          · rw [if_neg hg, if_neg hg]
            split <;> omega
        omega
    have k := key (v 3).toNat
    have ob := ov_b o0 (v 3).toNat
    have e0 : ov v c l p 0 = l - sm (tgF v c (qt v c l p)) (v 3).toNat := rfl
    show sm (tgF v c (sqP v c l p)) (v 3).toNat ≤ l
    omega
theorem pz_b {v : eg_v} {l p : Int → Int} (h : okp v p) (hl : ∀ c : Nat, c < 46 → 0 ≤ l c) : ∀ m : Nat, m ≤ 46 → okp v (pz v l p m) ∧ ∀ q : Int, 0 ≤ q → q < v 3 → pz v l p m q ≤ p q
  | 0, _ => ⟨h, fun q _ _ => Int.le_refl _⟩
  | m + 1, hm => by
    obtain ⟨a, b⟩ := pz_b h hl m (by omega)
    refine ⟨sqP_ok a (hl m (by omega)), fun q h0 h1 => ?_⟩
    have := (sqP_b (c := m) a (hl m (by omega)) h0 h1).2
    exact Int.le_trans this (b q h0 h1)
theorem pz_m {v : eg_v} {l p : Int → Int} (h : okp v p) (hl : ∀ c : Nat, c < 46 → 0 ≤ l c) (m : Nat) : ∀ d : Nat, m + d ≤ 46 → ∀ q : Int, 0 ≤ q → q < v 3 → pz v l p (m + d) q ≤ pz v l p m q
  | 0, _ => fun q _ _ => Int.le_refl _
  | d + 1, hd => fun q h0 h1 => by
    have a := (pz_b h hl (m + d) (by omega)).1
    have := (sqP_b (c := ((m + d : Nat) : Int)) a (hl (m + d) (by omega)) h0 h1).2
    exact Int.le_trans this (pz_m h hl m d (by omega) q h0 h1)
/-- behind all stops no more goes by one than is left there -/
theorem pz_l {v : eg_v} {l p : Int → Int} (h : okp v p) (hl : ∀ c : Nat, c < 46 → 0 ≤ l c) {c : Nat} (hc : c < 46) : tg v c (pz v l p 46) ≤ l c := by
  have a := (pz_b h hl c (by omega)).1
  have b := sqP_l (c := c) a (hl c hc)
  have d := pz_m h hl (c + 1) (46 - (c + 1)) (by omega)
  rw [show c + 1 + (46 - (c + 1)) = 46 by omega] at d
  exact Int.le_trans (tg_le d) b
