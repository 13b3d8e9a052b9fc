def tpS (s : eg_S) (L : Nat) (t : Nat → Int) : eg_S := (s.1, s.2.1, s.2.2.1, s.2.2.2.1, s.2.2.2.2.1, L, t)
def ap5 (t : Nat → Int) (L : Nat) (a b c d e : Int) : Nat → Int := apN (apN (apN (apN (apN t L a 4) (L + 4) b 4) (L + 8) c 4) (L + 12) d 4) (L + 16) e 4
def R_feed (s : eg_S) (a b c d e : Int) : Int × eg_S := if s.2.2.2.2.2.1 ≤ 380 then ((s.2.2.2.2.2.1 : Int) + 20, tpS s (s.2.2.2.2.2.1 + 20) (ap5 s.2.2.2.2.2.2 s.2.2.2.2.2.1 a b c d e)) else (-1, s)
def R_end (s : eg_S) (n : Int) : Int × eg_S := if 0 ≤ n ∧ n ≤ (s.2.2.2.2.2.1 : Int) then (n, tpS s n.toNat s.2.2.2.2.2.2) else (-1, s)
def alB (v : eg_v) (s f t x : Int) : Bool := decide ((0 ≤ s ∧ s < v 2) ∧ (f = -1 ∨ (0 ≤ f ∧ f < v 1 ∧ gP v f 1 = 1)) ∧ (t = -1 ∨ (0 ≤ t ∧ t < v 1 ∧ gP v t 1 = 0)) ∧ (f ≠ -1 ∨ t ≠ -1) ∧ (1 ≤ x ∧ x ≤ 9999))
def R_nominate (s : eg_S) (a b c d : Int) : Int × eg_S := if alB s.1 a b c d = true then (if 16 ≤ s.1 3 then (-2, s) else (s.1 3, puS s (addV s.1 a b c d))) else (-1, s)
/-- a number of the row becomes another -/
def bcR (s : eg_S) (p : Nat) (n e : Int) : Int × eg_S := if s.1 p = n then (e, s) else (s.1 p, puS s (va_up s.1 p n))
def R_renominate (s : eg_S) (k n : Int) : Int × eg_S := if (0 ≤ k ∧ k < s.1 3) ∧ (0 ≤ n ∧ n ≤ 9999) then bcR s (108 + 4 * k + 3).toNat n (-2) else (-1, s)
def R_withdraw (s : eg_S) (k : Int) : Int × eg_S := if 0 ≤ k ∧ k < s.1 3 then (s.1 3 - 1, puS s (remV s.1 k)) else (-1, s)
def R_limit (s : eg_S) (t k c : Int) : Int × eg_S := if ((t = 0 ∧ 0 ≤ k ∧ k < s.1 1) ∨ (t = 1 ∧ 0 ≤ k ∧ k < segs s.1)) ∧ (0 ≤ c ∧ c ≤ 9999) then bcR s (if t = 0 then 26 + 4 * k + 2 else 12 + 2 * k + 0).toNat c (-2) else (-1, s)
def R_swing (s : eg_S) (p x : Int) : Int × eg_S := if (0 ≤ p ∧ p < s.1 1) ∧ (-99 ≤ x ∧ x ≤ 99) then bcR s (26 + 4 * p + 3).toNat x (-101) else (-100, s)
def R_move (s : eg_S) (p x : Int) : Int × eg_S := if (0 ≤ p ∧ p < s.1 1) ∧ (0 ≤ x ∧ x < s.1 0) then bcR s (26 + 4 * p + 0).toNat x (-2) else (-1, s)
def tmB (w n : Int) : Bool := decide ((w = 1 ∧ 1 ≤ n ∧ n ≤ 9) ∨ (w ≠ 1 ∧ (0 ≤ w ∧ w ≤ 3) ∧ 0 ≤ n ∧ n ≤ 9999))
def R_contract (s : eg_S) (h w n : Int) : Int × eg_S := if (0 ≤ h ∧ h < s.1 2) ∧ tmB w n = true then (if gH s.1 h w = n then (-2, s) else if w = 3 ∧ (n < gH s.1 h 5 ∨ gH s.1 h 5 < -n) then (-3, s) else (gH s.1 h w, puS s (va_up s.1 (66 + 7 * h + w).toNat n))) else (-1, s)
def dlB (v : eg_v) (a b n : Int) : Bool := decide ((0 ≤ a ∧ a < v 2) ∧ (0 ≤ b ∧ b < v 2) ∧ a ≠ b ∧ (1 ≤ n ∧ n ≤ 9999))
def mvV (v : eg_v) (a b c n : Int) : eg_v := va_up (va_up v (66 + 7 * a + c).toNat (gH v a c - n)) (66 + 7 * b + c).toNat (gH (va_up v (66 + 7 * a + c).toNat (gH v a c - n)) b c + n)
def stV (v : eg_v) (a n : Int) : eg_v := va_up (va_up v (66 + 7 * a + 4).toNat (gH v a 4 - n)) (66 + 7 * a + 5).toNat (gH (va_up v (66 + 7 * a + 4).toNat (gH v a 4 - n)) a 5 + n)
def R_trade (s : eg_S) (a b n : Int) : Int × eg_S := if dlB s.1 a b n = true then (if gH s.1 a 4 < n ∨ -n < gH s.1 b 4 then (-2, s) else (1, puS s (mvV s.1 a b 4 n))) else (-1, s)
def R_lend (s : eg_S) (a b n : Int) : Int × eg_S := if dlB s.1 a b n = true then (if gH s.1 a 5 < n then (-2, s) else if gH s.1 b 5 + n ≤ gH s.1 b 3 then (1, puS s (mvV s.1 a b 5 n)) else (-3, s)) else (-1, s)
def R_store (s : eg_S) (a n : Int) : Int × eg_S := if (0 ≤ a ∧ a < s.1 2) ∧ (1 ≤ n ∧ n ≤ 9999) then (if gH s.1 a 4 < n then (-2, s) else if gH s.1 a 5 + n ≤ gH s.1 a 3 then (1, puS s (stV s.1 a n)) else (-3, s)) else (-1, s)
def R_close (s : eg_S) : Int × eg_S := if 0 < s.1 0 then (if sm (ovF s.1) (s.1 2).toNat = 0 then (-2, s) else (sm (ovF s.1) (s.1 2).toNat, puS s (cashIt s.1 (s.1 2).toNat))) else (-1, s)
def R_undo (s : eg_S) : Int × eg_S := if s.2.1 = 0 then (-1, s) else ((s.2.1 : Int) - 1, (s.2.2.1 (s.2.1 - 1), s.2.1 - 1, s.2.2))
def R_keep (s : eg_S) (k : Int) : Int × eg_S := if 0 ≤ k ∧ k ≤ 1 then (s.1 1, (s.1, s.2.1, s.2.2.1, va_up s.2.2.2.1 k.toNat true, va_up s.2.2.2.2.1 k.toNat s.1, s.2.2.2.2.2)) else (-1, s)
def R_back (s : eg_S) (k : Int) : Int × eg_S := if 0 ≤ k ∧ k ≤ 1 then (if s.2.2.2.1 k.toNat = true then (s.2.2.2.2.1 k.toNat 1, (s.2.2.2.2.1 k.toNat, 0, s.2.2)) else (-2, s)) else (-1, s)
theorem okV_mv4 {v : eg_v} {a b n : Int} (h : okV v) (ha : 0 ≤ a ∧ a < v 2) (hb : 0 ≤ b ∧ b < v 2) (hn : 1 ≤ n ∧ n ≤ 9999) (h1 : n ≤ gH v a 4) (h2 : gH v b 4 ≤ -n) : okV (mvV v a b 4 n) := by
  have r := h.1.r.2
  have oa := h.1.H ha.1 ha.2
  have ob := h.1.H hb.1 hb.2
  unfold okH at oa ob
  have k1 := okV_h (c := 4) (x := gH v a 4 - n) h.1 h.2.1 ha.1 ha.2 (by omega) (by omega) (by omega) (by omega) (by omega) (by omega)
  have e2 : va_up v (66 + 7 * a + 4).toNat (gH v a 4 - n) 2 = v 2 := va_up_n _ _ (by omega)
  have e4 : gH (va_up v (66 + 7 * a + 4).toNat (gH v a 4 - n)) b 4 = if b = a ∧ (4 : Int) = 4 then gH v a 4 - n else gH v b 4 := gH_i ha.1 (by omega) (by omega) hb.1 (by omega) (by omega)
  have k2 := okV_h (s := b) (c := 4) (x := gH (va_up v (66 + 7 * a + 4).toNat (gH v a 4 - n)) b 4 + n) k1.1 k1.2 hb.1 (by rw [e2]; exact hb.2) (by omega) (by omega) (by omega) (fun _ => by rw [e4]; split <;> omega) (by omega) (by omega)
  refine ⟨k2.1, k2.2, ?_⟩
  unfold mvV
  rw [va_up_n _ _ (by omega), va_up_n _ _ (by omega)]
  exact h.2.2
theorem okV_mv5 {v : eg_v} {a b n : Int} (h : okV v) (ha : 0 ≤ a ∧ a < v 2) (hb : 0 ≤ b ∧ b < v 2) (hab : a ≠ b) (hn : 1 ≤ n ∧ n ≤ 9999) (h1 : n ≤ gH v a 5) (h2 : gH v b 5 + n ≤ gH v b 3) : okV (mvV v a b 5 n) := by
  have r := h.1.r.2
  have oa := h.1.H ha.1 ha.2
  have ob := h.1.H hb.1 hb.2
  have pa := h.2.1 a ha.1 ha.2
  have pb := h.2.1 b hb.1 hb.2
  unfold okH at oa ob
  have k1 := okV_h (c := 5) (x := gH v a 5 - n) h.1 h.2.1 ha.1 ha.2 (by omega) (by omega) (by omega) (by omega) (by omega) (by omega)
  have e2 : va_up v (66 + 7 * a + 5).toNat (gH v a 5 - n) 2 = v 2 := va_up_n _ _ (by omega)
  have e5 : gH (va_up v (66 + 7 * a + 5).toNat (gH v a 5 - n)) b 5 = if b = a ∧ (5 : Int) = 5 then gH v a 5 - n else gH v b 5 := gH_i ha.1 (by omega) (by omega) hb.1 (by omega) (by omega)
  have e3 : gH (va_up v (66 + 7 * a + 5).toNat (gH v a 5 - n)) b 3 = if b = a ∧ (3 : Int) = 5 then gH v a 5 - n else gH v b 3 := gH_i ha.1 (by omega) (by omega) hb.1 (by omega) (by omega)
  rw [if_neg (by omega)] at e5 e3
  have k2 := okV_h (s := b) (c := 5) (x := gH (va_up v (66 + 7 * a + 5).toNat (gH v a 5 - n)) b 5 + n) k1.1 k1.2 hb.1 (by rw [e2]; exact hb.2) (by omega) (by omega) (by omega) (fun _ => by rw [e5]; omega) (by omega) (fun _ => by rw [e5, e3]; omega)
  refine ⟨k2.1, k2.2, ?_⟩
  unfold mvV
  rw [va_up_n _ _ (by omega), va_up_n _ _ (by omega)]
  exact h.2.2
theorem okV_st {v : eg_v} {a n : Int} (h : okV v) (ha : 0 ≤ a ∧ a < v 2) (hn : 1 ≤ n ∧ n ≤ 9999) (h1 : n ≤ gH v a 4) (h2 : gH v a 5 + n ≤ gH v a 3) : okV (stV v a n) := by
  have r := h.1.r.2
  have oa := h.1.H ha.1 ha.2
  have pa := h.2.1 a ha.1 ha.2
  unfold okH at oa
  have k1 := okV_h (c := 4) (x := gH v a 4 - n) h.1 h.2.1 ha.1 ha.2 (by omega) (by omega) (by omega) (by omega) (by omega) (by omega)
  have e2 : va_up v (66 + 7 * a + 4).toNat (gH v a 4 - n) 2 = v 2 := va_up_n _ _ (by omega)
  have e5 : gH (va_up v (66 + 7 * a + 4).toNat (gH v a 4 - n)) a 5 = if a = a ∧ (5 : Int) = 4 then gH v a 4 - n else gH v a 5 := gH_i ha.1 (by omega) (by omega) ha.1 (by omega) (by omega)
  have e3 : gH (va_up v (66 + 7 * a + 4).toNat (gH v a 4 - n)) a 3 = if a = a ∧ (3 : Int) = 4 then gH v a 4 - n else gH v a 3 := gH_i ha.1 (by omega) (by omega) ha.1 (by omega) (by omega)
  rw [if_neg (by omega)] at e5 e3
  have k2 := okV_h (s := a) (c := 5) (x := gH (va_up v (66 + 7 * a + 4).toNat (gH v a 4 - n)) a 5 + n) k1.1 k1.2 ha.1 (by rw [e2]; exact ha.2) (by omega) (by omega) (by omega) (fun _ => by rw [e5]; omega) (by omega) (fun _ => by rw [e5, e3]; omega)
  refine ⟨k2.1, k2.2, ?_⟩
  unfold stV
  rw [va_up_n _ _ (by omega), va_up_n _ _ (by omega)]
  exact h.2.2
theorem okV_cash {v : eg_v} (h : okV v) : okV (cashIt v (v 2).toNat) := by
  have r := h.1.r.2
  have a := cashIt_p h.1 (v 2).toNat (by omega)
  have p : ∀ m : Nat, (m : Int) ≤ v 2 → ∀ s c : Int, 0 ≤ s → s < v 2 → (c = 3 ∨ c = 5) → gH (cashIt v m) s c = gH v s c := by
    intro m
    induction m with
    | zero => intro _ s c _ _ _; rfl
    | succ m ih =>
      intro hm s c h0 h1 hc
      show gH (cashV (cashIt v m) (m : Int)) s c = _
      unfold cashV
      rw [gH_o (by omega) h0 (by omega) (by omega) (by omega), gH_i (by omega) (by omega) (by omega) h0 (by omega) (by omega), if_neg (by omega), gH_i (by omega) (by omega) (by omega) h0 (by omega) (by omega), if_neg (by omega)]
      exact ih (by omega) s c h0 h1 hc
  refine ⟨a.1, fun s h0 h1 => ?_, by rw [a.2 4 (by omega)]; exact h.2.2⟩
  rw [a.2 2 (by omega)] at h1
  rw [p _ (by omega) s 3 h0 h1 (by omega), p _ (by omega) s 5 h0 h1 (by omega)]
  exact h.2.1 s h0 h1
