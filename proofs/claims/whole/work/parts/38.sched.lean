/-- what is scheduled is no more than what is nominated -/
theorem SS_b {v : eg_v} {B : Int} (hv : VV B v) (hk : PK v) {q : Int} (h0 : 0 ≤ q) (h1 : q < v 3) : ∀ j : Nat, 0 ≤ SS v (j + 1) q ∧ SS v (j + 1) q ≤ fa v q + (if 1 ≤ gH v (gN v q 0) 1 ∧ gH v (gN v q 0) 1 < ((j + 1 : Nat) : Int) then gN v q 3 - fa v q else 0)
  | 0 => by
    have a := (pz_b (pC_ok hv 0) (fun d hd => (LL_b hv hk 0 d hd).1) 46 (by omega))
    have a1 := a.1 q h0 h1
    have a2 : pz v (LL v 0) (pC v 0) 46 q ≤ fa v q := a.2 q h0 h1
    have f := fa_b hv h0 h1
    show 0 ≤ 0 + pz v (LL v 0) (pC v 0) 46 q ∧ 0 + pz v (LL v 0) (pC v 0) 46 q ≤ _
    split <;> omega
  | j + 1 => by
    have ih := SS_b hv hk h0 h1 j
    have a := (pz_b (pC_ok hv (j + 1)) (fun d hd => (LL_b hv hk (j + 1) d hd).1) 46 (by omega))
    have a1 := a.1 q h0 h1
    have a2 : pz v (LL v (j + 1)) (pC v (j + 1)) 46 q ≤ pr v ((j + 1 : Nat) : Int) q := a.2 q h0 h1
    have f := fa_b hv h0 h1
    show 0 ≤ SS v (j + 1) q + pz v (LL v (j + 1)) (pC v (j + 1)) 46 q ∧ SS v (j + 1) q + pz v (LL v (j + 1)) (pC v (j + 1)) 46 q ≤ _
    unfold pr at a2
    split at a2
    · rename_i h
      rw [if_neg (by omega)] at ih
      rw [if_pos (by omega)]
      omega
    · rename_i h
      split at ih
      · rename_i h'
        rw [if_pos (by omega)]
        omega
      · split <;> omega
theorem SS10 {v : eg_v} {B : Int} (hv : VV B v) (hk : PK v) {q : Int} (h0 : 0 ≤ q) (h1 : q < v 3) : 0 ≤ SS v 10 q ∧ SS v 10 q ≤ gN v q 3 ∧ SS v 10 q ≤ 9999 := by
  have a := SS_b hv hk h0 h1 9
  have f := fa_b hv h0 h1
  have g := (hv.N h0 h1).2.2.2.2
  have a1 : SS v 10 q ≤ fa v q + (if 1 ≤ gH v (gN v q 0) 1 ∧ gH v (gN v q 0) 1 < ((9 + 1 : Nat) : Int) then gN v q 3 - fa v q else 0) := a.2
  have a0 : 0 ≤ SS v 10 q := a.1
  split at a1 <;> omega
theorem fairS_b {v : eg_v} {B : Int} (hv : VV B v) (hk : PK v) {q : Int} (h0 : 0 ≤ q) (h1 : q < v 3) : 0 ≤ fairS v q ∧ fairS v q ≤ 9999 :=
  (pz_b (gN3_ok hv) (fun d hd => (LL_b hv hk 0 d hd).1) 46 (by omega)).1 q h0 h1
/-- the stop of the row that a tight point is left at -/
def stQ (v : eg_v) (c : Int) : Int := if c < 10 then (if gP v c 1 = 1 then c else 24 + c) else c
def isQ (v : eg_v) (c : Int) : Prop := (c < 10 ∧ c < v 1) ∨ (10 ≤ c ∧ c < 17 ∧ c - 10 < segs v) ∨ (17 ≤ c ∧ c < 24 ∧ c - 17 < segs v)
def tq (v : eg_v) (l : Int → Int) (c : Int) : Bool := decide (((c < 10 ∧ c < v 1) ∨ (10 ≤ c ∧ c < 17 ∧ c - 10 < segs v) ∨ (17 ≤ c ∧ c < 24 ∧ c - 17 < segs v)) ∧ l (stQ v c) = 0)
theorem tq_of {v : eg_v} {l : Int → Int} {c : Int} (h : isQ v c ∧ l (stQ v c) = 0) : tq v l c = true := decide_eq_true h
theorem tq_to {v : eg_v} {l : Int → Int} {c : Int} (h : tq v l c = true) : isQ v c ∧ l (stQ v c) = 0 := by unfold isQ; exact of_decide_eq_true h
def cdT (c : Int) : Int := if c < 10 then 100 + c else if c < 17 then 200 + c - 10 else 300 + c - 17
def tiN (q : Int → Bool) (k : Int) : Nat → Int → Int → Int
  | 0, _, f => if k = -1 then f else -2
  | m + 1, c, f => if q c = true then (if f = k then cdT c else tiN q k m (c + 1) (f + 1)) else tiN q k m (c + 1) f
theorem ti_n {q : Int → Bool} {k : Int} {m : Nat} {c f : Int} (h : ¬ q c = true) : tiN q k (m + 1) c f = tiN q k m (c + 1) f := by simp only [tiN, if_neg h]
theorem ti_y {q : Int → Bool} {k : Int} {m : Nat} {c f : Int} (h : q c = true) (hk : ¬ f = k) : tiN q k (m + 1) c f = tiN q k m (c + 1) (f + 1) := by simp only [tiN, if_pos h, if_neg hk]
theorem ti_e {q : Int → Bool} {k : Int} {m : Nat} {c f : Int} (h : q c = true) (hk : f = k) : tiN q k (m + 1) c f = cdT c := by simp only [tiN, if_pos h, if_pos hk]
theorem ti_skip {q : Int → Bool} {k : Int} {m : Nat} {f : Int} : ∀ (d : Nat) (c : Int), (∀ j : Int, c ≤ j → j < c + d → ¬ q j = true) → tiN q k (m + d) c f = tiN q k m (c + d) f
  | 0, c, _ => by simp
  | d + 1, c, h => by
    rw [show m + (d + 1) = (m + d) + 1 from rfl, ti_n (h c (by omega) (by omega)), ti_skip d (c + 1) (fun j h0 h1 => h j (by omega) (by omega))]
    congr 1
    omega
theorem ti_s {q : Int → Bool} {k : Int} {m m' : Nat} {c c' f : Int} (h : (m : Int) + c = m' + c') (hc : c ≤ c') (hm : m' ≤ m) (hq : ∀ j : Int, c ≤ j → j < c' → ¬ q j = true) : tiN q k m c f = tiN q k m' c' f := by
  have a := ti_skip (q := q) (k := k) (m := m') (f := f) (m - m') c (fun j h0 h1 => hq j h0 (by omega))
  rw [show m' + (m - m') = m by omega, show c + ((m - m' : Nat) : Int) = c' by omega] at a
  exact a
theorem c_X4_of {k : eg_K} {z : eg_Z} {X : eg_M} {n : Nat} {r : Int} (h0 : 0 ≤ r) (h1 : r < 16) : eg_P k gX4_of 1 0 0 [vR k 25, vI r] n (enc k z X) (eg_f (some (vI (z 26 r.toNat))) n (enc k z X)) := by
  refine eg_P.of (by decide) (Nat.le_of_ble_eq_true rfl) ?_
  show eg_E k gX4_of 1 0 0 n (enc k z X) [vR k 25, vI r] [] 0 _
  refine eg_iload_n dX4_of_0 rfl ?_
  refine eg_iconst dX4_of_1 ?_
  refine eg_bipush dX4_of_2 (by decide) ?_
  refine eg_SNf3 cs_X4_128 dX4_of_4 (c_X8_within ⟨by omega, by omega⟩ ⟨by omega, by omega⟩ ⟨by omega, by omega⟩) (Nat.le_of_ble_eq_true rfl) (by decide) ?_
  refine eg_bi_eq 19 dX4_of_7 rfl (fun h7 => absurd h7 (by omega)) (fun h7 => ?_)
  refine eg_al_n dX4_of_10 rfl rfl ?_
  refine eg_get fl_X4_11 dX4_of_11 (by first | exact er25 | exact er26 | exact er27 | exact er28 | exact er29 | exact er30 | exact er31 | exact er32 | exact er33 | exact ep0 hb | exact ep1 hb | exact ep3 hb | exact ep5 hb | exact ep7 hb) rfl ?_
  refine eg_iload_n dX4_of_14 rfl ?_
  refine eg_iald dX4_of_15 (by first | exact er25 | exact er26 | exact er27 | exact er28 | exact er29 | exact er30 | exact er31 | exact er32 | exact er33 | exact ep0 hb | exact ep1 hb | exact ep3 hb | exact ep5 hb | exact ep7 hb) (by omega) (by omega) (by decide) ?_
  refine eg_goto 20 dX4_of_16 rfl ?_
  refine eg_ireturn dX4_of_20 rfl rfl ?_
  exact ⟨rfl, rfl, rfl⟩
theorem c_X4_leftAt {k : eg_K} {z : eg_Z} {X : eg_M} {n : Nat} {r : Int} (h0 : 0 ≤ r) (h1 : r < 46) : eg_P k gX4_leftAt 1 0 0 [vR k 25, vI r] n (enc k z X) (eg_f (some (vI (z 29 r.toNat))) n (enc k z X)) := by
  refine eg_P.of (by decide) (Nat.le_of_ble_eq_true rfl) ?_
  show eg_E k gX4_leftAt 1 0 0 n (enc k z X) [vR k 25, vI r] [] 0 _
  refine eg_iload_n dX4_leftAt_0 rfl ?_
  refine eg_iconst dX4_leftAt_1 ?_
  refine eg_bipush dX4_leftAt_2 (by decide) ?_
  refine eg_SNf3 cs_X4_128 dX4_leftAt_4 (c_X8_within ⟨by omega, by omega⟩ ⟨by omega, by omega⟩ ⟨by omega, by omega⟩) (Nat.le_of_ble_eq_true rfl) (by decide) ?_
  refine eg_bi_eq 19 dX4_leftAt_7 rfl (fun h7 => absurd h7 (by omega)) (fun h7 => ?_)
  refine eg_al_n dX4_leftAt_10 rfl rfl ?_
  refine eg_get fl_X4_21 dX4_leftAt_11 (by first | exact er25 | exact er26 | exact er27 | exact er28 | exact er29 | exact er30 | exact er31 | exact er32 | exact er33 | exact ep0 hb | exact ep1 hb | exact ep3 hb | exact ep5 hb | exact ep7 hb) rfl ?_
  refine eg_iload_n dX4_leftAt_14 rfl ?_
  refine eg_iald dX4_leftAt_15 (by first | exact er25 | exact er26 | exact er27 | exact er28 | exact er29 | exact er30 | exact er31 | exact er32 | exact er33 | exact ep0 hb | exact ep1 hb | exact ep3 hb | exact ep5 hb | exact ep7 hb) (by omega) (by omega) (by decide) ?_
  refine eg_goto 20 dX4_leftAt_16 rfl ?_
  refine eg_ireturn dX4_leftAt_20 rfl rfl ?_
  exact ⟨rfl, rfl, rfl⟩
theorem c_X4_leftUp {k : eg_K} {z : eg_Z} {X : eg_M} {n : Nat} {r : Int} (h0 : 0 ≤ r) (h1 : r < 7) : eg_P k gX4_leftUp 2 0 0 [vR k 25, vI r] n (enc k z X) (eg_f (some (vI (z 29 (10 + r).toNat))) n (enc k z X)) := by
  refine eg_P.of (by decide) (Nat.le_of_ble_eq_true rfl) ?_
  show eg_E k gX4_leftUp 2 0 0 n (enc k z X) [vR k 25, vI r] [] 0 _
  refine eg_al_n dX4_leftUp_0 rfl rfl ?_
  refine eg_bipush dX4_leftUp_1 (by decide) ?_
  refine eg_iload_n dX4_leftUp_3 rfl ?_
  refine eg_iadd dX4_leftUp_4 ?_
  refine eg_Vf1 cs_X4_132 dX4_leftUp_5 (c_X4_leftAt (by omega) (by omega)) (by first | exact er25 | exact er26 | exact er27 | exact er28 | exact er29 | exact er30 | exact er31 | exact er32 | exact er33 | exact ep0 hb | exact ep1 hb | exact ep3 hb | exact ep5 hb | exact ep7 hb) rfl (Nat.le_of_ble_eq_true rfl) (by decide) ?_
  refine eg_ireturn dX4_leftUp_8 rfl rfl ?_
  exact ⟨rfl, rfl, rfl⟩
theorem c_X4_leftDown {k : eg_K} {z : eg_Z} {X : eg_M} {n : Nat} {r : Int} (h0 : 0 ≤ r) (h1 : r < 7) : eg_P k gX4_leftDown 2 0 0 [vR k 25, vI r] n (enc k z X) (eg_f (some (vI (z 29 (17 + r).toNat))) n (enc k z X)) := by
  refine eg_P.of (by decide) (Nat.le_of_ble_eq_true rfl) ?_
  show eg_E k gX4_leftDown 2 0 0 n (enc k z X) [vR k 25, vI r] [] 0 _
  refine eg_al_n dX4_leftDown_0 rfl rfl ?_
  refine eg_bipush dX4_leftDown_1 (by decide) ?_
  refine eg_iload_n dX4_leftDown_3 rfl ?_
  refine eg_iadd dX4_leftDown_4 ?_
  refine eg_Vf1 cs_X4_132 dX4_leftDown_5 (c_X4_leftAt (by omega) (by omega)) (by first | exact er25 | exact er26 | exact er27 | exact er28 | exact er29 | exact er30 | exact er31 | exact er32 | exact er33 | exact ep0 hb | exact ep1 hb | exact ep3 hb | exact ep5 hb | exact ep7 hb) rfl (Nat.le_of_ble_eq_true rfl) (by decide) ?_
  refine eg_ireturn dX4_leftDown_8 rfl rfl ?_
  exact ⟨rfl, rfl, rfl⟩
theorem c_X4_leftAtPoint {k : eg_K} {z : eg_Z} {X : eg_M} {n b : Nat} {v : eg_v} {B : Int} (hb : isB b = true) (hp : hP z b v) (hv : VV B v) {r : Int} (h0 : 0 ≤ r) (h1 : r < v 1) : eg_P k gX4_leftAtPoint 2 0 0 [vR k 25, vR k b, vI r] n (enc k z X) (eg_f (some (vI (z 29 (stQ v r).toNat))) n (enc k z X)) := by
  refine eg_P.of (by decide) (Nat.le_of_ble_eq_true rfl) ?_
  show eg_E k gX4_leftAtPoint 2 0 0 n (enc k z X) [vR k 25, vR k b, vI r] [] 0 _
  have q := hv.r
  refine eg_al_n dX4_leftAtPoint_0 rfl rfl ?_
  refine eg_al_n dX4_leftAtPoint_1 rfl rfl ?_
  refine eg_iload_n dX4_leftAtPoint_2 rfl ?_
  refine eg_Vf1 cs_X4_84 dX4_leftAtPoint_3 (c_X2_isIn hb hp hv ⟨by omega, by omega⟩) (by first | exact er25 | exact er26 | exact er27 | exact er28 | exact er29 | exact er30 | exact er31 | exact er32 | exact er33 | exact ep0 hb | exact ep1 hb | exact ep3 hb | exact ep5 hb | exact ep7 hb) rfl (Nat.le_of_ble_eq_true rfl) (by decide) ?_
  refine eg_bi_eq 13 dX4_leftAtPoint_6 rfl (fun h6 => ?_) (fun h6 => ?_)
  · refine eg_bipush dX4_leftAtPoint_13 (by decide) ?_
    refine eg_iload_n dX4_leftAtPoint_15 rfl ?_
    refine eg_iadd dX4_leftAtPoint_16 ?_
    refine eg_Vf1 cs_X4_132 dX4_leftAtPoint_17 (c_X4_leftAt (by omega) (by omega)) (by first | exact er25 | exact er26 | exact er27 | exact er28 | exact er29 | exact er30 | exact er31 | exact er32 | exact er33 | exact ep0 hb | exact ep1 hb | exact ep3 hb | exact ep5 hb | exact ep7 hb) rfl (Nat.le_of_ble_eq_true rfl) (by decide) ?_
    refine eg_ireturn dX4_leftAtPoint_20 rfl rfl ?_
    exact ⟨congrArg (fun q => some (vI (z 29 (Int.toNat q)))) (by unfold stQ; rw [if_pos (by omega)]; split <;> omega), rfl, rfl⟩
  · refine eg_iconst dX4_leftAtPoint_9 ?_
    refine eg_goto 15 dX4_leftAtPoint_10 rfl ?_
    refine eg_iload_n dX4_leftAtPoint_15 rfl ?_
    refine eg_iadd dX4_leftAtPoint_16 ?_
    refine eg_Vf1 cs_X4_132 dX4_leftAtPoint_17 (c_X4_leftAt (by omega) (by omega)) (by first | exact er25 | exact er26 | exact er27 | exact er28 | exact er29 | exact er30 | exact er31 | exact er32 | exact er33 | exact ep0 hb | exact ep1 hb | exact ep3 hb | exact ep5 hb | exact ep7 hb) rfl (Nat.le_of_ble_eq_true rfl) (by decide) ?_
    refine eg_ireturn dX4_leftAtPoint_20 rfl rfl ?_
    exact ⟨congrArg (fun q => some (vI (z 29 (Int.toNat q)))) (by unfold stQ; rw [if_pos (by omega)]; split <;> omega), rfl, rfl⟩
theorem c_X4_inAll {k : eg_K} {z : eg_Z} {X : eg_M} {n : Nat} {p : Int → Int} {m3 : Nat} (h16 : m3 ≤ 16) (h25 : z 25 8 = (m3 : Int)) (hq : ∀ q : Int, 0 ≤ q → q < m3 → z 26 q.toNat = p q) : eg_P k gX4_inAll 0 0 0 [vR k 25] n (enc k z X) (eg_f (some (vI (sm p m3))) n (enc k z X)) := by
  refine eg_P.of (by decide) (Nat.le_of_ble_eq_true rfl) ?_
  show eg_E k gX4_inAll 0 0 0 n (enc k z X) [vR k 25, vU, vU] [] 0 _
  have L : ∀ (m : Nat) (i : Int), 0 ≤ i → i ≤ (m3 : Int) → (m3 : Int) - i < (m : Int) → eg_E k gX4_inAll 0 0 0 n (enc k z X) [vR k 25, vI (sm p i.toNat), vI i] [] 4 (eg_f (some (vI (sm p m3))) n (enc k z X)) := by
    intro m
    induction m with
    | zero => intro i h0 h1 hm; exfalso; omega
    | succ m ih =>
      intro i h0 h1 hm
      refine eg_iload_n dX4_inAll_4 rfl ?_
      refine eg_al_n dX4_inAll_5 rfl rfl ?_
      refine eg_get fl_X4_36 dX4_inAll_6 (by first | exact er25 | exact er26 | exact er27 | exact er28 | exact er29 | exact er30 | exact er31 | exact er32 | exact er33 | exact ep0 hb | exact ep1 hb | exact ep3 hb | exact ep5 hb | exact ep7 hb) rfl ?_
      rw [h25]
      refine eg_icmp_ge 27 dX4_inAll_9 ⟨by omega, by omega⟩ ⟨by omega, by omega⟩ rfl (fun h9 => ?_) (fun h9 => ?_)
      · refine eg_iload_n dX4_inAll_27 rfl ?_
        refine eg_ireturn dX4_inAll_28 rfl rfl ?_
        have e9 : i.toNat = m3 := by omega
        rw [e9]
        exact ⟨rfl, rfl, rfl⟩
      · refine eg_iload_n dX4_inAll_12 rfl ?_
        refine eg_al_n dX4_inAll_13 rfl rfl ?_
        refine eg_get fl_X4_11 dX4_inAll_14 (by first | exact er25 | exact er26 | exact er27 | exact er28 | exact er29 | exact er30 | exact er31 | exact er32 | exact er33 | exact ep0 hb | exact ep1 hb | exact ep3 hb | exact ep5 hb | exact ep7 hb) rfl ?_
        refine eg_iload_n dX4_inAll_17 rfl ?_
        refine eg_iald dX4_inAll_18 (by first | exact er25 | exact er26 | exact er27 | exact er28 | exact er29 | exact er30 | exact er31 | exact er32 | exact er33 | exact ep0 hb | exact ep1 hb | exact ep3 hb | exact ep5 hb | exact ep7 hb) (by omega) (by omega) (by decide) ?_
        rw [hq i h0 h9]
        refine eg_iadd dX4_inAll_19 ?_
        refine eg_istore_n dX4_inAll_20 rfl rfl rfl ?_
        refine eg_iinc dX4_inAll_21 rfl rfl rfl ?_
        refine eg_goto 4 dX4_inAll_24 rfl ?_
        have := ih (i + 1) (by omega) (by omega) (by omega)
        rw [sm_s p h0] at this
        exact this
  refine eg_iconst dX4_inAll_0 ?_
  refine eg_istore_n dX4_inAll_1 rfl rfl rfl ?_
  refine eg_iconst dX4_inAll_2 ?_
  refine eg_istore_n dX4_inAll_3 rfl rfl rfl ?_
  exact L 17 0 (by omega) (by omega) (by omega)
theorem c_X4_tightStop {k : eg_K} {z : eg_Z} {X : eg_M} {n b : Nat} {v : eg_v} {B : Int} (hb : isB b = true) (hp : hP z b v) (hv : VV B v) {l : Int → Int} {r : Int} (hr : iR r) (hl : ∀ c : Nat, c < 46 → z 29 c = l c) (hlb : ∀ c : Int, 0 ≤ c → c < 46 → 0 ≤ l c ∧ l c ≤ 19998) : eg_P k gX4_tightStop 3 0 0 [vR k 25, vR k b, vI r] n (enc k z X) (eg_f (some (vI (tiN (tq v l) r 24 0 0))) n (enc k z X)) := by
  refine eg_P.of (by decide) (Nat.le_of_ble_eq_true rfl) ?_
  show eg_E k gX4_tightStop 3 0 0 n (enc k z X) [vR k 25, vR k b, vI r, vU, vU] [] 0 _
  have e29 : ∀ c : Int, 0 ≤ c → c < 46 → z 29 c.toNat = l c := fun c g0 g1 => by rw [hl c.toNat (by omega), show ((c.toNat : Nat) : Int) = c by omega]
  have q := hv.r.2
  obtain ⟨-, ⟨c1, c3, -⟩, -⟩ := id hp
  have hr1 := hr.1; have hr2 := hr.2
  have L2 : ∀ (m : Nat) (i : Int) (f : Int), 0 ≤ i → i ≤ segs v → 0 ≤ f → f ≤ 17 + i → tiN (tq v l) r (7 - i).toNat (17 + i) f = tiN (tq v l) r 24 0 0 → segs v - i < (m : Int) → eg_E k gX4_tightStop 3 0 0 n (enc k z X) [vR k 25, vR k b, vI r, vI f, vI i] [] 95 (eg_f (some (vI (tiN (tq v l) r 24 0 0))) n (enc k z X)) := by
    intro m
    induction m with
    | zero => intro i f h0 h1 f0 f1 hi hm; exfalso; omega
    | succ m ih =>
      intro i f h0 h1 f0 f1 hi hm
      refine eg_iload dX4_tightStop_95 rfl ?_
      refine eg_al_n dX4_tightStop_97 rfl rfl ?_
      refine eg_get fl_X4_88 dX4_tightStop_98 (by first | exact er25 | exact er26 | exact er27 | exact er28 | exact er29 | exact er30 | exact er31 | exact er32 | exact er33 | exact ep0 hb | exact ep1 hb | exact ep3 hb | exact ep5 hb | exact ep7 hb) rfl ?_
      refine eg_get fl_X4_72 dX4_tightStop_101 (by first | exact er25 | exact er26 | exact er27 | exact er28 | exact er29 | exact er30 | exact er31 | exact er32 | exact er33 | exact ep0 hb | exact ep1 hb | exact ep3 hb | exact ep5 hb | exact ep7 hb) rfl ?_
      rw [c1]
      refine eg_icmp_ge 137 dX4_tightStop_104 ⟨by omega, by omega⟩ ⟨by omega, by omega⟩ rfl (fun h104 => ?_) (fun h104 => ?_)
      · have hi2 := hi
        rw [ti_s (m' := 0) (c' := 24) (by omega) (by omega) (by omega) (fun j g0 g1 hh => by have h9 := (tq_to hh).1; unfold isQ at h9; omega)] at hi2
        refine eg_iload_n dX4_tightStop_137 rfl ?_
        refine eg_iconst dX4_tightStop_138 ?_
        refine eg_icmp_ne 146 dX4_tightStop_139 ⟨by omega, by omega⟩ ⟨by omega, by omega⟩ rfl (fun h139 => ?_) (fun h139 => ?_)
        · refine eg_bipush dX4_tightStop_146 (by decide) ?_
          refine eg_ireturn dX4_tightStop_148 rfl rfl ?_
          rw [← hi2]
          exact ⟨congrArg (fun q => some (vI q)) (by simp only [tiN]; first | rw [if_pos (by omega)] | rw [if_neg (by omega)]), rfl, rfl⟩
        · refine eg_iload_n dX4_tightStop_142 rfl ?_
          refine eg_goto 148 dX4_tightStop_143 rfl ?_
          refine eg_ireturn dX4_tightStop_148 rfl rfl ?_
          rw [← hi2]
          exact ⟨congrArg (fun q => some (vI q)) (by simp only [tiN]; first | rw [if_pos (by omega)] | rw [if_neg (by omega)]), rfl, rfl⟩
      · refine eg_al_n dX4_tightStop_107 rfl rfl ?_
        refine eg_iload dX4_tightStop_108 rfl ?_
        refine eg_Vf1 cs_X4_142 dX4_tightStop_110 (c_X4_leftDown h0 (by omega)) (by first | exact er25 | exact er26 | exact er27 | exact er28 | exact er29 | exact er30 | exact er31 | exact er32 | exact er33 | exact ep0 hb | exact ep1 hb | exact ep3 hb | exact ep5 hb | exact ep7 hb) rfl (Nat.le_of_ble_eq_true rfl) (by decide) ?_
        rw [e29 _ (by omega) (by omega)]
        have r9 := hlb (17 + i) (by omega) (by omega)
        refine eg_if_ne 131 dX4_tightStop_113 ⟨by omega, by omega⟩ rfl (fun h113 => ?_) (fun h113 => ?_)
        · refine eg_iinc dX4_tightStop_131 rfl rfl rfl ?_
          refine eg_goto 95 dX4_tightStop_134 rfl ?_
          obtain ⟨m9, e9⟩ : ∃ m9 : Nat, (7 - i).toNat = m9 + 1 := ⟨(7 - i).toNat - 1, by omega⟩
          have y1 : ¬ tq v l (17 + i) = true := fun hh => by have h2 := (tq_to hh).2; rw [show stQ v (17 + i) = 17 + i by unfold stQ; rw [if_neg (by omega)]] at h2; exact absurd h2 (by omega)
          refine ih (i + 1) f (by omega) (by omega) f0 (by omega) ?_ (by omega)
          rw [← hi, e9, ti_n y1, show (7 - (i + 1)).toNat = m9 by omega]
          try (congr 1; omega)
        · refine eg_iload_n dX4_tightStop_116 rfl ?_
          refine eg_iinc dX4_tightStop_117 rfl rfl rfl ?_
          refine eg_iload_n dX4_tightStop_120 rfl ?_
          refine eg_icmp_ne 131 dX4_tightStop_121 ⟨by omega, by omega⟩ ⟨by omega, by omega⟩ rfl (fun h121 => ?_) (fun h121 => ?_)
          · refine eg_iinc dX4_tightStop_131 rfl rfl rfl ?_
            refine eg_goto 95 dX4_tightStop_134 rfl ?_
            obtain ⟨m9, e9⟩ : ∃ m9 : Nat, (7 - i).toNat = m9 + 1 := ⟨(7 - i).toNat - 1, by omega⟩
            have y1 : tq v l (17 + i) = true := tq_of ⟨Or.inr (Or.inr ⟨by omega, by omega, by omega⟩), by rw [show stQ v (17 + i) = 17 + i by unfold stQ; rw [if_neg (by omega)]]; omega⟩
            refine ih (i + 1) (f + 1) (by omega) (by omega) (by omega) (by omega) ?_ (by omega)
            rw [← hi, e9, ti_y y1 (by omega), show (7 - (i + 1)).toNat = m9 by omega]
            try (congr 1; omega)
          · refine eg_sipush dX4_tightStop_124 (by decide) ?_
            refine eg_iload dX4_tightStop_127 rfl ?_
            refine eg_iadd dX4_tightStop_129 ?_
            refine eg_ireturn dX4_tightStop_130 rfl rfl ?_
            have y1 : tq v l (17 + i) = true := tq_of ⟨Or.inr (Or.inr ⟨by omega, by omega, by omega⟩), by rw [show stQ v (17 + i) = 17 + i by unfold stQ; rw [if_neg (by omega)]]; omega⟩
            obtain ⟨m9, e9⟩ : ∃ m9 : Nat, (7 - i).toNat = m9 + 1 := ⟨(7 - i).toNat - 1, by omega⟩
            rw [← hi, e9, ti_e y1 (by omega)]
            exact ⟨congrArg (fun q => some (vI q)) (by unfold cdT; (repeat (first | rw [if_pos (by omega)] | rw [if_neg (by omega)])) <;> omega), rfl, rfl⟩
  have L1 : ∀ (m : Nat) (i : Int) (f : Int), 0 ≤ i → i ≤ segs v → 0 ≤ f → f ≤ 10 + i → tiN (tq v l) r (14 - i).toNat (10 + i) f = tiN (tq v l) r 24 0 0 → segs v - i < (m : Int) → eg_E k gX4_tightStop 3 0 0 n (enc k z X) [vR k 25, vR k b, vI r, vI f, vI i] [] 50 (eg_f (some (vI (tiN (tq v l) r 24 0 0))) n (enc k z X)) := by
    intro m
    induction m with
    | zero => intro i f h0 h1 f0 f1 hi hm; exfalso; omega
    | succ m ih =>
      intro i f h0 h1 f0 f1 hi hm
      refine eg_iload dX4_tightStop_50 rfl ?_
      refine eg_al_n dX4_tightStop_52 rfl rfl ?_
      refine eg_get fl_X4_88 dX4_tightStop_53 (by first | exact er25 | exact er26 | exact er27 | exact er28 | exact er29 | exact er30 | exact er31 | exact er32 | exact er33 | exact ep0 hb | exact ep1 hb | exact ep3 hb | exact ep5 hb | exact ep7 hb) rfl ?_
      refine eg_get fl_X4_72 dX4_tightStop_56 (by first | exact er25 | exact er26 | exact er27 | exact er28 | exact er29 | exact er30 | exact er31 | exact er32 | exact er33 | exact ep0 hb | exact ep1 hb | exact ep3 hb | exact ep5 hb | exact ep7 hb) rfl ?_
      rw [c1]
      refine eg_icmp_ge 92 dX4_tightStop_59 ⟨by omega, by omega⟩ ⟨by omega, by omega⟩ rfl (fun h59 => ?_) (fun h59 => ?_)
      · refine eg_iconst dX4_tightStop_92 ?_
        refine eg_istore dX4_tightStop_93 rfl rfl rfl ?_
        refine L2 8 0 f (by omega) (by omega) (by omega) (by omega) ?_ (by omega)
        rw [← hi]
        exact (ti_s (by omega) (by omega) (by omega) (fun j g0 g1 hh => by have h9 := (tq_to hh).1; unfold isQ at h9; omega)).symm
      · refine eg_al_n dX4_tightStop_62 rfl rfl ?_
        refine eg_iload dX4_tightStop_63 rfl ?_
        refine eg_Vf1 cs_X4_139 dX4_tightStop_65 (c_X4_leftUp h0 (by omega)) (by first | exact er25 | exact er26 | exact er27 | exact er28 | exact er29 | exact er30 | exact er31 | exact er32 | exact er33 | exact ep0 hb | exact ep1 hb | exact ep3 hb | exact ep5 hb | exact ep7 hb) rfl (Nat.le_of_ble_eq_true rfl) (by decide) ?_
        rw [e29 _ (by omega) (by omega)]
        have r9 := hlb (10 + i) (by omega) (by omega)
        refine eg_if_ne 86 dX4_tightStop_68 ⟨by omega, by omega⟩ rfl (fun h68 => ?_) (fun h68 => ?_)
        · refine eg_iinc dX4_tightStop_86 rfl rfl rfl ?_
          refine eg_goto 50 dX4_tightStop_89 rfl ?_
          obtain ⟨m9, e9⟩ : ∃ m9 : Nat, (14 - i).toNat = m9 + 1 := ⟨(14 - i).toNat - 1, by omega⟩
          have y1 : ¬ tq v l (10 + i) = true := fun hh => by have h2 := (tq_to hh).2; rw [show stQ v (10 + i) = 10 + i by unfold stQ; rw [if_neg (by omega)]] at h2; exact absurd h2 (by omega)
          refine ih (i + 1) f (by omega) (by omega) f0 (by omega) ?_ (by omega)
          rw [← hi, e9, ti_n y1, show (14 - (i + 1)).toNat = m9 by omega]
          try (congr 1; omega)
        · refine eg_iload_n dX4_tightStop_71 rfl ?_
          refine eg_iinc dX4_tightStop_72 rfl rfl rfl ?_
          refine eg_iload_n dX4_tightStop_75 rfl ?_
          refine eg_icmp_ne 86 dX4_tightStop_76 ⟨by omega, by omega⟩ ⟨by omega, by omega⟩ rfl (fun h76 => ?_) (fun h76 => ?_)
          · refine eg_iinc dX4_tightStop_86 rfl rfl rfl ?_
            refine eg_goto 50 dX4_tightStop_89 rfl ?_
            obtain ⟨m9, e9⟩ : ∃ m9 : Nat, (14 - i).toNat = m9 + 1 := ⟨(14 - i).toNat - 1, by omega⟩
            have y1 : tq v l (10 + i) = true := tq_of ⟨Or.inr (Or.inl ⟨by omega, by omega, by omega⟩), by rw [show stQ v (10 + i) = 10 + i by unfold stQ; rw [if_neg (by omega)]]; omega⟩
            refine ih (i + 1) (f + 1) (by omega) (by omega) (by omega) (by omega) ?_ (by omega)
            rw [← hi, e9, ti_y y1 (by omega), show (14 - (i + 1)).toNat = m9 by omega]
            try (congr 1; omega)
          · refine eg_sipush dX4_tightStop_79 (by decide) ?_
            refine eg_iload dX4_tightStop_82 rfl ?_
            refine eg_iadd dX4_tightStop_84 ?_
            refine eg_ireturn dX4_tightStop_85 rfl rfl ?_
            have y1 : tq v l (10 + i) = true := tq_of ⟨Or.inr (Or.inl ⟨by omega, by omega, by omega⟩), by rw [show stQ v (10 + i) = 10 + i by unfold stQ; rw [if_neg (by omega)]]; omega⟩
            obtain ⟨m9, e9⟩ : ∃ m9 : Nat, (14 - i).toNat = m9 + 1 := ⟨(14 - i).toNat - 1, by omega⟩
            rw [← hi, e9, ti_e y1 (by omega)]
            exact ⟨congrArg (fun q => some (vI q)) (by unfold cdT; (repeat (first | rw [if_pos (by omega)] | rw [if_neg (by omega)])) <;> omega), rfl, rfl⟩
  have L0 : ∀ (m : Nat) (i : Int) (f : Int), 0 ≤ i → i ≤ v 1 → 0 ≤ f → f ≤ i → tiN (tq v l) r (24 - i).toNat (i) f = tiN (tq v l) r 24 0 0 → v 1 - i < (m : Int) → eg_E k gX4_tightStop 3 0 0 n (enc k z X) [vR k 25, vR k b, vI r, vI f, vI i] [] 5 (eg_f (some (vI (tiN (tq v l) r 24 0 0))) n (enc k z X)) := by
    intro m
    induction m with
    | zero => intro i f h0 h1 f0 f1 hi hm; exfalso; omega
    | succ m ih =>
      intro i f h0 h1 f0 f1 hi hm
      refine eg_iload dX4_tightStop_5 rfl ?_
      refine eg_al_n dX4_tightStop_7 rfl rfl ?_
      refine eg_get fl_X4_81 dX4_tightStop_8 (by first | exact er25 | exact er26 | exact er27 | exact er28 | exact er29 | exact er30 | exact er31 | exact er32 | exact er33 | exact ep0 hb | exact ep1 hb | exact ep3 hb | exact ep5 hb | exact ep7 hb) rfl ?_
      refine eg_get fl_X4_72 dX4_tightStop_11 (by first | exact er25 | exact er26 | exact er27 | exact er28 | exact er29 | exact er30 | exact er31 | exact er32 | exact er33 | exact ep0 hb | exact ep1 hb | exact ep3 hb | exact ep5 hb | exact ep7 hb) rfl ?_
      rw [c3]
      refine eg_icmp_ge 47 dX4_tightStop_14 ⟨by omega, by omega⟩ ⟨by omega, by omega⟩ rfl (fun h14 => ?_) (fun h14 => ?_)
      · refine eg_iconst dX4_tightStop_47 ?_
        refine eg_istore dX4_tightStop_48 rfl rfl rfl ?_
        refine L1 8 0 f (by omega) (by omega) (by omega) (by omega) ?_ (by omega)
        rw [← hi]
        exact (ti_s (by omega) (by omega) (by omega) (fun j g0 g1 hh => by have h9 := (tq_to hh).1; unfold isQ at h9; omega)).symm
      · refine eg_al_n dX4_tightStop_17 rfl rfl ?_
        refine eg_al_n dX4_tightStop_18 rfl rfl ?_
        refine eg_iload dX4_tightStop_19 rfl ?_
        refine eg_Vf2 cs_X4_135 dX4_tightStop_21 (c_X4_leftAtPoint hb hp hv h0 h14) (by first | exact er25 | exact er26 | exact er27 | exact er28 | exact er29 | exact er30 | exact er31 | exact er32 | exact er33 | exact ep0 hb | exact ep1 hb | exact ep3 hb | exact ep5 hb | exact ep7 hb) rfl (Nat.le_of_ble_eq_true rfl) (by decide) ?_
        rw [e29 _ (by (first | omega | (unfold stQ; split <;> (try split) <;> omega))) (by (first | omega | (unfold stQ; split <;> (try split) <;> omega)))]
        have r9 := hlb (stQ v i) (by (first | omega | (unfold stQ; split <;> (try split) <;> omega))) (by (first | omega | (unfold stQ; split <;> (try split) <;> omega)))
        refine eg_if_ne 41 dX4_tightStop_24 ⟨by omega, by omega⟩ rfl (fun h24 => ?_) (fun h24 => ?_)
        · refine eg_iinc dX4_tightStop_41 rfl rfl rfl ?_
          refine eg_goto 5 dX4_tightStop_44 rfl ?_
          obtain ⟨m9, e9⟩ : ∃ m9 : Nat, (24 - i).toNat = m9 + 1 := ⟨(24 - i).toNat - 1, by omega⟩
          have y1 : ¬ tq v l (i) = true := fun hh => by have h2 := (tq_to hh).2; skip; exact absurd h2 (by omega)
          refine ih (i + 1) f (by omega) (by omega) f0 (by omega) ?_ (by omega)
          rw [← hi, e9, ti_n y1, show (24 - (i + 1)).toNat = m9 by omega]
          try (congr 1; omega)
        · refine eg_iload_n dX4_tightStop_27 rfl ?_
          refine eg_iinc dX4_tightStop_28 rfl rfl rfl ?_
          refine eg_iload_n dX4_tightStop_31 rfl ?_
          refine eg_icmp_ne 41 dX4_tightStop_32 ⟨by omega, by omega⟩ ⟨by omega, by omega⟩ rfl (fun h32 => ?_) (fun h32 => ?_)
          · refine eg_iinc dX4_tightStop_41 rfl rfl rfl ?_
            refine eg_goto 5 dX4_tightStop_44 rfl ?_
            obtain ⟨m9, e9⟩ : ∃ m9 : Nat, (24 - i).toNat = m9 + 1 := ⟨(24 - i).toNat - 1, by omega⟩
            have y1 : tq v l (i) = true := tq_of ⟨Or.inl ⟨by omega, by omega⟩, by omega⟩
            refine ih (i + 1) (f + 1) (by omega) (by omega) (by omega) (by omega) ?_ (by omega)
            rw [← hi, e9, ti_y y1 (by omega), show (24 - (i + 1)).toNat = m9 by omega]
            try (congr 1; omega)
          · refine eg_bipush dX4_tightStop_35 (by decide) ?_
            refine eg_iload dX4_tightStop_37 rfl ?_
            refine eg_iadd dX4_tightStop_39 ?_
            refine eg_ireturn dX4_tightStop_40 rfl rfl ?_
            have y1 : tq v l (i) = true := tq_of ⟨Or.inl ⟨by omega, by omega⟩, by omega⟩
            obtain ⟨m9, e9⟩ : ∃ m9 : Nat, (24 - i).toNat = m9 + 1 := ⟨(24 - i).toNat - 1, by omega⟩
            rw [← hi, e9, ti_e y1 (by omega)]
            exact ⟨congrArg (fun q => some (vI q)) (by unfold cdT; (repeat (first | rw [if_pos (by omega)] | rw [if_neg (by omega)])) <;> omega), rfl, rfl⟩
  refine eg_iconst dX4_tightStop_0 ?_
  refine eg_istore_n dX4_tightStop_1 rfl rfl rfl ?_
  refine eg_iconst dX4_tightStop_2 ?_
  refine eg_istore dX4_tightStop_3 rfl rfl rfl ?_
  exact L0 11 0 0 (by omega) (by omega) (by omega) (by omega) rfl (by omega)
def shF (v : eg_v) (p : Int → Int) (s q : Int) : Int := if s = -1 ∨ gN v q 0 = s then p q else 0
/-- the thousandths that are scheduled -/
def shR (v : eg_v) (p : Int → Int) (s : Int) : Int := if sNom v s ≤ 0 then 1000 else sm (shF v p s) (v 3).toNat * 1000 / sNom v s
theorem shF_b {v : eg_v} {p : Int → Int} {s : Int} (h : okp v p) : ∀ i : Int, 0 ≤ i → i < ((v 3).toNat : Int) → 0 ≤ shF v p s i ∧ shF v p s i ≤ 9999 := fun i h0 h1 => by
  unfold shF
  have := h i h0 (by omega)
  split <;> omega
theorem sNom_b {v : eg_v} {B : Int} (hv : VV B v) (s : Int) : 0 ≤ sNom v s ∧ sNom v s ≤ 9999 * 16 := by
  have q := hv.r.2
  have a := sm_b (f := nomF v s) (K := 9999) (n := (v 3).toNat) (fun i h0 h1 => by
    have := (hv.N h0 (show i < v 3 by omega)).2.2.2.2
    unfold nomF
    split <;> omega)
  unfold sNom
  omega
theorem c_X4_share {k : eg_K} {z : eg_Z} {X : eg_M} {n b : Nat} {v : eg_v} {B : Int} (hb : isB b = true) (hp : hP z b v) (hv : VV B v) {p : Int → Int} {s : Int} (hs : iR s) (h25 : z 25 8 = v 3) (hpp : okp v p) (hq : ∀ q : Int, 0 ≤ q → q < v 3 → z 26 q.toNat = p q) : eg_P k gX4_share 3 0 0 [vR k 25, vR k b, vI s] n (enc k z X) (eg_f (some (vI (shR v p s))) n (enc k z X)) := by
  refine eg_P.of (by decide) (Nat.le_of_ble_eq_true rfl) ?_
  show eg_E k gX4_share 3 0 0 n (enc k z X) [vR k 25, vR k b, vI s, vU, vU, vU] [] 0 _
  have q := hv.r.2
  have hs1 := hs.1; have hs2 := hs.2
  have nb := sNom_b hv s
  have K : ¬ sNom v s ≤ 0 → eg_E k gX4_share 3 0 0 n (enc k z X) [vR k 25, vR k b, vI s, vI (sNom v s), vI 0, vI 0] [] 20 (eg_f (some (vI (shR v p s))) n (enc k z X)) := by
    intro hn
    have L : ∀ (m : Nat) (i : Int), 0 ≤ i → i ≤ v 3 → v 3 - i < (m : Int) → eg_E k gX4_share 3 0 0 n (enc k z X) [vR k 25, vR k b, vI s, vI (sNom v s), vI (sm (shF v p s) i.toNat), vI i] [] 20 (eg_f (some (vI (shR v p s))) n (enc k z X)) := by
      intro m
      induction m with
      | zero => intro i h0 h1 hm; exfalso; omega
      | succ m ih =>
        intro i h0 h1 hm
        refine eg_iload dX4_share_20 rfl ?_
        refine eg_al_n dX4_share_22 rfl rfl ?_
        refine eg_get fl_X4_36 dX4_share_23 (by first | exact er25 | exact er26 | exact er27 | exact er28 | exact er29 | exact er30 | exact er31 | exact er32 | exact er33 | exact ep0 hb | exact ep1 hb | exact ep3 hb | exact ep5 hb | exact ep7 hb) rfl ?_
        rw [h25]
        refine eg_icmp_ge 62 dX4_share_26 ⟨by omega, by omega⟩ ⟨by omega, by omega⟩ rfl (fun h26 => ?_) (fun h26 => ?_)
        · have sb := sm_b (f := shF v p s) (K := 9999) (n := i.toNat) (fun j g0 g1 => shF_b hpp j g0 (by omega))
          have e9 : i.toNat = (v 3).toNat := by omega
          rw [e9] at sb ⊢
          refine eg_iload dX4_share_62 rfl ?_
          refine eg_sipush dX4_share_64 (by decide) ?_
          refine eg_imul dX4_share_67 ?_
          refine eg_iload_n dX4_share_68 rfl ?_
          refine eg_idiv dX4_share_69 ⟨by omega, by omega⟩ ⟨by omega, by omega⟩ (by omega) (by omega) ?_
          refine eg_ireturn dX4_share_70 rfl rfl ?_
          refine ⟨congrArg (fun q => some (vI q)) ?_, rfl, rfl⟩
          unfold shR
          rw [if_neg (by omega)]
        · refine eg_iload_n dX4_share_29 rfl ?_
          refine eg_iconst dX4_share_30 ?_
          have ok := hv.N h0 h26; unfold okN at ok
          refine eg_icmp_eq 44 dX4_share_31 ⟨by omega, by omega⟩ ⟨by omega, by omega⟩ rfl (fun h31 => ?_) (fun h31 => ?_)
          · refine eg_iload dX4_share_44 rfl ?_
            refine eg_al_n dX4_share_46 rfl rfl ?_
            refine eg_get fl_X4_11 dX4_share_47 (by first | exact er25 | exact er26 | exact er27 | exact er28 | exact er29 | exact er30 | exact er31 | exact er32 | exact er33 | exact ep0 hb | exact ep1 hb | exact ep3 hb | exact ep5 hb | exact ep7 hb) rfl ?_
            refine eg_iload dX4_share_50 rfl ?_
            refine eg_iald dX4_share_52 (by first | exact er25 | exact er26 | exact er27 | exact er28 | exact er29 | exact er30 | exact er31 | exact er32 | exact er33 | exact ep0 hb | exact ep1 hb | exact ep3 hb | exact ep5 hb | exact ep7 hb) (by omega) (by omega) (by decide) ?_
            rw [hq i h0 h26]
            refine eg_iadd dX4_share_53 ?_
            refine eg_istore dX4_share_54 rfl rfl rfl ?_
            refine eg_iinc dX4_share_56 rfl rfl rfl ?_
            refine eg_goto 20 dX4_share_59 rfl ?_
            have := ih (i + 1) (by omega) (by omega) (by omega)
            rw [sm_s (shF v p s) h0, show shF v p s i = _ from rfl] at this
            unfold shF at this
            first | (rw [if_pos (by omega)] at this; exact this) | (rw [if_neg (by omega), Int.add_zero] at this; exact this)
          · refine eg_al_n dX4_share_34 rfl rfl ?_
            refine eg_iload dX4_share_35 rfl ?_
            refine eg_Vf1 cs_X4_98 dX4_share_37 (c_X2_shipperOf hb hp hv h0 h26) (by first | exact er25 | exact er26 | exact er27 | exact er28 | exact er29 | exact er30 | exact er31 | exact er32 | exact er33 | exact ep0 hb | exact ep1 hb | exact ep3 hb | exact ep5 hb | exact ep7 hb) rfl (Nat.le_of_ble_eq_true rfl) (by decide) ?_
            refine eg_iload_n dX4_share_40 rfl ?_
            refine eg_icmp_ne 56 dX4_share_41 ⟨by omega, by omega⟩ ⟨by omega, by omega⟩ rfl (fun h41 => ?_) (fun h41 => ?_)
            · refine eg_iinc dX4_share_56 rfl rfl rfl ?_
              refine eg_goto 20 dX4_share_59 rfl ?_
              have := ih (i + 1) (by omega) (by omega) (by omega)
              rw [sm_s (shF v p s) h0, show shF v p s i = _ from rfl] at this
              unfold shF at this
              first | (rw [if_pos (by omega)] at this; exact this) | (rw [if_neg (by omega), Int.add_zero] at this; exact this)
            · refine eg_iload dX4_share_44 rfl ?_
              refine eg_al_n dX4_share_46 rfl rfl ?_
              refine eg_get fl_X4_11 dX4_share_47 (by first | exact er25 | exact er26 | exact er27 | exact er28 | exact er29 | exact er30 | exact er31 | exact er32 | exact er33 | exact ep0 hb | exact ep1 hb | exact ep3 hb | exact ep5 hb | exact ep7 hb) rfl ?_
              refine eg_iload dX4_share_50 rfl ?_
              refine eg_iald dX4_share_52 (by first | exact er25 | exact er26 | exact er27 | exact er28 | exact er29 | exact er30 | exact er31 | exact er32 | exact er33 | exact ep0 hb | exact ep1 hb | exact ep3 hb | exact ep5 hb | exact ep7 hb) (by omega) (by omega) (by decide) ?_
              rw [hq i h0 h26]
              refine eg_iadd dX4_share_53 ?_
              refine eg_istore dX4_share_54 rfl rfl rfl ?_
              refine eg_iinc dX4_share_56 rfl rfl rfl ?_
              refine eg_goto 20 dX4_share_59 rfl ?_
              have := ih (i + 1) (by omega) (by omega) (by omega)
              rw [sm_s (shF v p s) h0, show shF v p s i = _ from rfl] at this
              unfold shF at this
              first | (rw [if_pos (by omega)] at this; exact this) | (rw [if_neg (by omega), Int.add_zero] at this; exact this)
    exact L 17 0 (by omega) (by omega) (by omega)
  refine eg_al_n dX4_share_0 rfl rfl ?_
  refine eg_iload_n dX4_share_1 rfl ?_
  refine eg_Vf1 cs_X4_145 dX4_share_2 (c_X2_nominatedBy hb hp hv hs) (by first | exact er25 | exact er26 | exact er27 | exact er28 | exact er29 | exact er30 | exact er31 | exact er32 | exact er33 | exact ep0 hb | exact ep1 hb | exact ep3 hb | exact ep5 hb | exact ep7 hb) rfl (Nat.le_of_ble_eq_true rfl) (by decide) ?_
  refine eg_istore_n dX4_share_5 rfl rfl rfl ?_
  refine eg_iload_n dX4_share_6 rfl ?_
  refine eg_if_gt 14 dX4_share_7 ⟨by omega, by omega⟩ rfl (fun h7 => ?_) (fun h7 => ?_)
  · refine eg_iconst dX4_share_14 ?_
    refine eg_istore dX4_share_15 rfl rfl rfl ?_
    refine eg_iconst dX4_share_17 ?_
    refine eg_istore dX4_share_18 rfl rfl rfl ?_
    exact K (by omega)
  · refine eg_sipush dX4_share_10 (by decide) ?_
    refine eg_ireturn dX4_share_13 rfl rfl ?_
    refine ⟨congrArg (fun q => some (vI q)) ?_, rfl, rfl⟩
    unfold shR
    rw [if_pos (by omega)]
