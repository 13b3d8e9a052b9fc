def bi (p : Prop) [Decidable p] : Int := if p then 1 else 0
theorem bi_R (p : Prop) [Decidable p] : iR (bi p) := by unfold bi; split <;> exact ⟨by decide, by decide⟩
theorem bi_0 {p : Prop} [Decidable p] : bi p = 0 ↔ ¬ p := by unfold bi; split <;> simp [*]
theorem bi_1 {p : Prop} [Decidable p] : bi p = 1 ↔ p := by unfold bi; split <;> simp [*]
theorem bi_nar (p : Prop) [Decidable p] : narrow .boolean (vI (bi p)) = vI (bi p) := by unfold bi; split <;> rfl
theorem eg_bi_eq {k : eg_K} {g : eg_G} {d bc bs n : Nat} {M : eg_M} {ls st : List Value} {pc : Nat} {Q : eg_Q} {p : Prop} [Decidable p] {off : Int} (tgt : Nat) (hd : decode g.2.1 pc = .ok (.ifCond .eq off, 3)) (ht : (pc : Int) + off = (tgt : Int)) (h1 : ¬ p → eg_E k g d bc bs n M ls st tgt Q) (h2 : p → eg_E k g d bc bs n M ls st (pc + 3) Q) : eg_E k g d bc bs n M ls (vI (bi p) :: st) pc Q :=
  eg_if_eq tgt hd (bi_R p) ht (fun h => h1 (bi_0.mp h)) (fun h => h2 (Classical.byContradiction fun q => h (bi_0.mpr q)))
theorem eg_bi_ne {k : eg_K} {g : eg_G} {d bc bs n : Nat} {M : eg_M} {ls st : List Value} {pc : Nat} {Q : eg_Q} {p : Prop} [Decidable p] {off : Int} (tgt : Nat) (hd : decode g.2.1 pc = .ok (.ifCond .ne off, 3)) (ht : (pc : Int) + off = (tgt : Int)) (h1 : p → eg_E k g d bc bs n M ls st tgt Q) (h2 : ¬ p → eg_E k g d bc bs n M ls st (pc + 3) Q) : eg_E k g d bc bs n M ls (vI (bi p) :: st) pc Q :=
  eg_if_ne tgt hd (bi_R p) ht (fun h => h1 (Classical.byContradiction fun q => h (bi_0.mpr q))) (fun h => h2 (bi_0.mp h))
theorem va_up_s {α : Type} (f : Nat → α) (i : Nat) (x : α) : va_up f i x i = x := by simp [va_up]
theorem va_up_n {α : Type} (f : Nat → α) {i j : Nat} (x : α) (h : j ≠ i) : va_up f i x j = f j := by simp [va_up, h]
/-- zeros from lo on -/
def zr (f : Nat → Int) (lo n : Nat) : Nat → Int := fun q => if lo ≤ q ∧ q < lo + n then 0 else f q
theorem c_X5_has {k : eg_K} {M : eg_M} {n t a : Nat} {cols most cnt : Int} {r : Int} (hT : M t = some (oO 6 [vI cols, vI most, vR k a, vI cnt])) (hr : iR r) (hc : iR cnt) : eg_P k gX5_has 0 0 0 [vR k t, vI r] n (M) (eg_f (some (vI (bi (0 ≤ r ∧ r < cnt)))) n (M)) := by
  refine eg_P.of (by decide) (Nat.le_of_ble_eq_true rfl) ?_
  show eg_E k gX5_has 0 0 0 n (M) [vR k t, vI r] [] 0 _
  have hr1 := hr.1; have hr2 := hr.2; have hc1 := hc.1; have hc2 := hc.2
  refine eg_iload_n dX5_has_0 rfl ?_
  refine eg_if_lt 16 dX5_has_1 ⟨by omega, by omega⟩ rfl (fun h1 => ?_) (fun h1 => ?_)
  · refine eg_iconst dX5_has_16 ?_
    refine eg_ireturn dX5_has_17 rfl rfl ?_
    exact ⟨congrArg (fun q => some (vI q)) (by first | rfl | (unfold bi; split <;> omega) | omega), rfl, rfl⟩
  · refine eg_iload_n dX5_has_4 rfl ?_
    refine eg_al_n dX5_has_5 rfl rfl ?_
    refine eg_get fl_X5_9 dX5_has_6 (by exact hT) rfl ?_
    refine eg_icmp_ge 16 dX5_has_9 ⟨by omega, by omega⟩ ⟨by omega, by omega⟩ rfl (fun h9 => ?_) (fun h9 => ?_)
    · refine eg_iconst dX5_has_16 ?_
      refine eg_ireturn dX5_has_17 rfl rfl ?_
      exact ⟨congrArg (fun q => some (vI q)) (by first | rfl | (unfold bi; split <;> omega) | omega), rfl, rfl⟩
    · refine eg_iconst dX5_has_12 ?_
      refine eg_goto 17 dX5_has_13 rfl ?_
      refine eg_ireturn dX5_has_17 rfl rfl ?_
      exact ⟨congrArg (fun q => some (vI q)) (by first | rfl | (unfold bi; split <;> omega) | omega), rfl, rfl⟩
theorem c_X5_isFull {k : eg_K} {M : eg_M} {n t a : Nat} {cols most cnt : Int} (hT : M t = some (oO 6 [vI cols, vI most, vR k a, vI cnt])) (hm : iR most) (hc : iR cnt) : eg_P k gX5_isFull 0 0 0 [vR k t] n (M) (eg_f (some (vI (bi (most ≤ cnt)))) n (M)) := by
  refine eg_P.of (by decide) (Nat.le_of_ble_eq_true rfl) ?_
  show eg_E k gX5_isFull 0 0 0 n (M) [vR k t] [] 0 _
  have hr1 := hm.1; have hr2 := hm.2; have hc1 := hc.1; have hc2 := hc.2
  refine eg_al_n dX5_isFull_0 rfl rfl ?_
  refine eg_get fl_X5_9 dX5_isFull_1 (by exact hT) rfl ?_
  refine eg_al_n dX5_isFull_4 rfl rfl ?_
  refine eg_get fl_X5_24 dX5_isFull_5 (by exact hT) rfl ?_
  refine eg_icmp_lt 15 dX5_isFull_8 ⟨by omega, by omega⟩ ⟨by omega, by omega⟩ rfl (fun h8 => ?_) (fun h8 => ?_)
  · refine eg_iconst dX5_isFull_15 ?_
    refine eg_ireturn dX5_isFull_16 rfl rfl ?_
    exact ⟨congrArg (fun q => some (vI q)) (by first | rfl | (unfold bi; split <;> omega) | omega), rfl, rfl⟩
  · refine eg_iconst dX5_isFull_11 ?_
    refine eg_goto 16 dX5_isFull_12 rfl ?_
    refine eg_ireturn dX5_isFull_16 rfl rfl ?_
    exact ⟨congrArg (fun q => some (vI q)) (by first | rfl | (unfold bi; split <;> omega) | omega), rfl, rfl⟩
theorem c_X5_at {k : eg_K} {M : eg_M} {n t a len : Nat} {cols most cnt : Int} {f : Nat → Int} {r c : Int} (hT : M t = some (oO 6 [vI cols, vI most, vR k a, vI cnt])) (hA : M a = some (aI k len f)) (hr : 0 ≤ r ∧ r < cnt) (hc : 0 ≤ c ∧ c < cols) (hi : 0 ≤ r * cols + c ∧ r * cols + c < len) (hb : cnt ≤ 100 ∧ cols ≤ 100) (hl : len ≤ 65536) : eg_P k gX5_at 0 0 0 [vR k t, vI r, vI c] n (M) (eg_f (some (vI (f (r * cols + c).toNat))) n (M)) := by
  refine eg_P.of (by decide) (Nat.le_of_ble_eq_true rfl) ?_
  show eg_E k gX5_at 0 0 0 n (M) [vR k t, vI r, vI c] [] 0 _
  refine eg_iload_n dX5_at_0 rfl ?_
  refine eg_if_lt 24 dX5_at_1 ⟨by omega, by omega⟩ rfl (fun h1 => absurd h1 (by omega)) (fun h1 => ?_)
  refine eg_iload_n dX5_at_4 rfl ?_
  refine eg_al_n dX5_at_5 rfl rfl ?_
  refine eg_get fl_X5_9 dX5_at_6 (by first | exact hT | exact hA) rfl ?_
  refine eg_icmp_ge 24 dX5_at_9 ⟨by omega, by omega⟩ ⟨by omega, by omega⟩ rfl (fun h9 => absurd h9 (by omega)) (fun h9 => ?_)
  refine eg_iload_n dX5_at_12 rfl ?_
  refine eg_if_lt 24 dX5_at_13 ⟨by omega, by omega⟩ rfl (fun h13 => absurd h13 (by omega)) (fun h13 => ?_)
  refine eg_iload_n dX5_at_16 rfl ?_
  refine eg_al_n dX5_at_17 rfl rfl ?_
  refine eg_get fl_X5_21 dX5_at_18 (by first | exact hT | exact hA) rfl ?_
  refine eg_icmp_lt 26 dX5_at_21 ⟨by omega, by omega⟩ ⟨by omega, by omega⟩ rfl (fun h21 => ?_) (fun h21 => absurd h21 (by omega))
  refine eg_al_n dX5_at_26 rfl rfl ?_
  refine eg_get fl_X5_27 dX5_at_27 (by first | exact hT | exact hA) rfl ?_
  refine eg_iload_n dX5_at_30 rfl ?_
  refine eg_al_n dX5_at_31 rfl rfl ?_
  refine eg_get fl_X5_21 dX5_at_32 (by first | exact hT | exact hA) rfl ?_
  refine eg_imul dX5_at_35 ?_
  refine eg_iload_n dX5_at_36 rfl ?_
  refine eg_iadd dX5_at_37 ?_
  refine eg_iald dX5_at_38 hA hi.1 hi.2 hl ?_
  refine eg_ireturn dX5_at_39 rfl rfl ?_
  exact ⟨rfl, rfl, rfl⟩
theorem c_X5_put {k : eg_K} {M : eg_M} {n t a len : Nat} {cols most cnt : Int} {f : Nat → Int} {r c x : Int} (hT : M t = some (oO 6 [vI cols, vI most, vR k a, vI cnt])) (hA : M a = some (aI k len f)) (hr : 0 ≤ r ∧ r < cnt) (hc : 0 ≤ c ∧ c < cols) (hi : 0 ≤ r * cols + c ∧ r * cols + c < len) (hb : cnt ≤ 100 ∧ cols ≤ 100) (hl : len ≤ 65536) : eg_P k gX5_put 0 0 0 [vR k t, vI r, vI c, vI x] n (M) (eg_f none n (va_up M a (some (aI k len (va_up f (r * cols + c).toNat x))))) := by
  refine eg_P.of (by decide) (Nat.le_of_ble_eq_true rfl) ?_
  show eg_E k gX5_put 0 0 0 n (M) [vR k t, vI r, vI c, vI x] [] 0 _
  refine eg_iload_n dX5_put_0 rfl ?_
  refine eg_if_lt 38 dX5_put_1 ⟨by omega, by omega⟩ rfl (fun h1 => absurd h1 (by omega)) (fun h1 => ?_)
  refine eg_iload_n dX5_put_4 rfl ?_
  refine eg_al_n dX5_put_5 rfl rfl ?_
  refine eg_get fl_X5_9 dX5_put_6 (by first | exact hT | exact hA) rfl ?_
  refine eg_icmp_ge 38 dX5_put_9 ⟨by omega, by omega⟩ ⟨by omega, by omega⟩ rfl (fun h9 => absurd h9 (by omega)) (fun h9 => ?_)
  refine eg_iload_n dX5_put_12 rfl ?_
  refine eg_if_lt 38 dX5_put_13 ⟨by omega, by omega⟩ rfl (fun h13 => absurd h13 (by omega)) (fun h13 => ?_)
  refine eg_iload_n dX5_put_16 rfl ?_
  refine eg_al_n dX5_put_17 rfl rfl ?_
  refine eg_get fl_X5_21 dX5_put_18 (by first | exact hT | exact hA) rfl ?_
  refine eg_icmp_ge 38 dX5_put_21 ⟨by omega, by omega⟩ ⟨by omega, by omega⟩ rfl (fun h21 => absurd h21 (by omega)) (fun h21 => ?_)
  refine eg_al_n dX5_put_24 rfl rfl ?_
  refine eg_get fl_X5_27 dX5_put_25 (by first | exact hT | exact hA) rfl ?_
  refine eg_iload_n dX5_put_28 rfl ?_
  refine eg_al_n dX5_put_29 rfl rfl ?_
  refine eg_get fl_X5_21 dX5_put_30 (by first | exact hT | exact hA) rfl ?_
  refine eg_imul dX5_put_33 ?_
  refine eg_iload_n dX5_put_34 rfl ?_
  refine eg_iadd dX5_put_35 ?_
  refine eg_iload_n dX5_put_36 rfl ?_
  refine eg_iast dX5_put_37 hA hi.1 hi.2 hl ?_
  refine eg_return dX5_put_38 rfl ?_
  exact ⟨rfl, rfl, rfl⟩
theorem c_X5_raise {k : eg_K} {M : eg_M} {n t a len : Nat} {cols most cnt : Int} {f : Nat → Int} {r c x : Int} (hT : M t = some (oO 6 [vI cols, vI most, vR k a, vI cnt])) (hA : M a = some (aI k len f)) (hr : 0 ≤ r ∧ r < cnt) (hc : 0 ≤ c ∧ c < cols) (hi : 0 ≤ r * cols + c ∧ r * cols + c < len) (hb : cnt ≤ 100 ∧ cols ≤ 100) (hl : len ≤ 65536) : eg_P k gX5_raise 1 0 0 [vR k t, vI r, vI c, vI x] n (M) (eg_f none n (va_up M a (some (aI k len (va_up f (r * cols + c).toNat (f (r * cols + c).toNat + x)))))) := by
  refine eg_P.of (by decide) (Nat.le_of_ble_eq_true rfl) ?_
  show eg_E k gX5_raise 1 0 0 n (M) [vR k t, vI r, vI c, vI x] [] 0 _
  refine eg_al_n dX5_raise_0 rfl rfl ?_
  refine eg_iload_n dX5_raise_1 rfl ?_
  refine eg_iload_n dX5_raise_2 rfl ?_
  refine eg_al_n dX5_raise_3 rfl rfl ?_
  refine eg_iload_n dX5_raise_4 rfl ?_
  refine eg_iload_n dX5_raise_5 rfl ?_
  refine eg_Vf2 cs_X5_31 dX5_raise_6 (c_X5_at hT hA hr hc hi hb hl) (by exact hT) rfl (Nat.le_of_ble_eq_true rfl) (by decide) ?_
  refine eg_iload_n dX5_raise_9 rfl ?_
  refine eg_iadd dX5_raise_10 ?_
  refine eg_Vv3 cs_X5_34 dX5_raise_11 (c_X5_put hT hA hr hc hi hb hl) (by exact hT) rfl (Nat.le_of_ble_eq_true rfl) (by decide) ?_
  refine eg_return dX5_raise_14 rfl ?_
  exact ⟨rfl, rfl, rfl⟩
