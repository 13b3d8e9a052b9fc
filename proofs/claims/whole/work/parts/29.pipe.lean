/-- a nomination goes, later ones have a number less -/
def remV (v : eg_v) (r : Int) : eg_v := fun i => if i = 3 then v 3 - 1 else if 108 ≤ i ∧ i < 172 then (if 108 + 4 * (v 3 - 1) ≤ (i : Int) then 0 else if (i : Int) < 108 + 4 * r then v i else v (i + 4)) else v i
theorem remV_o {v : eg_v} {r : Int} {i : Nat} (hi : i ≠ 3) (h : i < 108 ∨ 172 ≤ i) : remV v r i = v i := by
  unfold remV
  rw [if_neg hi, if_neg (by omega)]
theorem remV_3 {v : eg_v} {r : Int} : remV v r 3 = v 3 - 1 := by unfold remV; rw [if_pos rfl]
theorem remV_N {v : eg_v} {r q c : Int} (h3 : v 3 ≤ 16) (h0 : 0 ≤ q) (h1 : q < v 3 - 1) (h2 : 0 ≤ c) (h4 : c < 4) : gN (remV v r) q c = if q < r then gN v q c else gN v (q + 1) c := by
  unfold gN remV
  rw [if_neg (by omega), if_pos (by omega), if_neg (by omega)]
  by_cases h : q < r
  · rw [if_pos (by omega), if_pos h]
  · rw [if_neg (by omega), if_neg h]
    congr 1; omega
def sh4 (f : Nat → Int) (lo hi : Int) : Nat → Int := fun q => if lo ≤ (q : Int) ∧ (q : Int) < hi then f (q + 4) else f q
theorem sh4_p {f : Nat → Int} {lo : Int} (i : Int) (h0 : 0 ≤ lo) (h1 : lo ≤ 4 * (i - 1)) : va_up (va_up (va_up (va_up (sh4 f lo (4 * (i - 1))) ((i - 1) * 4 + 0).toNat (f (i * 4 + 0).toNat)) ((i - 1) * 4 + 1).toNat (f (i * 4 + 1).toNat)) ((i - 1) * 4 + 2).toNat (f (i * 4 + 2).toNat)) ((i - 1) * 4 + 3).toNat (f (i * 4 + 3).toNat) = sh4 f lo (4 * (i + 1 - 1)) := by
  funext q
  unfold sh4
  simp only [va_up]
  split
  · rw [if_pos (by omega)]; congr 1; omega
  split
  · rw [if_pos (by omega)]; congr 1; omega
  split
  · rw [if_pos (by omega)]; congr 1; omega
  split
  · rw [if_pos (by omega)]; congr 1; omega
  by_cases h : lo ≤ (q : Int) ∧ (q : Int) < 4 * (i - 1)
  · rw [if_pos h, if_pos (by omega)]
  · rw [if_neg h, if_neg (by omega)]
theorem nm_drop {k : eg_K} {z : eg_Z} {X : eg_M} {n b : Nat} {v : eg_v} {B : Int} (hb : isB b = true) (hp : hP z b v) (hv : VV B v) {r : Int} (h0 : 0 ≤ r) (h1 : r < v 3) : eg_P k gX5_drop 1 0 0 [vR k (b + 7), vI r] n (enc k z X) (eg_p k none n X (fun z' => Md z z' b ∧ z' (b + 11) = z (b + 11) ∧ hP z' b (remV v r))) := by
  refine eg_P.of (by decide) (Nat.le_of_ble_eq_true rfl) ?_
  show eg_E k gX5_drop 1 0 0 n (enc k z X) [vR k (b + 7), vI r, vU, vU] [] 0 _
  have q := hv.r
  have c7 := hp.2.1.2.2.2
  have L : ∀ (m : Nat) (i : Int) (y : eg_Z) (u : Value), r + 1 ≤ i → i ≤ v 3 → (∀ c, c ≠ b + 8 → y c = z c) → y (b + 8) = sh4 (z (b + 8)) (4 * r) (4 * (i - 1)) → v 3 - i < (m : Int) → eg_E k gX5_drop 1 0 0 n (enc k y X) [vR k (b + 7), vI r, vI i, u] [] 13 (eg_p k none n X (fun z' => Md z z' b ∧ z' (b + 11) = z (b + 11) ∧ hP z' b (remV v r))) := by
    intro m
    induction m with
    | zero => intro i y u h0 h1 hy ha hmm; exfalso; omega
    | succ m ih =>
      intro i y u h0 h1 hy ha hmm
      have c7y : y (b + 7) 3 = v 3 := by rw [hy _ (by omega)]; exact c7
      refine eg_iload_n dX5_drop_13 rfl ?_
      refine eg_al_n dX5_drop_14 rfl rfl ?_
      refine eg_get fl_X5_9 dX5_drop_15 (by first | exact ep7 hb) rfl ?_
      rw [c7y]
      refine eg_icmp_ge 57 dX5_drop_18 ⟨by omega, by omega⟩ ⟨by omega, by omega⟩ rfl (fun h18 => ?_) (fun h18 => ?_)
      · refine eg_al_n dX5_drop_57 rfl rfl ?_
        refine eg_dup dX5_drop_58 rfl ?_
        refine eg_get fl_X5_9 dX5_drop_59 (by first | exact ep7 hb) rfl ?_
        refine eg_iconst dX5_drop_62 ?_
        refine eg_isub dX5_drop_63 ?_
        refine eg_put fl_X5_9 dX5_drop_64 (by first | exact ep7 hb) rfl rfl rfl rfl ?_
        refine eg_eqM (es7 hb) ?_
        refine eg_return dX5_drop_67 rfl ?_
        have e9 : i = v 3 := by omega
        rw [c7y]
        refine ⟨rfl, rfl, _, rfl, ?_, ?_, ?_⟩
        · intro c hc
          rw [va_up_n _ _ (by omega), hy c (by omega)]
        · rw [va_up_n _ _ (by omega), hy _ (by omega)]
        · refine hP_N hv hp (fun j h9 h8 => remV_o h9 h8) (fun j _ h7 h8 => ?_) ?_ ?_
          · rw [va_up_n _ _ (by omega), hy _ (by omega)]
          · rw [va_up_s, va_up_s, remV_3]
          · intro q9 c9 g0 g1 g2 g3
            rw [remV_3] at g1
            rw [va_up_n _ _ (by omega), ha, remV_N (by omega) g0 g1 g2 g3]
            unfold sh4
            by_cases hq : q9 < r
            · rw [if_neg (by omega), if_pos hq]
              exact hp.2.2.2.2.2.2.1 q9 c9 g0 (by omega) g2 g3
            · rw [if_pos (by omega), if_neg hq, ← hp.2.2.2.2.2.2.1 (q9 + 1) c9 (by omega) (by omega) g2 g3]
              congr 1; omega
      · have g0 : ∀ q : Nat, 4 * i ≤ (q : Int) → y (b + 8) q = z (b + 8) q := fun q9 hq9 => by rw [ha]; unfold sh4; rw [if_neg (by omega)]
        refine eg_iconst dX5_drop_21 ?_
        refine eg_istore_n dX5_drop_22 rfl rfl rfl ?_
        refine eg_iload_n dX5_drop_23 rfl ?_
        refine eg_al_n dX5_drop_24 rfl rfl ?_
        refine eg_get fl_X5_21 dX5_drop_25 (by first | exact ep7 hb) rfl ?_
        refine eg_icmp_ge 51 dX5_drop_28 ⟨by omega, by omega⟩ ⟨by omega, by omega⟩ rfl (fun h28 => absurd h28 (by omega)) (fun h28 => ?_)
        refine eg_al_n dX5_drop_31 rfl rfl ?_
        refine eg_iload_n dX5_drop_32 rfl ?_
        refine eg_iconst dX5_drop_33 ?_
        refine eg_isub dX5_drop_34 ?_
        refine eg_iload_n dX5_drop_35 rfl ?_
        refine eg_al_n dX5_drop_36 rfl rfl ?_
        refine eg_iload_n dX5_drop_37 rfl ?_
        refine eg_iload_n dX5_drop_38 rfl ?_
        refine eg_Vf2 cs_X5_31 dX5_drop_39 (c_X5_at (ep7 hb) (ep8 hb) ⟨by omega, by omega⟩ ⟨by omega, by omega⟩ ⟨by omega, by omega⟩ ⟨by omega, by omega⟩ (by decide)) (by first | exact ep7 hb) rfl (Nat.le_of_ble_eq_true rfl) (by decide) ?_
        refine eg_Vv3 cs_X5_34 dX5_drop_42 (c_X5_put (ep7 hb) (ep8 hb) ⟨by omega, by omega⟩ ⟨by omega, by omega⟩ ⟨by omega, by omega⟩ ⟨by omega, by omega⟩ (by decide)) (by first | exact ep7 hb) rfl (Nat.le_of_ble_eq_true rfl) (by decide) ?_
        refine eg_eqM (es8 hb) ?_
        generalize w1 : va_up y (b + 8) _ = y1
        have s1 : (∀ c, c ≠ b + 8 → y1 c = y c) ∧ y1 (b + 8) = va_up (y (b + 8)) ((i - 1) * 4 + 0).toNat (z (b + 8) (i * 4 + 0).toNat) := ⟨fun c hc9 => by rw [← w1, va_up_n _ _ hc9], by rw [← w1, va_up_s, g0 _ (by omega)]⟩
        clear w1
        have t1 : y1 (b + 7) 3 = v 3 := by rw [s1.1 _ (by omega)]; exact c7y
        have g1 : ∀ q : Nat, 4 * i ≤ (q : Int) → y1 (b + 8) q = z (b + 8) q := fun q9 hq9 => by rw [s1.2, va_up_n _ _ (by omega)]; exact g0 q9 hq9
        refine eg_iinc dX5_drop_45 rfl rfl rfl ?_
        refine eg_goto 23 dX5_drop_48 rfl ?_
        refine eg_iload_n dX5_drop_23 rfl ?_
        refine eg_al_n dX5_drop_24 rfl rfl ?_
        refine eg_get fl_X5_21 dX5_drop_25 (by first | exact ep7 hb) rfl ?_
        refine eg_icmp_ge 51 dX5_drop_28 ⟨by omega, by omega⟩ ⟨by omega, by omega⟩ rfl (fun h28 => absurd h28 (by omega)) (fun h28 => ?_)
        refine eg_al_n dX5_drop_31 rfl rfl ?_
        refine eg_iload_n dX5_drop_32 rfl ?_
        refine eg_iconst dX5_drop_33 ?_
        refine eg_isub dX5_drop_34 ?_
        refine eg_iload_n dX5_drop_35 rfl ?_
        refine eg_al_n dX5_drop_36 rfl rfl ?_
        refine eg_iload_n dX5_drop_37 rfl ?_
        refine eg_iload_n dX5_drop_38 rfl ?_
        refine eg_Vf2 cs_X5_31 dX5_drop_39 (c_X5_at (ep7 hb) (ep8 hb) ⟨by omega, by omega⟩ ⟨by omega, by omega⟩ ⟨by omega, by omega⟩ ⟨by omega, by omega⟩ (by decide)) (by first | exact ep7 hb) rfl (Nat.le_of_ble_eq_true rfl) (by decide) ?_
        refine eg_Vv3 cs_X5_34 dX5_drop_42 (c_X5_put (ep7 hb) (ep8 hb) ⟨by omega, by omega⟩ ⟨by omega, by omega⟩ ⟨by omega, by omega⟩ ⟨by omega, by omega⟩ (by decide)) (by first | exact ep7 hb) rfl (Nat.le_of_ble_eq_true rfl) (by decide) ?_
        refine eg_eqM (es8 hb) ?_
        generalize w2 : va_up y1 (b + 8) _ = y2
        have s2 : (∀ c, c ≠ b + 8 → y2 c = y1 c) ∧ y2 (b + 8) = va_up (y1 (b + 8)) ((i - 1) * 4 + 1).toNat (z (b + 8) (i * 4 + 1).toNat) := ⟨fun c hc9 => by rw [← w2, va_up_n _ _ hc9], by rw [← w2, va_up_s, g1 _ (by omega)]; simp only [Int.reduceAdd]⟩
        clear w2
        have t2 : y2 (b + 7) 3 = v 3 := by rw [s2.1 _ (by omega)]; exact t1
        have g2 : ∀ q : Nat, 4 * i ≤ (q : Int) → y2 (b + 8) q = z (b + 8) q := fun q9 hq9 => by rw [s2.2, va_up_n _ _ (by omega)]; exact g1 q9 hq9
        refine eg_iinc dX5_drop_45 rfl rfl rfl ?_
        refine eg_goto 23 dX5_drop_48 rfl ?_
        refine eg_iload_n dX5_drop_23 rfl ?_
        refine eg_al_n dX5_drop_24 rfl rfl ?_
        refine eg_get fl_X5_21 dX5_drop_25 (by first | exact ep7 hb) rfl ?_
        refine eg_icmp_ge 51 dX5_drop_28 ⟨by omega, by omega⟩ ⟨by omega, by omega⟩ rfl (fun h28 => absurd h28 (by omega)) (fun h28 => ?_)
        refine eg_al_n dX5_drop_31 rfl rfl ?_
        refine eg_iload_n dX5_drop_32 rfl ?_
        refine eg_iconst dX5_drop_33 ?_
        refine eg_isub dX5_drop_34 ?_
        refine eg_iload_n dX5_drop_35 rfl ?_
        refine eg_al_n dX5_drop_36 rfl rfl ?_
        refine eg_iload_n dX5_drop_37 rfl ?_
        refine eg_iload_n dX5_drop_38 rfl ?_
        refine eg_Vf2 cs_X5_31 dX5_drop_39 (c_X5_at (ep7 hb) (ep8 hb) ⟨by omega, by omega⟩ ⟨by omega, by omega⟩ ⟨by omega, by omega⟩ ⟨by omega, by omega⟩ (by decide)) (by first | exact ep7 hb) rfl (Nat.le_of_ble_eq_true rfl) (by decide) ?_
        refine eg_Vv3 cs_X5_34 dX5_drop_42 (c_X5_put (ep7 hb) (ep8 hb) ⟨by omega, by omega⟩ ⟨by omega, by omega⟩ ⟨by omega, by omega⟩ ⟨by omega, by omega⟩ (by decide)) (by first | exact ep7 hb) rfl (Nat.le_of_ble_eq_true rfl) (by decide) ?_
        refine eg_eqM (es8 hb) ?_
        generalize w3 : va_up y2 (b + 8) _ = y3
        have s3 : (∀ c, c ≠ b + 8 → y3 c = y2 c) ∧ y3 (b + 8) = va_up (y2 (b + 8)) ((i - 1) * 4 + 2).toNat (z (b + 8) (i * 4 + 2).toNat) := ⟨fun c hc9 => by rw [← w3, va_up_n _ _ hc9], by rw [← w3, va_up_s, g2 _ (by omega)]; simp only [Int.reduceAdd]⟩
        clear w3
        have t3 : y3 (b + 7) 3 = v 3 := by rw [s3.1 _ (by omega)]; exact t2
        have g3 : ∀ q : Nat, 4 * i ≤ (q : Int) → y3 (b + 8) q = z (b + 8) q := fun q9 hq9 => by rw [s3.2, va_up_n _ _ (by omega)]; exact g2 q9 hq9
        refine eg_iinc dX5_drop_45 rfl rfl rfl ?_
        refine eg_goto 23 dX5_drop_48 rfl ?_
        refine eg_iload_n dX5_drop_23 rfl ?_
        refine eg_al_n dX5_drop_24 rfl rfl ?_
        refine eg_get fl_X5_21 dX5_drop_25 (by first | exact ep7 hb) rfl ?_
        refine eg_icmp_ge 51 dX5_drop_28 ⟨by omega, by omega⟩ ⟨by omega, by omega⟩ rfl (fun h28 => absurd h28 (by omega)) (fun h28 => ?_)
        refine eg_al_n dX5_drop_31 rfl rfl ?_
        refine eg_iload_n dX5_drop_32 rfl ?_
        refine eg_iconst dX5_drop_33 ?_
        refine eg_isub dX5_drop_34 ?_
        refine eg_iload_n dX5_drop_35 rfl ?_
        refine eg_al_n dX5_drop_36 rfl rfl ?_
        refine eg_iload_n dX5_drop_37 rfl ?_
        refine eg_iload_n dX5_drop_38 rfl ?_
        refine eg_Vf2 cs_X5_31 dX5_drop_39 (c_X5_at (ep7 hb) (ep8 hb) ⟨by omega, by omega⟩ ⟨by omega, by omega⟩ ⟨by omega, by omega⟩ ⟨by omega, by omega⟩ (by decide)) (by first | exact ep7 hb) rfl (Nat.le_of_ble_eq_true rfl) (by decide) ?_
        refine eg_Vv3 cs_X5_34 dX5_drop_42 (c_X5_put (ep7 hb) (ep8 hb) ⟨by omega, by omega⟩ ⟨by omega, by omega⟩ ⟨by omega, by omega⟩ ⟨by omega, by omega⟩ (by decide)) (by first | exact ep7 hb) rfl (Nat.le_of_ble_eq_true rfl) (by decide) ?_
        refine eg_eqM (es8 hb) ?_
        generalize w4 : va_up y3 (b + 8) _ = y4
        have s4 : (∀ c, c ≠ b + 8 → y4 c = y3 c) ∧ y4 (b + 8) = va_up (y3 (b + 8)) ((i - 1) * 4 + 3).toNat (z (b + 8) (i * 4 + 3).toNat) := ⟨fun c hc9 => by rw [← w4, va_up_n _ _ hc9], by rw [← w4, va_up_s, g3 _ (by omega)]; simp only [Int.reduceAdd]⟩
        clear w4
        have t4 : y4 (b + 7) 3 = v 3 := by rw [s4.1 _ (by omega)]; exact t3
        have g4 : ∀ q : Nat, 4 * i ≤ (q : Int) → y4 (b + 8) q = z (b + 8) q := fun q9 hq9 => by rw [s4.2, va_up_n _ _ (by omega)]; exact g3 q9 hq9
        refine eg_iinc dX5_drop_45 rfl rfl rfl ?_
        refine eg_goto 23 dX5_drop_48 rfl ?_
        refine eg_iload_n dX5_drop_23 rfl ?_
        refine eg_al_n dX5_drop_24 rfl rfl ?_
        refine eg_get fl_X5_21 dX5_drop_25 (by first | exact ep7 hb) rfl ?_
        refine eg_icmp_ge 51 dX5_drop_28 ⟨by omega, by omega⟩ ⟨by omega, by omega⟩ rfl (fun h28 => ?_) (fun h28 => absurd h28 (by omega))
        refine eg_iinc dX5_drop_51 rfl rfl rfl ?_
        refine eg_goto 13 dX5_drop_54 rfl ?_
        refine ih (i + 1) y4 _ (by omega) (by omega) ?_ ?_ (by omega)
        · intro c hc
          rw [s4.1 c hc, s3.1 c hc, s2.1 c hc, s1.1 c hc, hy c hc]
        · rw [s4.2, s3.2, s2.2, s1.2, ha, sh4_p i (by omega) (by omega)]
  refine eg_al_n dX5_drop_0 rfl rfl ?_
  refine eg_iload_n dX5_drop_1 rfl ?_
  refine eg_Vf1 cs_X5_42 dX5_drop_2 (nm_has hb hp hv ⟨by omega, by omega⟩) (by first | exact ep7 hb) rfl (Nat.le_of_ble_eq_true rfl) (by decide) ?_
  refine eg_bi_ne 9 dX5_drop_5 rfl (fun h5 => ?_) (fun h5 => absurd h5 (by omega))
  refine eg_iload_n dX5_drop_9 rfl ?_
  refine eg_iconst dX5_drop_10 ?_
  refine eg_iadd dX5_drop_11 ?_
  refine eg_istore_n dX5_drop_12 rfl rfl rfl ?_
  refine L 17 (r + 1) z _ (by omega) (by omega) (fun _ _ => rfl) ?_ (by omega)
  funext q9
  unfold sh4
  rw [if_neg (by omega)]
