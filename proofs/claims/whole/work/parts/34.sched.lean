def agr (v : eg_v) (p p' : Int → Int) : Prop := ∀ q : Int, 0 ≤ q → q < v 3 → p q = p' q
theorem okp_c {v : eg_v} {p p' : Int → Int} (h : okp v p) (e : agr v p' p) : okp v p' := fun q h0 h1 => by rw [e q h0 h1]; exact h q h0 h1
theorem tg_c {v : eg_v} {c : Int} {p p' : Int → Int} (e : agr v p p') : tg v c p = tg v c p' := sm_c (fun i h0 h1 => by unfold tgF; rw [e i h0 (by omega)])
theorem qt_c {v : eg_v} {c l : Int} {p p' : Int → Int} (e : agr v p p') : agr v (qt v c l p) (qt v c l p') := fun q h0 h1 => by unfold qt; rw [e q h0 h1, tg_c e]
theorem ov_c {v : eg_v} {c l : Int} {p p' : Int → Int} (e : agr v p p') : ∀ m : Nat, (m : Int) ≤ v 3 ∨ m = 0 → ov v c l p m = ov v c l p' m
  | 0, _ => by
    show l - tg v c (qt v c l p) = l - tg v c (qt v c l p')
    rw [tg_c (qt_c e)]
  | m + 1, h => by
    show (if 0 < ov v c l p m ∧ qt v c l p m < p m then ov v c l p m - 1 else ov v c l p m) = (if 0 < ov v c l p' m ∧ qt v c l p' m < p' m then ov v c l p' m - 1 else ov v c l p' m)
    rw [ov_c e m (by omega), qt_c e m (by omega) (by omega), e m (by omega) (by omega)]
theorem sqP_c {v : eg_v} {c l : Int} {p p' : Int → Int} (e : agr v p p') : agr v (sqP v c l p) (sqP v c l p') := fun q h0 h1 => by unfold sqP; rw [tg_c e, e q h0 h1, qt_c e q h0 h1, ov_c e q.toNat (by omega)]
theorem sqC_c {v : eg_v} {c l : Int} {p p' ct ct' : Int → Int} (e : agr v p p') (e' : agr v ct ct') : agr v (sqC v c l p ct) (sqC v c l p' ct') := fun q h0 h1 => by unfold sqC; rw [sqP_c e q h0 h1, e q h0 h1, e' q h0 h1]
theorem pz_c {v : eg_v} {l l' p p' : Int → Int} (e : agr v p p') (el : ∀ c : Nat, c < 46 → l c = l' c) : ∀ m : Nat, m ≤ 46 → agr v (pz v l p m) (pz v l' p' m)
  | 0, _ => e
  | m + 1, h => by
    show agr v (sqP v m (l m) (pz v l p m)) (sqP v m (l' m) (pz v l' p' m))
    rw [el m (by omega)]
    exact sqP_c (pz_c e el m (by omega))
theorem cz_c {v : eg_v} {l l' p p' ct ct' : Int → Int} (e : agr v p p') (e' : agr v ct ct') (el : ∀ c : Nat, c < 46 → l c = l' c) : ∀ m : Nat, m ≤ 46 → agr v (cz v l p ct m) (cz v l' p' ct' m)
  | 0, _ => e'
  | m + 1, h => by
    show agr v (sqC v m (l m) (pz v l p m) (cz v l p ct m)) (sqC v m (l' m) (pz v l' p' m) (cz v l' p' ct' m))
    rw [el m (by omega)]
    exact sqC_c (pz_c e el m (by omega)) (cz_c e e' el m (by omega))
theorem cdC_b {c : Int} (h : 0 ≤ c ∧ c < 46) : 100 ≤ cdC c ∧ cdC c ≤ 500 := by unfold cdC; repeat (first | (split; omega)) <;> omega
theorem cz_b {v : eg_v} {l p ct : Int → Int} (h : ∀ q : Int, 0 ≤ q → q < v 3 → -2 ≤ ct q ∧ ct q ≤ 600) : ∀ m : Nat, m ≤ 46 → ∀ q : Int, 0 ≤ q → q < v 3 → -2 ≤ cz v l p ct m q ∧ cz v l p ct m q ≤ 600
  | 0, _ => h
  | m + 1, hm => fun q h0 h1 => by
    have a := cz_b (l := l) (p := p) h m (by omega) q h0 h1
    have b := cdC_b (c := m) ⟨by omega, by omega⟩
    show -2 ≤ sqC v m (l m) (pz v l p m) (cz v l p ct m) q ∧ sqC v m (l m) (pz v l p m) (cz v l p ct m) q ≤ 600
    unfold sqC
    split <;> omega
theorem c_X4_serve {k : eg_K} {z : eg_Z} {X : eg_M} {n : Nat} {v : eg_v} {B : Int} (hv : VV B v) (hm : z 25 8 = v 3) (hk : okp v (fun q : Int => z 32 q.toNat)) (hg : ∀ c : Nat, c < 46 → z 30 c = (gm v c (v 3).toNat : Int)) (hlb : ∀ c : Nat, c < 46 → 0 ≤ z 29 c ∧ z 29 c ≤ 19998) (hcu : ∀ q : Int, 0 ≤ q → q < v 3 → -2 ≤ z 28 q.toNat ∧ z 28 q.toNat ≤ 600) : eg_P k gX4_serve 2 0 0 [vR k 25] n (enc k z X) (eg_p k none n X (fun z' => (∀ d, d ≠ 26 → d ≠ 28 → d ≠ 29 → d ≠ 32 → d ≠ 33 → z' d = z d) ∧ (∀ c : Nat, c < 46 → z' 29 c = z 29 c - tg v c (pz v (fun c : Int => z 29 c.toNat) (fun q : Int => z 32 q.toNat) 46)) ∧ ∀ q : Int, 0 ≤ q → q < v 3 → z' 32 q.toNat = pz v (fun c : Int => z 29 c.toNat) (fun q : Int => z 32 q.toNat) 46 q ∧ z' 28 q.toNat = cz v (fun c : Int => z 29 c.toNat) (fun q : Int => z 32 q.toNat) (fun q : Int => z 28 q.toNat) 46 q ∧ z' 26 q.toNat = z 26 q.toNat + pz v (fun c : Int => z 29 c.toNat) (fun q : Int => z 32 q.toNat) 46 q)) := by
  refine eg_P.of (by decide) (Nat.le_of_ble_eq_true rfl) ?_
  show eg_E k gX4_serve 2 0 0 n (enc k z X) [vR k 25, vU] [] 0 _
  obtain ⟨-, -, -, q3, -⟩ := hv.r
  have hl0 : ∀ c : Nat, c < 46 → 0 ≤ (fun c : Int => z 29 c.toNat) c := fun c hc => (hlb c hc).1
  have L3 : ∀ (m : Nat) (i : Int) (y : eg_Z), 0 ≤ i → i ≤ v 3 → (∀ d, d ≠ 26 → d ≠ 28 → d ≠ 29 → d ≠ 32 → d ≠ 33 → y d = z d) → (∀ c : Nat, c < 46 → y 29 c = z 29 c - tg v c (pz v (fun c : Int => z 29 c.toNat) (fun q : Int => z 32 q.toNat) 46)) → (∀ q : Int, 0 ≤ q → q < v 3 → y 32 q.toNat = pz v (fun c : Int => z 29 c.toNat) (fun q : Int => z 32 q.toNat) 46 q ∧ y 28 q.toNat = cz v (fun c : Int => z 29 c.toNat) (fun q : Int => z 32 q.toNat) (fun q : Int => z 28 q.toNat) 46 q ∧ y 26 q.toNat = z 26 q.toNat + (if q < i then pz v (fun c : Int => z 29 c.toNat) (fun q : Int => z 32 q.toNat) 46 q else 0)) → v 3 - i < (m : Int) → eg_E k gX4_serve 2 0 0 n (enc k y X) [vR k 25, vI i] [] 54 (eg_p k none n X (fun z' => (∀ d, d ≠ 26 → d ≠ 28 → d ≠ 29 → d ≠ 32 → d ≠ 33 → z' d = z d) ∧ (∀ c : Nat, c < 46 → z' 29 c = z 29 c - tg v c (pz v (fun c : Int => z 29 c.toNat) (fun q : Int => z 32 q.toNat) 46)) ∧ ∀ q : Int, 0 ≤ q → q < v 3 → z' 32 q.toNat = pz v (fun c : Int => z 29 c.toNat) (fun q : Int => z 32 q.toNat) 46 q ∧ z' 28 q.toNat = cz v (fun c : Int => z 29 c.toNat) (fun q : Int => z 32 q.toNat) (fun q : Int => z 28 q.toNat) 46 q ∧ z' 26 q.toNat = z 26 q.toNat + pz v (fun c : Int => z 29 c.toNat) (fun q : Int => z 32 q.toNat) 46 q)) := by
    intro m
    induction m with
    | zero => intro i y h0 h1 hy hl hi hmm; exfalso; omega
    | succ m ih =>
      intro i y h0 h1 hy hl hi hmm
      have my : y 25 8 = v 3 := by rw [hy _ (by decide) (by decide) (by decide) (by decide) (by decide)]; exact hm
      refine eg_iload_n dX4_serve_54 rfl ?_
      refine eg_al_n dX4_serve_55 rfl rfl ?_
      refine eg_get fl_X4_36 dX4_serve_56 (by first | exact er25 | exact er26 | exact er27 | exact er28 | exact er29 | exact er30 | exact er31 | exact er32 | exact er33) rfl ?_
      rw [my]
      refine eg_icmp_ge 83 dX4_serve_59 ⟨by omega, by omega⟩ ⟨by omega, by omega⟩ rfl (fun h59 => ?_) (fun h59 => ?_)
      · refine eg_return dX4_serve_83 rfl ?_
        have e9 : i = v 3 := by omega
        refine ⟨rfl, rfl, y, rfl, hy, hl, fun q g0 g1 => ?_⟩
        obtain ⟨j1, j2, j3⟩ := hi q g0 g1
        rw [if_pos (by omega)] at j3
        exact ⟨j1, j2, j3⟩
      · obtain ⟨i1, i2, i3⟩ := hi i h0 h59
        rw [if_neg (by omega)] at i3
        refine eg_al_n dX4_serve_62 rfl rfl ?_
        refine eg_get fl_X4_11 dX4_serve_63 (by first | exact er25 | exact er26 | exact er27 | exact er28 | exact er29 | exact er30 | exact er31 | exact er32 | exact er33) rfl ?_
        refine eg_iload_n dX4_serve_66 rfl ?_
        refine eg_dup2 dX4_serve_67 rfl rfl ?_
        refine eg_iald dX4_serve_68 (by first | exact er25 | exact er26 | exact er27 | exact er28 | exact er29 | exact er30 | exact er31 | exact er32 | exact er33) (by omega) (by omega) (by decide) ?_
        rw [i3]
        refine eg_al_n dX4_serve_69 rfl rfl ?_
        refine eg_get fl_X4_30 dX4_serve_70 (by first | exact er25 | exact er26 | exact er27 | exact er28 | exact er29 | exact er30 | exact er31 | exact er32 | exact er33) rfl ?_
        refine eg_iload_n dX4_serve_73 rfl ?_
        refine eg_iald dX4_serve_74 (by first | exact er25 | exact er26 | exact er27 | exact er28 | exact er29 | exact er30 | exact er31 | exact er32 | exact er33) (by omega) (by omega) (by decide) ?_
        rw [i1]
        refine eg_iadd dX4_serve_75 ?_
        refine eg_iast dX4_serve_76 (by first | exact er25 | exact er26 | exact er27 | exact er28 | exact er29 | exact er30 | exact er31 | exact er32 | exact er33) (by omega) (by omega) (by decide) ?_
        refine eg_eqM (es26) ?_
        generalize w1 : va_up y 26 _ = y1
        refine eg_iinc dX4_serve_77 rfl rfl rfl ?_
        refine eg_goto 54 dX4_serve_80 rfl ?_
        refine ih (i + 1) y1 (by omega) (by omega) ?_ ?_ ?_ (by omega)
        · intro d h26 h28 h29 h32 h33; rw [← w1, va_up_n _ _ h26]; exact hy d h26 h28 h29 h32 h33
        · intro c hc; rw [← w1, va_up_n _ _ (by decide)]; exact hl c hc
        · intro q g0 g1
          obtain ⟨j1, j2, j3⟩ := hi q g0 g1
          refine ⟨by rw [← w1, va_up_n _ _ (by decide)]; exact j1, by rw [← w1, va_up_n _ _ (by decide)]; exact j2, ?_⟩
          rw [← w1, va_up_s]
          by_cases hq : q = i
          · subst hq; rw [va_up_s, if_pos (by omega)]; omega
          · rw [va_up_n _ _ (by omega), j3]
            by_cases g : q < i
            · rw [if_pos g, if_pos (by omega)]
            · rw [if_neg g, if_neg (by omega)]
  have L2 : ∀ (m : Nat) (i : Int) (y : eg_Z), 0 ≤ i → i ≤ 46 → (∀ d, d ≠ 26 → d ≠ 28 → d ≠ 29 → d ≠ 32 → d ≠ 33 → y d = z d) → (∀ c : Nat, c < 46 → y 29 c = (if (c : Int) < i then z 29 c - tg v c (pz v (fun c : Int => z 29 c.toNat) (fun q : Int => z 32 q.toNat) 46) else z 29 c)) → (∀ q : Int, 0 ≤ q → q < v 3 → y 32 q.toNat = pz v (fun c : Int => z 29 c.toNat) (fun q : Int => z 32 q.toNat) 46 q ∧ y 28 q.toNat = cz v (fun c : Int => z 29 c.toNat) (fun q : Int => z 32 q.toNat) (fun q : Int => z 28 q.toNat) 46 q ∧ y 26 q.toNat = z 26 q.toNat) → 46 - i < (m : Int) → eg_E k gX4_serve 2 0 0 n (enc k y X) [vR k 25, vI i] [] 21 (eg_p k none n X (fun z' => (∀ d, d ≠ 26 → d ≠ 28 → d ≠ 29 → d ≠ 32 → d ≠ 33 → z' d = z d) ∧ (∀ c : Nat, c < 46 → z' 29 c = z 29 c - tg v c (pz v (fun c : Int => z 29 c.toNat) (fun q : Int => z 32 q.toNat) 46)) ∧ ∀ q : Int, 0 ≤ q → q < v 3 → z' 32 q.toNat = pz v (fun c : Int => z 29 c.toNat) (fun q : Int => z 32 q.toNat) 46 q ∧ z' 28 q.toNat = cz v (fun c : Int => z 29 c.toNat) (fun q : Int => z 32 q.toNat) (fun q : Int => z 28 q.toNat) 46 q ∧ z' 26 q.toNat = z 26 q.toNat + pz v (fun c : Int => z 29 c.toNat) (fun q : Int => z 32 q.toNat) 46 q)) := by
    intro m
    induction m with
    | zero => intro i y h0 h1 hy hl hi hmm; exfalso; omega
    | succ m ih =>
      intro i y h0 h1 hy hl hi hmm
      have my : y 25 8 = v 3 := by rw [hy _ (by decide) (by decide) (by decide) (by decide) (by decide)]; exact hm
      have ey : agr v (fun q : Int => y 32 q.toNat) (pz v (fun c : Int => z 29 c.toNat) (fun q : Int => z 32 q.toNat) 46) := fun q g0 g1 => (hi q g0 g1).1
      have hky : okp v (fun q : Int => y 32 q.toNat) := okp_c (pz_b hk hl0 46 (by omega)).1 ey
      refine eg_iload_n dX4_serve_21 rfl ?_
      refine eg_bipush dX4_serve_22 (by decide) ?_
      refine eg_icmp_ge 52 dX4_serve_24 ⟨by omega, by omega⟩ ⟨by omega, by omega⟩ rfl (fun h24 => ?_) (fun h24 => ?_)
      · refine eg_iconst dX4_serve_52 ?_
        refine eg_istore_n dX4_serve_53 rfl rfl rfl ?_
        refine L3 17 0 y (by omega) (by omega) hy (fun c hc => ?_) (fun q g0 g1 => ?_) (by omega)
        · rw [hl c hc, if_pos (by omega)]
        · obtain ⟨j1, j2, j3⟩ := hi q g0 g1
          rw [if_neg (by omega)]
          exact ⟨j1, j2, by omega⟩
      · have hli := hl i.toNat (by omega)
        rw [if_neg (by omega)] at hli
        have hgi : y 30 i.toNat = (gm v i (v 3).toNat : Int) := by rw [hy _ (by decide) (by decide) (by decide) (by decide) (by decide), hg _ (by omega), Int.toNat_of_nonneg h0]
        refine eg_al_n dX4_serve_27 rfl rfl ?_
        refine eg_get fl_X4_21 dX4_serve_28 (by first | exact er25 | exact er26 | exact er27 | exact er28 | exact er29 | exact er30 | exact er31 | exact er32 | exact er33) rfl ?_
        refine eg_iload_n dX4_serve_31 rfl ?_
        refine eg_dup2 dX4_serve_32 rfl rfl ?_
        refine eg_iald dX4_serve_33 (by first | exact er25 | exact er26 | exact er27 | exact er28 | exact er29 | exact er30 | exact er31 | exact er32 | exact er33) (by omega) (by omega) (by decide) ?_
        rw [hli]
        refine eg_al_n dX4_serve_34 rfl rfl ?_
        refine eg_al_n dX4_serve_35 rfl rfl ?_
        refine eg_get fl_X4_24 dX4_serve_36 (by first | exact er25 | exact er26 | exact er27 | exact er28 | exact er29 | exact er30 | exact er31 | exact er32 | exact er33) rfl ?_
        refine eg_iload_n dX4_serve_39 rfl ?_
        refine eg_iald dX4_serve_40 (by first | exact er25 | exact er26 | exact er27 | exact er28 | exact er29 | exact er30 | exact er31 | exact er32 | exact er33) (by omega) (by omega) (by decide) ?_
        rw [hgi]
        refine eg_Vf1 cs_X4_122 dX4_serve_41 (c_X4_together (c := i) hv my hky) (by first | exact er25 | exact er26 | exact er27 | exact er28 | exact er29 | exact er30 | exact er31 | exact er32 | exact er33) rfl (Nat.le_of_ble_eq_true rfl) (by decide) ?_
        rw [tg_c ey]
        refine eg_isub dX4_serve_44 ?_
        refine eg_iast dX4_serve_45 (by first | exact er25 | exact er26 | exact er27 | exact er28 | exact er29 | exact er30 | exact er31 | exact er32 | exact er33) (by omega) (by omega) (by decide) ?_
        refine eg_eqM (es29) ?_
        generalize w1 : va_up y 29 _ = y1
        refine eg_iinc dX4_serve_46 rfl rfl rfl ?_
        refine eg_goto 21 dX4_serve_49 rfl ?_
        refine ih (i + 1) y1 (by omega) (by omega) ?_ ?_ ?_ (by omega)
        · intro d h26 h28 h29 h32 h33; rw [← w1, va_up_n _ _ h29]; exact hy d h26 h28 h29 h32 h33
        · intro c hc
          rw [← w1, va_up_s]
          by_cases hq : c = i.toNat
          · subst hq; rw [va_up_s, if_pos (by omega), Int.toNat_of_nonneg h0]
          · rw [va_up_n _ _ hq, hl c hc]
            by_cases g : (c : Int) < i
            · rw [if_pos g, if_pos (by omega)]
            · rw [if_neg g, if_neg (by omega)]
        · intro q g0 g1
          obtain ⟨j1, j2, j3⟩ := hi q g0 g1
          refine ⟨by rw [← w1, va_up_n _ _ (by decide)]; exact j1, by rw [← w1, va_up_n _ _ (by decide)]; exact j2, by rw [← w1, va_up_n _ _ (by decide)]; exact j3⟩
  have L1 : ∀ (m : Nat) (i : Int) (y : eg_Z), 0 ≤ i → i ≤ 46 → (∀ d, d ≠ 28 → d ≠ 32 → d ≠ 33 → y d = z d) → (∀ q : Int, 0 ≤ q → q < v 3 → y 32 q.toNat = pz v (fun c : Int => z 29 c.toNat) (fun q : Int => z 32 q.toNat) i.toNat q ∧ y 28 q.toNat = cz v (fun c : Int => z 29 c.toNat) (fun q : Int => z 32 q.toNat) (fun q : Int => z 28 q.toNat) i.toNat q) → 46 - i < (m : Int) → eg_E k gX4_serve 2 0 0 n (enc k y X) [vR k 25, vI i] [] 2 (eg_p k none n X (fun z' => (∀ d, d ≠ 26 → d ≠ 28 → d ≠ 29 → d ≠ 32 → d ≠ 33 → z' d = z d) ∧ (∀ c : Nat, c < 46 → z' 29 c = z 29 c - tg v c (pz v (fun c : Int => z 29 c.toNat) (fun q : Int => z 32 q.toNat) 46)) ∧ ∀ q : Int, 0 ≤ q → q < v 3 → z' 32 q.toNat = pz v (fun c : Int => z 29 c.toNat) (fun q : Int => z 32 q.toNat) 46 q ∧ z' 28 q.toNat = cz v (fun c : Int => z 29 c.toNat) (fun q : Int => z 32 q.toNat) (fun q : Int => z 28 q.toNat) 46 q ∧ z' 26 q.toNat = z 26 q.toNat + pz v (fun c : Int => z 29 c.toNat) (fun q : Int => z 32 q.toNat) 46 q)) := by
    intro m
    induction m with
    | zero => intro i y h0 h1 hy hi hmm; exfalso; omega
    | succ m ih =>
      intro i y h0 h1 hy hi hmm
      have my : y 25 8 = v 3 := by rw [hy _ (by decide) (by decide) (by decide)]; exact hm
      have ey : agr v (fun q : Int => y 32 q.toNat) (pz v (fun c : Int => z 29 c.toNat) (fun q : Int => z 32 q.toNat) i.toNat) := fun q g0 g1 => (hi q g0 g1).1
      have ec : agr v (fun q : Int => y 28 q.toNat) (cz v (fun c : Int => z 29 c.toNat) (fun q : Int => z 32 q.toNat) (fun q : Int => z 28 q.toNat) i.toNat) := fun q g0 g1 => (hi q g0 g1).2
      have hky : okp v (fun q : Int => y 32 q.toNat) := okp_c (pz_b hk hl0 i.toNat (by omega)).1 ey
      refine eg_iload_n dX4_serve_2 rfl ?_
      refine eg_bipush dX4_serve_3 (by decide) ?_
      refine eg_icmp_ge 19 dX4_serve_5 ⟨by omega, by omega⟩ ⟨by omega, by omega⟩ rfl (fun h5 => ?_) (fun h5 => ?_)
      · refine eg_iconst dX4_serve_19 ?_
        refine eg_istore_n dX4_serve_20 rfl rfl rfl ?_
        have e9 : i.toNat = 46 := by omega
        rw [e9] at hi
        exact L2 47 0 y (by omega) (by omega) (fun d _ h28 _ h32 h33 => hy d h28 h32 h33) (fun c hc => by rw [if_neg (by omega), hy 29 (by decide) (by decide) (by decide)]) (fun q g0 g1 => ⟨(hi q g0 g1).1, (hi q g0 g1).2, by rw [hy 26 (by decide) (by decide) (by decide)]⟩) (by omega)
      · refine eg_al_n dX4_serve_8 rfl rfl ?_
        refine eg_iload_n dX4_serve_9 rfl ?_
        refine eg_Vpv1 cs_X4_118 dX4_serve_10 (c_X4_squeeze (c := i) hv my hky ⟨h0, by omega⟩ (by rw [hy _ (by decide) (by decide) (by decide), hg _ (by omega), Int.toNat_of_nonneg h0]) (by rw [hy _ (by decide) (by decide) (by decide)]; exact hlb _ (by omega)) (fun q g0 g1 => by rw [(hi q g0 g1).2]; exact cz_b hcu i.toNat (by omega) q g0 g1)) (by first | exact er25 | exact er26 | exact er27 | exact er28 | exact er29 | exact er30 | exact er31 | exact er32 | exact er33) rfl (Nat.le_of_ble_eq_true rfl) (by decide) ?_
        rintro y1 ⟨n1, k1⟩
        refine eg_iinc dX4_serve_13 rfl rfl rfl ?_
        refine eg_goto 2 dX4_serve_16 rfl ?_
        refine ih (i + 1) y1 (by omega) (by omega) (fun d a b c => (n1 d a b c).trans (hy d a b c)) (fun q g0 g1 => ?_) (by omega)
        obtain ⟨k2, k3⟩ := k1 q g0 g1
        rw [hy 29 (by decide) (by decide) (by decide), sqP_c ey q g0 g1] at k2
        rw [hy 29 (by decide) (by decide) (by decide), sqC_c ey ec q g0 g1] at k3
        rw [show (i + 1).toNat = i.toNat + 1 by omega]
        have e5 : ((i.toNat : Nat) : Int) = i := Int.toNat_of_nonneg h0
        refine ⟨k2.trans ?_, k3.trans ?_⟩
        · show _ = sqP v (i.toNat : Int) (z 29 ((i.toNat : Int)).toNat) (pz v (fun c : Int => z 29 c.toNat) (fun q : Int => z 32 q.toNat) i.toNat) q; rw [e5]
        · show _ = sqC v (i.toNat : Int) (z 29 ((i.toNat : Int)).toNat) (pz v (fun c : Int => z 29 c.toNat) (fun q : Int => z 32 q.toNat) i.toNat) (cz v (fun c : Int => z 29 c.toNat) (fun q : Int => z 32 q.toNat) (fun q : Int => z 28 q.toNat) i.toNat) q; rw [e5]
  refine eg_iconst dX4_serve_0 ?_
  refine eg_istore_n dX4_serve_1 rfl rfl rfl ?_
  exact L1 47 0 z (by omega) (by omega) (fun _ _ _ _ => rfl) (fun q g0 g1 => ⟨rfl, rfl⟩) (by omega)
