def mn (a b : Int) : Int := if b < a then b else a
/-- what of a shipper's FIRM lasts ahead of nomination i -/
def lastF (v : eg_v) (s : Int) : Nat → Int
  | 0 => gH v s 0
  | i + 1 => if gN v i 0 = s then lastF v s i - mn (gN v i 3) (lastF v s i) else lastF v s i
/-- what of a nomination is asked for as FIRM -/
def fa (v : eg_v) (q : Int) : Int := mn (gN v q 3) (lastF v (gN v q 0) q.toNat)
theorem lastF_b {v : eg_v} {B : Int} (hv : VV B v) {s : Int} (h0 : 0 ≤ s) (h1 : s < v 2) : ∀ m : Nat, (m : Int) ≤ v 3 → 0 ≤ lastF v s m ∧ lastF v s m ≤ 9999
  | 0, _ => (hv.H h0 h1).1
  | m + 1, h => by
    have a := lastF_b hv h0 h1 m (by omega)
    have b := (hv.N (q := (m : Int)) (by omega) (by omega)).2.2.2.2
    show 0 ≤ (if gN v m 0 = s then lastF v s m - mn (gN v m 3) (lastF v s m) else lastF v s m) ∧ (if gN v m 0 = s then lastF v s m - mn (gN v m 3) (lastF v s m) else lastF v s m) ≤ 9999
    unfold mn
    split
    · split <;> omega
    · exact a
theorem lastF_s {v : eg_v} {s i : Int} (h : 0 ≤ i) : lastF v s (i + 1).toNat = if gN v i 0 = s then lastF v s i.toNat - mn (gN v i 3) (lastF v s i.toNat) else lastF v s i.toNat := by
  rw [show (i + 1).toNat = i.toNat + 1 by omega]
  show (if gN v (i.toNat : Int) 0 = s then lastF v s i.toNat - mn (gN v (i.toNat : Int) 3) (lastF v s i.toNat) else lastF v s i.toNat) = _
  rw [Int.toNat_of_nonneg h]
theorem fa_b {v : eg_v} {B : Int} (hv : VV B v) {q : Int} (h0 : 0 ≤ q) (h1 : q < v 3) : 0 ≤ fa v q ∧ fa v q ≤ gN v q 3 := by
  have o1 := hv.N h0 h1
  have a := lastF_b hv o1.1.1 o1.1.2 q.toNat (by omega)
  have b := o1.2.2.2.2
  unfold fa mn
  split <;> omega
/-- what is asked for in the class of a rank -/
def pr (v : eg_v) (r q : Int) : Int := if gH v (gN v q 0) 1 = r then gN v q 3 - fa v q else 0
def anyF (p : Int → Int) : Nat → Bool
  | 0 => false
  | m + 1 => anyF p m || decide (0 < p m)
theorem anyF_s {p : Int → Int} {i : Int} (h : 0 ≤ i) : anyF p (i + 1).toNat = (anyF p i.toNat || decide (0 < p i)) := by
  rw [show (i + 1).toNat = i.toNat + 1 by omega]
  show (anyF p i.toNat || decide (0 < p (i.toNat : Int))) = _
  rw [Int.toNat_of_nonneg h]
theorem anyF_f {p : Int → Int} : ∀ {m : Nat}, anyF p m = false → ∀ q : Int, 0 ≤ q → q < m → p q ≤ 0
  | 0, _ => fun q h0 h1 => by omega
  | m + 1, h => fun q h0 h1 => by
    have h : (anyF p m || decide (0 < p m)) = false := h
    rw [Bool.or_eq_false_iff] at h
    by_cases hq : q = m
    · subst hq; have := h.2; simp at this; exact this
    · exact anyF_f h.1 q h0 (by omega)
theorem pr_b {v : eg_v} {B : Int} (hv : VV B v) {r : Int} : okp v (pr v r) := fun q h0 h1 => by
  have a := fa_b hv h0 h1
  have b := (hv.N h0 h1).2.2.2.2
  unfold pr
  split <;> omega
theorem fa_ok {v : eg_v} {B : Int} (hv : VV B v) : okp v (fa v) := fun q h0 h1 => by
  have a := fa_b hv h0 h1
  have b := (hv.N h0 h1).2.2.2.2
  omega
set_option maxHeartbeats 600000 in
theorem c_X4_shareFirm {k : eg_K} {z : eg_Z} {X : eg_M} {n b : Nat} {v : eg_v} {B : Int} (hb : isB b = true) (hp : hP z b v) (hv : VV B v) (hm : z 25 8 = v 3) : eg_P k gX4_shareFirm 2 0 0 [vR k 25, vR k b] n (enc k z X) (eg_p k none n X (fun z' => (∀ d, d ≠ 31 → z' d = z d) ∧ ∀ q : Int, 0 ≤ q → q < v 3 → z' 31 q.toNat = fa v q)) := by
  refine eg_P.of (by decide) (Nat.le_of_ble_eq_true rfl) ?_
  show eg_E k gX4_shareFirm 2 0 0 n (enc k z X) [vR k 25, vR k b, vU, vU, vU] [] 0 _
  have q := hv.r.2
  have LI : ∀ (m : Nat) (i s : Int) (y : eg_Z), 0 ≤ s → s < v 2 → 0 ≤ i → i ≤ v 3 → (∀ d, d ≠ 31 → y d = z d) → (∀ q : Int, 0 ≤ q → q < v 3 → (gN v q 0 < s ∨ (gN v q 0 = s ∧ q < i)) → y 31 q.toNat = fa v q) → (∀ y2 : eg_Z, (∀ d, d ≠ 31 → y2 d = z d) → (∀ q : Int, 0 ≤ q → q < v 3 → gN v q 0 < s + 1 → y2 31 q.toNat = fa v q) → ∀ u1 u2 : Value, eg_E k gX4_shareFirm 2 0 0 n (enc k y2 X) [vR k 25, vR k b, vI (s + 1), u1, u2] [] 2 (eg_p k none n X (fun z' => (∀ d, d ≠ 31 → z' d = z d) ∧ ∀ q : Int, 0 ≤ q → q < v 3 → z' 31 q.toNat = fa v q))) → v 3 - i < (m : Int) → eg_E k gX4_shareFirm 2 0 0 n (enc k y X) [vR k 25, vR k b, vI s, vI (lastF v s i.toNat), vI i] [] 26 (eg_p k none n X (fun z' => (∀ d, d ≠ 31 → z' d = z d) ∧ ∀ q : Int, 0 ≤ q → q < v 3 → z' 31 q.toNat = fa v q)) := by
    intro m
    induction m with
    | zero => intro i s y hs0 hs1 h0 h1 hy hi kk hmm; exfalso; omega
    | succ m ih =>
      intro i s y hs0 hs1 h0 h1 hy hi kk hmm
      have hpy : hP y b v := hP_c hp (fun j hj => hy _ (by have := isB_c hb (c := 31) (by omega); omega))
      have my : y 25 8 = v 3 := by rw [hy _ (by decide)]; exact hm
      have lb := lastF_b hv hs0 hs1 i.toNat (by omega)
      refine eg_iload dX4_shareFirm_26 rfl ?_
      refine eg_al_n dX4_shareFirm_28 rfl rfl ?_
      refine eg_get fl_X4_36 dX4_shareFirm_29 (by first | exact er25 | exact er26 | exact er27 | exact er28 | exact er29 | exact er30 | exact er31 | exact er32 | exact er33 | exact ep0 hb | exact ep1 hb | exact ep3 hb | exact ep5 hb | exact ep7 hb) rfl ?_
      rw [my]
      refine eg_icmp_ge 82 dX4_shareFirm_32 ⟨by omega, by omega⟩ ⟨by omega, by omega⟩ rfl (fun h32 => ?_) (fun h32 => ?_)
      · refine eg_iinc dX4_shareFirm_82 rfl rfl rfl ?_
        refine eg_goto 2 dX4_shareFirm_85 rfl ?_
        exact kk y hy (fun q9 g0 g1 g2 => hi q9 g0 g1 (by omega)) _ _
      · have o1 := hv.N (q := i) h0 h32
        have o0 := o1.1
        have o3 := o1.2.2.2.2
        clear o1
        have ls1 := lastF_s (v := v) (s := s) h0
        refine eg_al_n dX4_shareFirm_35 rfl rfl ?_
        refine eg_iload dX4_shareFirm_36 rfl ?_
        refine eg_Vf1 cs_X4_98 dX4_shareFirm_38 (c_X2_shipperOf hb hpy hv h0 h32) (by first | exact er25 | exact er26 | exact er27 | exact er28 | exact er29 | exact er30 | exact er31 | exact er32 | exact er33 | exact ep0 hb | exact ep1 hb | exact ep3 hb | exact ep5 hb | exact ep7 hb) rfl (Nat.le_of_ble_eq_true rfl) (by decide) ?_
        refine eg_iload_n dX4_shareFirm_41 rfl ?_
        refine eg_icmp_ne 76 dX4_shareFirm_42 ⟨by omega, by omega⟩ ⟨by omega, by omega⟩ rfl (fun h42 => ?_) (fun h42 => ?_)
        · refine eg_iinc dX4_shareFirm_76 rfl rfl rfl ?_
          refine eg_goto 26 dX4_shareFirm_79 rfl ?_
          rw [show lastF v s i.toNat = lastF v s (i + 1).toNat from by rw [ls1, if_neg (by omega)]]
          refine ih (i + 1) s y hs0 hs1 (by omega) (by omega) hy (fun q9 g0 g1 g2 => hi q9 g0 g1 ?_) kk (by omega)
          by_cases hq : q9 = i
          · subst hq; omega
          · omega
        · refine eg_al_n dX4_shareFirm_45 rfl rfl ?_
          refine eg_get fl_X4_27 dX4_shareFirm_46 (by first | exact er25 | exact er26 | exact er27 | exact er28 | exact er29 | exact er30 | exact er31 | exact er32 | exact er33 | exact ep0 hb | exact ep1 hb | exact ep3 hb | exact ep5 hb | exact ep7 hb) rfl ?_
          refine eg_iload dX4_shareFirm_49 rfl ?_
          refine eg_al_n dX4_shareFirm_51 rfl rfl ?_
          refine eg_get fl_X4_60 dX4_shareFirm_52 (by first | exact er25 | exact er26 | exact er27 | exact er28 | exact er29 | exact er30 | exact er31 | exact er32 | exact er33 | exact ep0 hb | exact ep1 hb | exact ep3 hb | exact ep5 hb | exact ep7 hb) rfl ?_
          refine eg_iload dX4_shareFirm_55 rfl ?_
          refine eg_iconst dX4_shareFirm_57 ?_
          refine eg_Vf2 cs_X4_66 dX4_shareFirm_58 (nm_at hb hpy hv h0 h32 (by omega) (by omega)) (by first | exact er25 | exact er26 | exact er27 | exact er28 | exact er29 | exact er30 | exact er31 | exact er32 | exact er33 | exact ep0 hb | exact ep1 hb | exact ep3 hb | exact ep5 hb | exact ep7 hb) rfl (Nat.le_of_ble_eq_true rfl) (by decide) ?_
          refine eg_iload_n dX4_shareFirm_61 rfl ?_
          refine eg_mmin cs_X4_113 dX4_shareFirm_62 ⟨by omega, by omega⟩ ⟨by omega, by omega⟩ (Nat.le_of_ble_eq_true rfl) (by decide) ?_
          rw [show (if lastF v s i.toNat < gN v i 3 then lastF v s i.toNat else gN v i 3) = mn (gN v i 3) (lastF v s i.toNat) from rfl]
          refine eg_iast dX4_shareFirm_65 (by first | exact er25 | exact er26 | exact er27 | exact er28 | exact er29 | exact er30 | exact er31 | exact er32 | exact er33 | exact ep0 hb | exact ep1 hb | exact ep3 hb | exact ep5 hb | exact ep7 hb) (by omega) (by omega) (by decide) ?_
          refine eg_eqM (es31) ?_
          generalize w1 : va_up y 31 _ = y1
          have f1 : y1 31 i.toNat = mn (gN v i 3) (lastF v s i.toNat) := by rw [← w1, va_up_s, va_up_s]
          refine eg_iload_n dX4_shareFirm_66 rfl ?_
          refine eg_al_n dX4_shareFirm_67 rfl rfl ?_
          refine eg_get fl_X4_27 dX4_shareFirm_68 (by first | exact er25 | exact er26 | exact er27 | exact er28 | exact er29 | exact er30 | exact er31 | exact er32 | exact er33 | exact ep0 hb | exact ep1 hb | exact ep3 hb | exact ep5 hb | exact ep7 hb) rfl ?_
          refine eg_iload dX4_shareFirm_71 rfl ?_
          refine eg_iald dX4_shareFirm_73 (by first | exact er25 | exact er26 | exact er27 | exact er28 | exact er29 | exact er30 | exact er31 | exact er32 | exact er33 | exact ep0 hb | exact ep1 hb | exact ep3 hb | exact ep5 hb | exact ep7 hb) (by omega) (by omega) (by decide) ?_
          rw [f1]
          refine eg_isub dX4_shareFirm_74 ?_
          refine eg_istore_n dX4_shareFirm_75 rfl rfl rfl ?_
          refine eg_iinc dX4_shareFirm_76 rfl rfl rfl ?_
          refine eg_goto 26 dX4_shareFirm_79 rfl ?_
          rw [show lastF v s i.toNat - mn (gN v i 3) (lastF v s i.toNat) = lastF v s (i + 1).toNat from by rw [ls1, if_pos (by omega)]]
          refine ih (i + 1) s y1 hs0 hs1 (by omega) (by omega) ?_ ?_ kk (by omega)
          · intro d hd; rw [← w1, va_up_n _ _ hd]; exact hy d hd
          · intro q9 g0 g1 g2
            by_cases hq : q9 = i
            · subst hq; rw [f1]; unfold fa; rw [show gN v q9 0 = s by omega]
            · rw [← w1, va_up_s, va_up_n _ _ (by omega)]; exact hi q9 g0 g1 (by omega)
  have LO : ∀ (m : Nat) (s : Int) (y : eg_Z) (u1 u2 : Value), 0 ≤ s → s ≤ v 2 → (∀ d, d ≠ 31 → y d = z d) → (∀ q : Int, 0 ≤ q → q < v 3 → gN v q 0 < s → y 31 q.toNat = fa v q) → v 2 - s < (m : Int) → eg_E k gX4_shareFirm 2 0 0 n (enc k y X) [vR k 25, vR k b, vI s, u1, u2] [] 2 (eg_p k none n X (fun z' => (∀ d, d ≠ 31 → z' d = z d) ∧ ∀ q : Int, 0 ≤ q → q < v 3 → z' 31 q.toNat = fa v q)) := by
    intro m
    induction m with
    | zero => intro s y u1 u2 h0 h1 hy hi hmm; exfalso; omega
    | succ m ih =>
      intro s y u1 u2 h0 h1 hy hi hmm
      have hpy : hP y b v := hP_c hp (fun j hj => hy _ (by have := isB_c hb (c := 31) (by omega); omega))
      have cy := hpy.2.1.2.2.1
      refine eg_iload_n dX4_shareFirm_2 rfl ?_
      refine eg_al_n dX4_shareFirm_3 rfl rfl ?_
      refine eg_get fl_X4_91 dX4_shareFirm_4 (by first | exact er25 | exact er26 | exact er27 | exact er28 | exact er29 | exact er30 | exact er31 | exact er32 | exact er33 | exact ep0 hb | exact ep1 hb | exact ep3 hb | exact ep5 hb | exact ep7 hb) rfl ?_
      refine eg_get fl_X4_72 dX4_shareFirm_7 (by first | exact er25 | exact er26 | exact er27 | exact er28 | exact er29 | exact er30 | exact er31 | exact er32 | exact er33 | exact ep0 hb | exact ep1 hb | exact ep3 hb | exact ep5 hb | exact ep7 hb) rfl ?_
      rw [cy]
      refine eg_icmp_ge 88 dX4_shareFirm_10 ⟨by omega, by omega⟩ ⟨by omega, by omega⟩ rfl (fun h10 => ?_) (fun h10 => ?_)
      · refine eg_return dX4_shareFirm_88 rfl ?_
        exact ⟨rfl, rfl, y, rfl, hy, fun q9 g0 g1 => hi q9 g0 g1 (by have := (hv.N g0 g1).1; omega)⟩
      · refine eg_al_n dX4_shareFirm_13 rfl rfl ?_
        refine eg_get fl_X4_91 dX4_shareFirm_14 (by first | exact er25 | exact er26 | exact er27 | exact er28 | exact er29 | exact er30 | exact er31 | exact er32 | exact er33 | exact ep0 hb | exact ep1 hb | exact ep3 hb | exact ep5 hb | exact ep7 hb) rfl ?_
        refine eg_iload_n dX4_shareFirm_17 rfl ?_
        refine eg_iconst dX4_shareFirm_18 ?_
        refine eg_Vf2 cs_X4_66 dX4_shareFirm_19 (sh_at hb hpy hv h0 h10 (by omega) (by omega)) (by first | exact er25 | exact er26 | exact er27 | exact er28 | exact er29 | exact er30 | exact er31 | exact er32 | exact er33 | exact ep0 hb | exact ep1 hb | exact ep3 hb | exact ep5 hb | exact ep7 hb) rfl (Nat.le_of_ble_eq_true rfl) (by decide) ?_
        refine eg_istore_n dX4_shareFirm_22 rfl rfl rfl ?_
        refine eg_iconst dX4_shareFirm_23 ?_
        refine eg_istore dX4_shareFirm_24 rfl rfl rfl ?_
        exact LI 17 0 s y h0 h10 (by omega) (by omega) hy (fun q9 g0 g1 g2 => hi q9 g0 g1 (by omega)) (fun y2 a2 b2 w1 w2 => ih (s + 1) y2 w1 w2 (by omega) (by omega) a2 b2 (by omega)) (by omega)
  refine eg_iconst dX4_shareFirm_0 ?_
  refine eg_istore_n dX4_shareFirm_1 rfl rfl rfl ?_
  exact LO 7 0 z _ _ (by omega) (by omega) (fun _ _ => rfl) (fun q9 g0 g1 g2 => absurd g2 (by have := (hv.N g0 g1).1; omega)) (by omega)
set_option maxHeartbeats 600000 in
theorem c_X4_askRank {k : eg_K} {z : eg_Z} {X : eg_M} {n b : Nat} {v : eg_v} {B : Int} (hb : isB b = true) (hp : hP z b v) (hv : VV B v) {r : Int} (hr : 1 ≤ r ∧ r ≤ 9) (hm : z 25 8 = v 3) (hfa : ∀ q : Int, 0 ≤ q → q < v 3 → z 31 q.toNat = fa v q) : eg_P k gX4_askRank 2 0 0 [vR k 25, vR k b, vI r] n (enc k z X) (eg_p k (some (vI (bi (anyF (pr v r) (v 3).toNat = true)))) n X (fun z' => (∀ d, d ≠ 32 → z' d = z d) ∧ ∀ q : Int, 0 ≤ q → q < v 3 → z' 32 q.toNat = pr v r q)) := by
  refine eg_P.of (by decide) (Nat.le_of_ble_eq_true rfl) ?_
  show eg_E k gX4_askRank 2 0 0 n (enc k z X) [vR k 25, vR k b, vI r, vU, vU, vU] [] 0 _
  have q := hv.r.2
  have L : ∀ (m : Nat) (i : Int) (y : eg_Z) (u : Value), 0 ≤ i → i ≤ v 3 → (∀ d, d ≠ 32 → y d = z d) → (∀ q : Int, 0 ≤ q → q < i → y 32 q.toNat = pr v r q) → v 3 - i < (m : Int) → eg_E k gX4_askRank 2 0 0 n (enc k y X) [vR k 25, vR k b, vI r, vI (bi (anyF (pr v r) i.toNat = true)), vI i, u] [] 5 (eg_p k (some (vI (bi (anyF (pr v r) (v 3).toNat = true)))) n X (fun z' => (∀ d, d ≠ 32 → z' d = z d) ∧ ∀ q : Int, 0 ≤ q → q < v 3 → z' 32 q.toNat = pr v r q)) := by
    intro m
    induction m with
    | zero => intro i y u h0 h1 hy hi hmm; exfalso; omega
    | succ m ih =>
      intro i y u h0 h1 hy hi hmm
      have hpy : hP y b v := hP_c hp (fun j hj => hy _ (by have := isB_c hb (c := 32) (by omega); omega))
      have my : y 25 8 = v 3 := by rw [hy _ (by decide)]; exact hm
      refine eg_iload dX4_askRank_5 rfl ?_
      refine eg_al_n dX4_askRank_7 rfl rfl ?_
      refine eg_get fl_X4_36 dX4_askRank_8 (by first | exact er25 | exact er26 | exact er27 | exact er28 | exact er29 | exact er30 | exact er31 | exact er32 | exact er33 | exact ep0 hb | exact ep1 hb | exact ep3 hb | exact ep5 hb | exact ep7 hb) rfl ?_
      rw [my]
      refine eg_icmp_ge 97 dX4_askRank_11 ⟨by omega, by omega⟩ ⟨by omega, by omega⟩ rfl (fun h11 => ?_) (fun h11 => ?_)
      · refine eg_iload_n dX4_askRank_97 rfl ?_
        refine eg_ireturn dX4_askRank_98 rfl (bi_nar _) ?_
        have e9 : i.toNat = (v 3).toNat := by omega
        rw [e9]
        exact ⟨rfl, rfl, y, rfl, hy, fun q9 g0 g1 => hi q9 g0 (by omega)⟩
      · have o1 := hv.N (q := i) h0 h11
        have o0 := o1.1
        have o3 := o1.2.2.2.2
        clear o1
        have oh := (hv.H (s := gN v i 0) o0.1 o0.2).2.1
        have ff := fa_b hv h0 h11
        have fq : y 31 i.toNat = fa v i := by rw [hy _ (by decide)]; exact hfa i h0 h11
        have as1 := anyF_s (p := pr v r) h0
        have pb := pr_b hv (r := r) i h0 h11
        have J : ∀ (u9 : Value) (y1 : eg_Z), (∀ d, d ≠ 32 → y1 d = y d) → (∀ q9 : Nat, q9 ≠ i.toNat → y1 32 q9 = y 32 q9) → y1 32 i.toNat = pr v r i → eg_E k gX4_askRank 2 0 0 n (enc k y1 X) [vR k 25, vR k b, vI r, vI (bi (anyF (pr v r) i.toNat = true)), vI i, u9] [] 73 (eg_p k (some (vI (bi (anyF (pr v r) (v 3).toNat = true)))) n X (fun z' => (∀ d, d ≠ 32 → z' d = z d) ∧ ∀ q : Int, 0 ≤ q → q < v 3 → z' 32 q.toNat = pr v r q)) := by
          intro u9 y1 m1 m2 m3
          refine eg_iload_n dX4_askRank_73 rfl ?_
          refine eg_al_n dX4_askRank_74 rfl rfl ?_
          refine eg_get fl_X4_30 dX4_askRank_75 (by first | exact er25 | exact er26 | exact er27 | exact er28 | exact er29 | exact er30 | exact er31 | exact er32 | exact er33 | exact ep0 hb | exact ep1 hb | exact ep3 hb | exact ep5 hb | exact ep7 hb) rfl ?_
          refine eg_iload dX4_askRank_78 rfl ?_
          refine eg_iald dX4_askRank_80 (by first | exact er25 | exact er26 | exact er27 | exact er28 | exact er29 | exact er30 | exact er31 | exact er32 | exact er33 | exact ep0 hb | exact ep1 hb | exact ep3 hb | exact ep5 hb | exact ep7 hb) (by omega) (by omega) (by decide) ?_
          rw [m3]
          refine eg_if_le 88 dX4_askRank_81 ⟨by omega, by omega⟩ rfl (fun h81 => ?_) (fun h81 => ?_)
          · refine eg_iconst dX4_askRank_88 ?_
            refine eg_orB (c := false) dX4_askRank_89 ?_
            rw [show (anyF (pr v r) i.toNat || false) = anyF (pr v r) (i + 1).toNat from by rw [as1]; congr 1; symm; simp; omega]
            refine eg_istore_n dX4_askRank_90 rfl rfl rfl ?_
            refine eg_iinc dX4_askRank_91 rfl rfl rfl ?_
            refine eg_goto 5 dX4_askRank_94 rfl ?_
            refine ih (i + 1) y1 _ (by omega) (by omega) (fun d hd => (m1 d hd).trans (hy d hd)) (fun q9 g0 g1 => ?_) (by omega)
            by_cases hq : q9 = i
            · subst hq; exact m3
            · rw [m2 _ (by omega)]; exact hi q9 g0 (by omega)
          · refine eg_iconst dX4_askRank_84 ?_
            refine eg_goto 89 dX4_askRank_85 rfl ?_
            refine eg_orB (c := true) dX4_askRank_89 ?_
            rw [show (anyF (pr v r) i.toNat || true) = anyF (pr v r) (i + 1).toNat from by rw [as1]; congr 1; symm; simp; omega]
            refine eg_istore_n dX4_askRank_90 rfl rfl rfl ?_
            refine eg_iinc dX4_askRank_91 rfl rfl rfl ?_
            refine eg_goto 5 dX4_askRank_94 rfl ?_
            refine ih (i + 1) y1 _ (by omega) (by omega) (fun d hd => (m1 d hd).trans (hy d hd)) (fun q9 g0 g1 => ?_) (by omega)
            by_cases hq : q9 = i
            · subst hq; exact m3
            · rw [m2 _ (by omega)]; exact hi q9 g0 (by omega)
        refine eg_al_n dX4_askRank_14 rfl rfl ?_
        refine eg_get fl_X4_91 dX4_askRank_15 (by first | exact er25 | exact er26 | exact er27 | exact er28 | exact er29 | exact er30 | exact er31 | exact er32 | exact er33 | exact ep0 hb | exact ep1 hb | exact ep3 hb | exact ep5 hb | exact ep7 hb) rfl ?_
        refine eg_al_n dX4_askRank_18 rfl rfl ?_
        refine eg_iload dX4_askRank_19 rfl ?_
        refine eg_Vf1 cs_X4_98 dX4_askRank_21 (c_X2_shipperOf hb hpy hv h0 h11) (by first | exact er25 | exact er26 | exact er27 | exact er28 | exact er29 | exact er30 | exact er31 | exact er32 | exact er33 | exact ep0 hb | exact ep1 hb | exact ep3 hb | exact ep5 hb | exact ep7 hb) rfl (Nat.le_of_ble_eq_true rfl) (by decide) ?_
        refine eg_iconst dX4_askRank_24 ?_
        refine eg_Vf2 cs_X4_66 dX4_askRank_25 (sh_at hb hpy hv o0.1 o0.2 (by omega) (by omega)) (by first | exact er25 | exact er26 | exact er27 | exact er28 | exact er29 | exact er30 | exact er31 | exact er32 | exact er33 | exact ep0 hb | exact ep1 hb | exact ep3 hb | exact ep5 hb | exact ep7 hb) rfl (Nat.le_of_ble_eq_true rfl) (by decide) ?_
        refine eg_iload_n dX4_askRank_28 rfl ?_
        refine eg_icmp_ne 36 dX4_askRank_29 ⟨by omega, by omega⟩ ⟨by omega, by omega⟩ rfl (fun h29 => ?_) (fun h29 => ?_)
        · refine eg_iconst dX4_askRank_36 ?_
          refine eg_istore dX4_askRank_37 rfl rfl rfl ?_
          refine eg_al_n dX4_askRank_39 rfl rfl ?_
          refine eg_get fl_X4_30 dX4_askRank_40 (by first | exact er25 | exact er26 | exact er27 | exact er28 | exact er29 | exact er30 | exact er31 | exact er32 | exact er33 | exact ep0 hb | exact ep1 hb | exact ep3 hb | exact ep5 hb | exact ep7 hb) rfl ?_
          refine eg_iload dX4_askRank_43 rfl ?_
          refine eg_iload dX4_askRank_45 rfl ?_
          refine eg_if_eq 71 dX4_askRank_47 ⟨by omega, by omega⟩ rfl (fun h47 => ?_) (fun h47 => ?_)
          · refine eg_iconst dX4_askRank_71 ?_
            refine eg_iast dX4_askRank_72 (by first | exact er25 | exact er26 | exact er27 | exact er28 | exact er29 | exact er30 | exact er31 | exact er32 | exact er33 | exact ep0 hb | exact ep1 hb | exact ep3 hb | exact ep5 hb | exact ep7 hb) (by omega) (by omega) (by decide) ?_
            refine eg_eqM (es32) ?_
            refine J _ _ (fun d hd => va_up_n _ _ hd) (fun q9 hq => by rw [va_up_s, va_up_n _ _ hq]) ?_
            rw [va_up_s, va_up_s]
            unfold pr
            first | (exfalso; omega) | rw [if_pos (by omega)] | rw [if_neg (by omega)]
          · refine eg_al_n dX4_askRank_50 rfl rfl ?_
            refine eg_get fl_X4_60 dX4_askRank_51 (by first | exact er25 | exact er26 | exact er27 | exact er28 | exact er29 | exact er30 | exact er31 | exact er32 | exact er33 | exact ep0 hb | exact ep1 hb | exact ep3 hb | exact ep5 hb | exact ep7 hb) rfl ?_
            refine eg_iload dX4_askRank_54 rfl ?_
            refine eg_iconst dX4_askRank_56 ?_
            refine eg_Vf2 cs_X4_66 dX4_askRank_57 (nm_at hb hpy hv h0 h11 (by omega) (by omega)) (by first | exact er25 | exact er26 | exact er27 | exact er28 | exact er29 | exact er30 | exact er31 | exact er32 | exact er33 | exact ep0 hb | exact ep1 hb | exact ep3 hb | exact ep5 hb | exact ep7 hb) rfl (Nat.le_of_ble_eq_true rfl) (by decide) ?_
            refine eg_al_n dX4_askRank_60 rfl rfl ?_
            refine eg_get fl_X4_27 dX4_askRank_61 (by first | exact er25 | exact er26 | exact er27 | exact er28 | exact er29 | exact er30 | exact er31 | exact er32 | exact er33 | exact ep0 hb | exact ep1 hb | exact ep3 hb | exact ep5 hb | exact ep7 hb) rfl ?_
            refine eg_iload dX4_askRank_64 rfl ?_
            refine eg_iald dX4_askRank_66 (by first | exact er25 | exact er26 | exact er27 | exact er28 | exact er29 | exact er30 | exact er31 | exact er32 | exact er33 | exact ep0 hb | exact ep1 hb | exact ep3 hb | exact ep5 hb | exact ep7 hb) (by omega) (by omega) (by decide) ?_
            rw [fq]
            refine eg_isub dX4_askRank_67 ?_
            refine eg_goto 72 dX4_askRank_68 rfl ?_
            refine eg_iast dX4_askRank_72 (by first | exact er25 | exact er26 | exact er27 | exact er28 | exact er29 | exact er30 | exact er31 | exact er32 | exact er33 | exact ep0 hb | exact ep1 hb | exact ep3 hb | exact ep5 hb | exact ep7 hb) (by omega) (by omega) (by decide) ?_
            refine eg_eqM (es32) ?_
            refine J _ _ (fun d hd => va_up_n _ _ hd) (fun q9 hq => by rw [va_up_s, va_up_n _ _ hq]) ?_
            rw [va_up_s, va_up_s]
            unfold pr
            first | (exfalso; omega) | rw [if_pos (by omega)] | rw [if_neg (by omega)]
        · refine eg_iconst dX4_askRank_32 ?_
          refine eg_goto 37 dX4_askRank_33 rfl ?_
          refine eg_istore dX4_askRank_37 rfl rfl rfl ?_
          refine eg_al_n dX4_askRank_39 rfl rfl ?_
          refine eg_get fl_X4_30 dX4_askRank_40 (by first | exact er25 | exact er26 | exact er27 | exact er28 | exact er29 | exact er30 | exact er31 | exact er32 | exact er33 | exact ep0 hb | exact ep1 hb | exact ep3 hb | exact ep5 hb | exact ep7 hb) rfl ?_
          refine eg_iload dX4_askRank_43 rfl ?_
          refine eg_iload dX4_askRank_45 rfl ?_
          refine eg_if_eq 71 dX4_askRank_47 ⟨by omega, by omega⟩ rfl (fun h47 => ?_) (fun h47 => ?_)
          · refine eg_iconst dX4_askRank_71 ?_
            refine eg_iast dX4_askRank_72 (by first | exact er25 | exact er26 | exact er27 | exact er28 | exact er29 | exact er30 | exact er31 | exact er32 | exact er33 | exact ep0 hb | exact ep1 hb | exact ep3 hb | exact ep5 hb | exact ep7 hb) (by omega) (by omega) (by decide) ?_
            refine eg_eqM (es32) ?_
            refine J _ _ (fun d hd => va_up_n _ _ hd) (fun q9 hq => by rw [va_up_s, va_up_n _ _ hq]) ?_
            rw [va_up_s, va_up_s]
            unfold pr
            first | (exfalso; omega) | rw [if_pos (by omega)] | rw [if_neg (by omega)]
          · refine eg_al_n dX4_askRank_50 rfl rfl ?_
            refine eg_get fl_X4_60 dX4_askRank_51 (by first | exact er25 | exact er26 | exact er27 | exact er28 | exact er29 | exact er30 | exact er31 | exact er32 | exact er33 | exact ep0 hb | exact ep1 hb | exact ep3 hb | exact ep5 hb | exact ep7 hb) rfl ?_
            refine eg_iload dX4_askRank_54 rfl ?_
            refine eg_iconst dX4_askRank_56 ?_
            refine eg_Vf2 cs_X4_66 dX4_askRank_57 (nm_at hb hpy hv h0 h11 (by omega) (by omega)) (by first | exact er25 | exact er26 | exact er27 | exact er28 | exact er29 | exact er30 | exact er31 | exact er32 | exact er33 | exact ep0 hb | exact ep1 hb | exact ep3 hb | exact ep5 hb | exact ep7 hb) rfl (Nat.le_of_ble_eq_true rfl) (by decide) ?_
            refine eg_al_n dX4_askRank_60 rfl rfl ?_
            refine eg_get fl_X4_27 dX4_askRank_61 (by first | exact er25 | exact er26 | exact er27 | exact er28 | exact er29 | exact er30 | exact er31 | exact er32 | exact er33 | exact ep0 hb | exact ep1 hb | exact ep3 hb | exact ep5 hb | exact ep7 hb) rfl ?_
            refine eg_iload dX4_askRank_64 rfl ?_
            refine eg_iald dX4_askRank_66 (by first | exact er25 | exact er26 | exact er27 | exact er28 | exact er29 | exact er30 | exact er31 | exact er32 | exact er33 | exact ep0 hb | exact ep1 hb | exact ep3 hb | exact ep5 hb | exact ep7 hb) (by omega) (by omega) (by decide) ?_
            rw [fq]
            refine eg_isub dX4_askRank_67 ?_
            refine eg_goto 72 dX4_askRank_68 rfl ?_
            refine eg_iast dX4_askRank_72 (by first | exact er25 | exact er26 | exact er27 | exact er28 | exact er29 | exact er30 | exact er31 | exact er32 | exact er33 | exact ep0 hb | exact ep1 hb | exact ep3 hb | exact ep5 hb | exact ep7 hb) (by omega) (by omega) (by decide) ?_
            refine eg_eqM (es32) ?_
            refine J _ _ (fun d hd => va_up_n _ _ hd) (fun q9 hq => by rw [va_up_s, va_up_n _ _ hq]) ?_
            rw [va_up_s, va_up_s]
            unfold pr
            first | (exfalso; omega) | rw [if_pos (by omega)] | rw [if_neg (by omega)]
  refine eg_iconst dX4_askRank_0 ?_
  refine eg_istore_n dX4_askRank_1 rfl rfl rfl ?_
  refine eg_iconst dX4_askRank_2 ?_
  refine eg_istore dX4_askRank_3 rfl rfl rfl ?_
  exact L 17 0 z _ (by omega) (by omega) (fun _ _ => rfl) (fun q9 g0 g1 => absurd g1 (by omega)) (by omega)
