def sm (f : Int → Int) : Nat → Int
  | 0 => 0
  | n + 1 => sm f n + f n
theorem sm_b {f : Int → Int} {K : Int} {n : Nat} (h : ∀ i : Int, 0 ≤ i → i < n → 0 ≤ f i ∧ f i ≤ K) : 0 ≤ sm f n ∧ sm f n ≤ K * n := by
  induction n with
  | zero => simp [sm]
  | succ n ih =>
    have h1 := ih (fun i h0 h1 => h i h0 (by omega))
    have h2 := h n (by omega) (by omega)
    simp only [sm]
    have h3 : K * ((n + 1 : Nat) : Int) = K * n + K := by
      rw [show ((n + 1 : Nat) : Int) = (n : Int) + 1 by omega, Int.mul_add, Int.mul_one]
    omega
theorem sm_s (f : Int → Int) {i : Int} (h : 0 ≤ i) : sm f (i + 1).toNat = sm f i.toNat + f i := by
  rw [show (i + 1).toNat = i.toNat + 1 by omega]
  show sm f i.toNat + f (i.toNat : Int) = _
  rw [Int.toNat_of_nonneg h]
theorem sm_c {f g : Int → Int} {n : Nat} (h : ∀ i : Int, 0 ≤ i → i < n → f i = g i) : sm f n = sm g n := by
  induction n with
  | zero => rfl
  | succ n ih =>
    show sm f n + f n = sm g n + g n
    rw [ih (fun i h0 h1 => h i h0 (by omega)), h n (by omega) (by omega)]
/-- what is nominated of a shipper (-1: of all) -/
def nomF (v : eg_v) (s q : Int) : Int := if s = -1 ∨ gN v q 0 = s then gN v q 3 else 0
def sNom (v : eg_v) (s : Int) : Int := sm (nomF v s) (v 3).toNat
/-- what a segment leaves -/
def bh (v : eg_v) (i n : Int) : Int := n - n * gS v i 1 / 1000
def upF (v : eg_v) : Nat → Int → Int → Int
  | 0, _, n => n
  | m + 1, i, n => upF v m (i + 1) (bh v i n)
def dnF (v : eg_v) : Nat → Int → Int → Int
  | 0, _, n => n
  | m + 1, i, n => dnF v m (i - 1) (bh v i n)
def sLeft (v : eg_v) (h o n : Int) : Int := dnF v (h - o).toNat (h - 1) (upF v (o - h).toNat h n)
theorem bh_b {v : eg_v} {i n : Int} (hf : 0 ≤ gS v i 1 ∧ gS v i 1 ≤ 50) (h0 : 0 ≤ n) : 0 ≤ bh v i n ∧ bh v i n ≤ n := by
  have h1 : 0 ≤ n * gS v i 1 := Int.mul_nonneg h0 hf.1
  have h2 : n * gS v i 1 ≤ n * 50 := Int.mul_le_mul_of_nonneg_left hf.2 h0
  unfold bh
  omega
theorem upF_b {v : eg_v} (hs : ∀ i : Int, 0 ≤ i → i < 7 → okS v i) : ∀ (m : Nat) (i n : Int), 0 ≤ i → i + m ≤ 7 → 0 ≤ n → 0 ≤ upF v m i n ∧ upF v m i n ≤ n
  | 0, _, _, _, _, h => ⟨h, Int.le_refl _⟩
  | m + 1, i, n, h0, h1, h => by
    have h2 := bh_b (v := v) (i := i) (hs i h0 (by omega)).2 h
    have h3 := upF_b hs m (i + 1) (bh v i n) (by omega) (by omega) h2.1
    show 0 ≤ upF v m (i + 1) (bh v i n) ∧ _
    exact ⟨h3.1, Int.le_trans h3.2 h2.2⟩
theorem dnF_b {v : eg_v} (hs : ∀ i : Int, 0 ≤ i → i < 7 → okS v i) : ∀ (m : Nat) (i n : Int), (m : Int) ≤ i + 1 → i < 7 → 0 ≤ n → 0 ≤ dnF v m i n ∧ dnF v m i n ≤ n
  | 0, _, _, _, _, h => ⟨h, Int.le_refl _⟩
  | m + 1, i, n, h0, h1, h => by
    have h2 := bh_b (v := v) (i := i) (hs i (by omega) (by omega)).2 h
    have h3 := dnF_b hs m (i - 1) (bh v i n) (by omega) (by omega) h2.1
    show 0 ≤ dnF v m (i - 1) (bh v i n) ∧ _
    exact ⟨h3.1, Int.le_trans h3.2 h2.2⟩
theorem sLeft_b {v : eg_v} {B : Int} (hv : VV B v) {h o n : Int} (h0 : 0 ≤ h ∧ h < v 0) (h1 : 0 ≤ o ∧ o < v 0) (h2 : 0 ≤ n) : 0 ≤ sLeft v h o n ∧ sLeft v h o n ≤ n := by
  have q := hv.r
  have hs : ∀ i : Int, 0 ≤ i → i < 7 → okS v i := fun i a b => hv.S a b
  have h3 := upF_b hs (o - h).toNat h n h0.1 (by omega) h2
  have h4 := dnF_b hs (h - o).toNat (h - 1) _ (by omega) (by omega) h3.1
  unfold sLeft
  exact ⟨h4.1, Int.le_trans h4.2 h3.2⟩
theorem c_X2_nominatedBy {k : eg_K} {z : eg_Z} {X : eg_M} {n b : Nat} {v : eg_v} {B : Int} (hb : isB b = true) (hp : hP z b v) (hv : VV B v) {s : Int} (hs : iR s) : eg_P k gX2_nominatedBy 2 0 0 [vR k b, vI s] n (enc k z X) (eg_f (some (vI (sNom v s))) n (enc k z X)) := by
  refine eg_P.of (by decide) (Nat.le_of_ble_eq_true rfl) ?_
  show eg_E k gX2_nominatedBy 2 0 0 n (enc k z X) [vR k b, vI s, vU, vU] [] 0 _
  have q := hv.r
  obtain ⟨⟨z0, z1, z2, z3⟩, ⟨c1, c3, c5, c7⟩, -⟩ := id hp
  have hs1 := hs.1; have hs2 := hs.2
  have L : ∀ (m : Nat) (i : Int) (a : Int), 0 ≤ i → i ≤ v 3 → a = sm (nomF v s) i.toNat → v 3 - i < (m : Int) → eg_E k gX2_nominatedBy 2 0 0 n (enc k z X) [vR k b, vI s, vI a, vI i] [] 4 (eg_f (some (vI (sNom v s))) n (enc k z X)) := by
    intro m
    induction m with
    | zero => intro i a h0 h1 ha hm; exfalso; omega
    | succ m ih =>
      intro i a h0 h1 ha hm
      refine eg_iload_n dX2_nominatedBy_4 rfl ?_
      refine eg_al_n dX2_nominatedBy_5 rfl rfl ?_
      refine eg_get fl_X2_39 dX2_nominatedBy_6 (by first | exact ep0 hb | exact ep1 hb | exact ep3 hb | exact ep5 hb | exact ep7 hb | exact ep9 hb | exact ep10 hb | exact ep11 hb) rfl ?_
      refine eg_get fl_X2_53 dX2_nominatedBy_9 (by first | exact ep0 hb | exact ep1 hb | exact ep3 hb | exact ep5 hb | exact ep7 hb | exact ep9 hb | exact ep10 hb | exact ep11 hb) rfl ?_
      rw [c7]
      refine eg_icmp_ge 47 dX2_nominatedBy_12 ⟨by omega, by omega⟩ ⟨by omega, by omega⟩ rfl (fun h12 => ?_) (fun h12 => ?_)
      · refine eg_iload_n dX2_nominatedBy_47 rfl ?_
        refine eg_ireturn dX2_nominatedBy_48 rfl rfl ?_
        have e9 : i = v 3 := by omega
        exact ⟨congrArg (fun q => some (vI q)) (by rw [ha, e9]; rfl), rfl, rfl⟩
      · refine eg_iload_n dX2_nominatedBy_15 rfl ?_
        refine eg_iconst dX2_nominatedBy_16 ?_
        refine eg_icmp_eq 29 dX2_nominatedBy_17 ⟨by omega, by omega⟩ ⟨by omega, by omega⟩ rfl (fun h17 => ?_) (fun h17 => ?_)
        · have o2 := hv.N (q := i) h0 h12; simp only [okN, isIn, isOut] at o2
          refine eg_iload_n dX2_nominatedBy_29 rfl ?_
          refine eg_al_n dX2_nominatedBy_30 rfl rfl ?_
          refine eg_get fl_X2_39 dX2_nominatedBy_31 (by first | exact ep0 hb | exact ep1 hb | exact ep3 hb | exact ep5 hb | exact ep7 hb | exact ep9 hb | exact ep10 hb | exact ep11 hb) rfl ?_
          refine eg_iload_n dX2_nominatedBy_34 rfl ?_
          refine eg_iconst dX2_nominatedBy_35 ?_
          refine eg_Vf2 cs_X2_79 dX2_nominatedBy_36 (nm_at hb hp hv h0 h12 (by omega) (by omega)) (by first | exact ep0 hb | exact ep1 hb | exact ep3 hb | exact ep5 hb | exact ep7 hb | exact ep9 hb | exact ep10 hb | exact ep11 hb) rfl (Nat.le_of_ble_eq_true rfl) (by decide) ?_
          refine eg_iadd dX2_nominatedBy_39 ?_
          refine eg_istore_n dX2_nominatedBy_40 rfl rfl rfl ?_
          refine eg_iinc dX2_nominatedBy_41 rfl rfl rfl ?_
          refine eg_goto 4 dX2_nominatedBy_44 rfl ?_
          refine ih (i + 1) _ (by omega) (by omega) ?_ (by omega)
          rw [sm_s _ h0, ← ha]
          unfold nomF
          first | rw [if_pos (by omega)] | (rw [if_neg (by omega)]; omega)
        · have o1 := hv.N (q := i) h0 h12; simp only [okN, isIn, isOut] at o1
          refine eg_al_n dX2_nominatedBy_20 rfl rfl ?_
          refine eg_iload_n dX2_nominatedBy_21 rfl ?_
          refine eg_Vf1 cs_X2_101 dX2_nominatedBy_22 (c_X2_shipperOf hb hp hv h0 h12) (by first | exact ep0 hb | exact ep1 hb | exact ep3 hb | exact ep5 hb | exact ep7 hb | exact ep9 hb | exact ep10 hb | exact ep11 hb) rfl (Nat.le_of_ble_eq_true rfl) (by decide) ?_
          refine eg_iload_n dX2_nominatedBy_25 rfl ?_
          refine eg_icmp_ne 41 dX2_nominatedBy_26 ⟨by omega, by omega⟩ ⟨by omega, by omega⟩ rfl (fun h26 => ?_) (fun h26 => ?_)
          · refine eg_iinc dX2_nominatedBy_41 rfl rfl rfl ?_
            refine eg_goto 4 dX2_nominatedBy_44 rfl ?_
            refine ih (i + 1) _ (by omega) (by omega) ?_ (by omega)
            rw [sm_s _ h0, ← ha]
            unfold nomF
            first | rw [if_pos (by omega)] | (rw [if_neg (by omega)]; omega)
          · have o2 := hv.N (q := i) h0 h12; simp only [okN, isIn, isOut] at o2
            refine eg_iload_n dX2_nominatedBy_29 rfl ?_
            refine eg_al_n dX2_nominatedBy_30 rfl rfl ?_
            refine eg_get fl_X2_39 dX2_nominatedBy_31 (by first | exact ep0 hb | exact ep1 hb | exact ep3 hb | exact ep5 hb | exact ep7 hb | exact ep9 hb | exact ep10 hb | exact ep11 hb) rfl ?_
            refine eg_iload_n dX2_nominatedBy_34 rfl ?_
            refine eg_iconst dX2_nominatedBy_35 ?_
            refine eg_Vf2 cs_X2_79 dX2_nominatedBy_36 (nm_at hb hp hv h0 h12 (by omega) (by omega)) (by first | exact ep0 hb | exact ep1 hb | exact ep3 hb | exact ep5 hb | exact ep7 hb | exact ep9 hb | exact ep10 hb | exact ep11 hb) rfl (Nat.le_of_ble_eq_true rfl) (by decide) ?_
            refine eg_iadd dX2_nominatedBy_39 ?_
            refine eg_istore_n dX2_nominatedBy_40 rfl rfl rfl ?_
            refine eg_iinc dX2_nominatedBy_41 rfl rfl rfl ?_
            refine eg_goto 4 dX2_nominatedBy_44 rfl ?_
            refine ih (i + 1) _ (by omega) (by omega) ?_ (by omega)
            rw [sm_s _ h0, ← ha]
            unfold nomF
            first | rw [if_pos (by omega)] | (rw [if_neg (by omega)]; omega)
  refine eg_iconst dX2_nominatedBy_0 ?_
  refine eg_istore_n dX2_nominatedBy_1 rfl rfl rfl ?_
  refine eg_iconst dX2_nominatedBy_2 ?_
  refine eg_istore_n dX2_nominatedBy_3 rfl rfl rfl ?_
  exact L ((v 3).toNat + 1) 0 0 (by omega) (by omega) rfl (by omega)
theorem c_X2_leftOver {k : eg_K} {z : eg_Z} {X : eg_M} {n b : Nat} {v : eg_v} {B : Int} (hb : isB b = true) (hp : hP z b v) (hv : VV B v) {h o x : Int} (hh : 0 ≤ h ∧ h < v 0) (ho : 0 ≤ o ∧ o < v 0) (hx : 0 ≤ x ∧ x ≤ 99999) : eg_P k gX2_leftOver 1 0 0 [vR k b, vI h, vI o, vI x] n (enc k z X) (eg_f (some (vI (sLeft v h o x))) n (enc k z X)) := by
  refine eg_P.of (by decide) (Nat.le_of_ble_eq_true rfl) ?_
  show eg_E k gX2_leftOver 1 0 0 n (enc k z X) [vR k b, vI h, vI o, vI x, vU, vU] [] 0 _
  have q := hv.r
  obtain ⟨⟨z0, z1, z2, z3⟩, ⟨c1, c3, c5, c7⟩, -⟩ := id hp
  have L2 : ∀ (m : Nat) (i : Int) (y : Int), dnF v (i + 1 - o).toNat i y = sLeft v h o x → -1 ≤ i → i < segs v → 0 ≤ y → y ≤ 99999 → ((i + 1 - o).toNat : Int) < (m : Int) → eg_E k gX2_leftOver 1 0 0 n (enc k z X) [vR k b, vI h, vI o, vI x, vI y, vI i] [] 45 (eg_f (some (vI (sLeft v h o x))) n (enc k z X)) := by
    intro m
    induction m with
    | zero => intro i y hy h0 h1 h2 h3 hm; exfalso; omega
    | succ m ih =>
      intro i y hy h0 h1 h2 h3 hm
      refine eg_iload dX2_leftOver_45 rfl ?_
      refine eg_iload_n dX2_leftOver_47 rfl ?_
      refine eg_icmp_lt 79 dX2_leftOver_48 ⟨by omega, by omega⟩ ⟨by omega, by omega⟩ rfl (fun h48 => ?_) (fun h48 => ?_)
      · refine eg_iload dX2_leftOver_79 rfl ?_
        refine eg_ireturn dX2_leftOver_81 rfl rfl ?_
        have e9 : (i + 1 - o).toNat = 0 := by omega
        exact ⟨congrArg (fun q => some (vI q)) (by rw [← hy, e9]; rfl), rfl, rfl⟩
      · have o1 := hv.S (i := i) (by omega) (by omega); unfold okS at o1
        have m1 := mul_b (show 0 ≤ y by omega) (show y ≤ 99999 by omega) o1.2.1 o1.2.2
        refine eg_iload dX2_leftOver_51 rfl ?_
        refine eg_iload dX2_leftOver_53 rfl ?_
        refine eg_al_n dX2_leftOver_55 rfl rfl ?_
        refine eg_get fl_X2_29 dX2_leftOver_56 (by first | exact ep0 hb | exact ep1 hb | exact ep3 hb | exact ep5 hb | exact ep7 hb | exact ep9 hb | exact ep10 hb | exact ep11 hb) rfl ?_
        refine eg_iload dX2_leftOver_59 rfl ?_
        refine eg_iconst dX2_leftOver_61 ?_
        refine eg_Vf2 cs_X2_79 dX2_leftOver_62 (sg_at hb hp hv (by omega) (by omega) (by omega) (by omega)) (by first | exact ep0 hb | exact ep1 hb | exact ep3 hb | exact ep5 hb | exact ep7 hb | exact ep9 hb | exact ep10 hb | exact ep11 hb) rfl (Nat.le_of_ble_eq_true rfl) (by decide) ?_
        refine eg_imul dX2_leftOver_65 ?_
        refine eg_sipush dX2_leftOver_66 (by decide) ?_
        refine eg_idiv dX2_leftOver_69 ⟨by omega, by omega⟩ ⟨by omega, by omega⟩ (by omega) (by omega) ?_
        refine eg_isub dX2_leftOver_70 ?_
        refine eg_istore dX2_leftOver_71 rfl rfl rfl ?_
        refine eg_iinc dX2_leftOver_73 rfl rfl rfl ?_
        refine eg_goto 45 dX2_leftOver_76 rfl ?_
        have e8 : (i + 1 - o).toNat = (i + -1 + 1 - o).toNat + 1 := by omega
        have b1 := bh_b (v := v) (i := i) o1.2 (show 0 ≤ y by omega)
        refine ih (i + -1) _ ?_ (by omega) (by omega) (by unfold bh at b1; omega) (by unfold bh at b1; omega) (by omega)
        rw [← hy, e8]
        show dnF v _ (i + -1) (bh v i y) = dnF v _ (i - 1) (bh v i y)
        rfl
  have L1 : ∀ (m : Nat) (i : Int) (y : Int), upF v (o - i).toNat i y = upF v (o - h).toNat h x → h ≤ i → i ≤ (if h ≤ o then o else h) → 0 ≤ y → y ≤ 99999 → (if h ≤ o then o else h) - i < (m : Int) → eg_E k gX2_leftOver 1 0 0 n (enc k z X) [vR k b, vI h, vI o, vI x, vI y, vI i] [] 6 (eg_f (some (vI (sLeft v h o x))) n (enc k z X)) := by
    intro m
    induction m with
    | zero => intro i y hy h0 h1 h2 h3 hm; exfalso; omega
    | succ m ih =>
      intro i y hy h0 h1 h2 h3 hm
      have h9 : i ≤ 7 := by split at h1 <;> omega
      refine eg_iload dX2_leftOver_6 rfl ?_
      refine eg_iload_n dX2_leftOver_8 rfl ?_
      refine eg_icmp_ge 40 dX2_leftOver_9 ⟨by omega, by omega⟩ ⟨by omega, by omega⟩ rfl (fun h9 => ?_) (fun h9 => ?_)
      · refine eg_iload_n dX2_leftOver_40 rfl ?_
        refine eg_iconst dX2_leftOver_41 ?_
        refine eg_isub dX2_leftOver_42 ?_
        refine eg_istore dX2_leftOver_43 rfl rfl rfl ?_
        refine L2 9 (h - 1) y ?_ (by omega) (by omega) h2 h3 (by omega)
        rw [show h - 1 + 1 - o = h - o by omega]; unfold sLeft; rw [← hy, show (o - i).toNat = 0 by omega]; rfl
      · have o1 := hv.S (i := i) (by omega) (by omega); unfold okS at o1
        have m1 := mul_b (show 0 ≤ y by omega) (show y ≤ 99999 by omega) o1.2.1 o1.2.2
        refine eg_iload dX2_leftOver_12 rfl ?_
        refine eg_iload dX2_leftOver_14 rfl ?_
        refine eg_al_n dX2_leftOver_16 rfl rfl ?_
        refine eg_get fl_X2_29 dX2_leftOver_17 (by first | exact ep0 hb | exact ep1 hb | exact ep3 hb | exact ep5 hb | exact ep7 hb | exact ep9 hb | exact ep10 hb | exact ep11 hb) rfl ?_
        refine eg_iload dX2_leftOver_20 rfl ?_
        refine eg_iconst dX2_leftOver_22 ?_
        refine eg_Vf2 cs_X2_79 dX2_leftOver_23 (sg_at hb hp hv (by omega) (by omega) (by omega) (by omega)) (by first | exact ep0 hb | exact ep1 hb | exact ep3 hb | exact ep5 hb | exact ep7 hb | exact ep9 hb | exact ep10 hb | exact ep11 hb) rfl (Nat.le_of_ble_eq_true rfl) (by decide) ?_
        refine eg_imul dX2_leftOver_26 ?_
        refine eg_sipush dX2_leftOver_27 (by decide) ?_
        refine eg_idiv dX2_leftOver_30 ⟨by omega, by omega⟩ ⟨by omega, by omega⟩ (by omega) (by omega) ?_
        refine eg_isub dX2_leftOver_31 ?_
        refine eg_istore dX2_leftOver_32 rfl rfl rfl ?_
        refine eg_iinc dX2_leftOver_34 rfl rfl rfl ?_
        refine eg_goto 6 dX2_leftOver_37 rfl ?_
        have e8 : (o - i).toNat = (o - (i + 1)).toNat + 1 := by omega
        have b1 := bh_b (v := v) (i := i) o1.2 (show 0 ≤ y by omega)
        refine ih (i + 1) _ ?_ (by omega) (by omega) (by unfold bh at b1; omega) (by unfold bh at b1; omega) (by omega)
        rw [← hy, e8]
        rfl
  refine eg_iload_n dX2_leftOver_0 rfl ?_
  refine eg_istore dX2_leftOver_1 rfl rfl rfl ?_
  refine eg_iload_n dX2_leftOver_3 rfl ?_
  refine eg_istore dX2_leftOver_4 rfl rfl rfl ?_
  exact L1 9 h x rfl (by omega) (by split <;> omega) (by omega) (by omega) (by split <;> omega)
theorem c_X2_allows {k : eg_K} {z : eg_Z} {X : eg_M} {n b : Nat} {v : eg_v} {B : Int} (hb : isB b = true) (hp : hP z b v) (hv : VV B v) {s f t x : Int} (hs : iR s) (hf : iR f) (ht : iR t) (hx : iR x) : eg_P k gX2_allows 2 0 0 [vR k b, vI s, vI f, vI t, vI x] n (enc k z X) (eg_f (some (vI (bi ((0 ≤ s ∧ s < v 2) ∧ (f = -1 ∨ (0 ≤ f ∧ f < v 1 ∧ gP v f 1 = 1)) ∧ (t = -1 ∨ (0 ≤ t ∧ t < v 1 ∧ gP v t 1 = 0)) ∧ (f ≠ -1 ∨ t ≠ -1) ∧ 1 ≤ x ∧ x ≤ 9999)))) n (enc k z X)) := by
  refine eg_P.of (by decide) (Nat.le_of_ble_eq_true rfl) ?_
  show eg_E k gX2_allows 2 0 0 n (enc k z X) [vR k b, vI s, vI f, vI t, vI x] [] 0 _
  have q := hv.r
  obtain ⟨⟨z0, z1, z2, z3⟩, ⟨c1, c3, c5, c7⟩, -⟩ := id hp
  have hs1 := hs.1; have hs2 := hs.2; have hf1 := hf.1; have hf2 := hf.2; have ht1 := ht.1; have ht2 := ht.2; have hx1 := hx.1; have hx2 := hx.2
  refine eg_al_n dX2_allows_0 rfl rfl ?_
  refine eg_get fl_X2_36 dX2_allows_1 (by first | exact ep0 hb | exact ep1 hb | exact ep3 hb | exact ep5 hb | exact ep7 hb | exact ep9 hb | exact ep10 hb | exact ep11 hb) rfl ?_
  refine eg_iload_n dX2_allows_4 rfl ?_
  refine eg_Vf1 cs_X2_75 dX2_allows_5 (sh_has hb hp hv hs) (by first | exact ep0 hb | exact ep1 hb | exact ep3 hb | exact ep5 hb | exact ep7 hb | exact ep9 hb | exact ep10 hb | exact ep11 hb) rfl (Nat.le_of_ble_eq_true rfl) (by decide) ?_
  refine eg_bi_eq 63 dX2_allows_8 rfl (fun h8 => ?_) (fun h8 => ?_)
  · refine eg_iconst dX2_allows_63 ?_
    refine eg_ireturn dX2_allows_64 rfl rfl ?_
    exact ⟨congrArg (fun q => some (vI q)) (by unfold bi; split <;> omega), rfl, rfl⟩
  · refine eg_iload_n dX2_allows_11 rfl ?_
    refine eg_iconst dX2_allows_12 ?_
    refine eg_icmp_eq 24 dX2_allows_13 ⟨by omega, by omega⟩ ⟨by omega, by omega⟩ rfl (fun h13 => ?_) (fun h13 => ?_)
    · refine eg_iload_n dX2_allows_24 rfl ?_
      refine eg_iconst dX2_allows_25 ?_
      refine eg_icmp_eq 37 dX2_allows_26 ⟨by omega, by omega⟩ ⟨by omega, by omega⟩ rfl (fun h26 => ?_) (fun h26 => ?_)
      · refine eg_iload_n dX2_allows_37 rfl ?_
        refine eg_iconst dX2_allows_38 ?_
        refine eg_icmp_ne 47 dX2_allows_39 ⟨by omega, by omega⟩ ⟨by omega, by omega⟩ rfl (fun h39 => ?_) (fun h39 => ?_)
        · refine eg_iload dX2_allows_47 rfl ?_
          refine eg_iconst dX2_allows_49 ?_
          refine eg_sipush dX2_allows_50 (by decide) ?_
          refine eg_SNf3 cs_X2_93 dX2_allows_53 (c_X8_within hx ⟨by omega, by omega⟩ ⟨by omega, by omega⟩) (Nat.le_of_ble_eq_true rfl) (by decide) ?_
          refine eg_bi_eq 63 dX2_allows_56 rfl (fun h56 => ?_) (fun h56 => ?_)
          · refine eg_iconst dX2_allows_63 ?_
            refine eg_ireturn dX2_allows_64 rfl rfl ?_
            exact ⟨congrArg (fun q => some (vI q)) (by unfold bi; split <;> omega), rfl, rfl⟩
          · refine eg_iconst dX2_allows_59 ?_
            refine eg_goto 64 dX2_allows_60 rfl ?_
            refine eg_ireturn dX2_allows_64 rfl rfl ?_
            exact ⟨congrArg (fun q => some (vI q)) (by unfold bi; split <;> omega), rfl, rfl⟩
        · refine eg_iload_n dX2_allows_42 rfl ?_
          refine eg_iconst dX2_allows_43 ?_
          refine eg_icmp_eq 63 dX2_allows_44 ⟨by omega, by omega⟩ ⟨by omega, by omega⟩ rfl (fun h44 => ?_) (fun h44 => ?_)
          · refine eg_iconst dX2_allows_63 ?_
            refine eg_ireturn dX2_allows_64 rfl rfl ?_
            exact ⟨congrArg (fun q => some (vI q)) (by unfold bi; split <;> omega), rfl, rfl⟩
          · refine eg_iload dX2_allows_47 rfl ?_
            refine eg_iconst dX2_allows_49 ?_
            refine eg_sipush dX2_allows_50 (by decide) ?_
            refine eg_SNf3 cs_X2_93 dX2_allows_53 (c_X8_within hx ⟨by omega, by omega⟩ ⟨by omega, by omega⟩) (Nat.le_of_ble_eq_true rfl) (by decide) ?_
            refine eg_bi_eq 63 dX2_allows_56 rfl (fun h56 => ?_) (fun h56 => ?_)
            · refine eg_iconst dX2_allows_63 ?_
              refine eg_ireturn dX2_allows_64 rfl rfl ?_
              exact ⟨congrArg (fun q => some (vI q)) (by unfold bi; split <;> omega), rfl, rfl⟩
            · refine eg_iconst dX2_allows_59 ?_
              refine eg_goto 64 dX2_allows_60 rfl ?_
              refine eg_ireturn dX2_allows_64 rfl rfl ?_
              exact ⟨congrArg (fun q => some (vI q)) (by unfold bi; split <;> omega), rfl, rfl⟩
      · refine eg_al_n dX2_allows_29 rfl rfl ?_
        refine eg_iload_n dX2_allows_30 rfl ?_
        refine eg_Vf1 cs_X2_90 dX2_allows_31 (c_X2_isOut hb hp hv ht) (by first | exact ep0 hb | exact ep1 hb | exact ep3 hb | exact ep5 hb | exact ep7 hb | exact ep9 hb | exact ep10 hb | exact ep11 hb) rfl (Nat.le_of_ble_eq_true rfl) (by decide) ?_
        refine eg_bi_eq 63 dX2_allows_34 rfl (fun h34 => ?_) (fun h34 => ?_)
        · refine eg_iconst dX2_allows_63 ?_
          refine eg_ireturn dX2_allows_64 rfl rfl ?_
          exact ⟨congrArg (fun q => some (vI q)) (by unfold bi; split <;> omega), rfl, rfl⟩
        · refine eg_iload_n dX2_allows_37 rfl ?_
          refine eg_iconst dX2_allows_38 ?_
          refine eg_icmp_ne 47 dX2_allows_39 ⟨by omega, by omega⟩ ⟨by omega, by omega⟩ rfl (fun h39 => ?_) (fun h39 => ?_)
          · refine eg_iload dX2_allows_47 rfl ?_
            refine eg_iconst dX2_allows_49 ?_
            refine eg_sipush dX2_allows_50 (by decide) ?_
            refine eg_SNf3 cs_X2_93 dX2_allows_53 (c_X8_within hx ⟨by omega, by omega⟩ ⟨by omega, by omega⟩) (Nat.le_of_ble_eq_true rfl) (by decide) ?_
            refine eg_bi_eq 63 dX2_allows_56 rfl (fun h56 => ?_) (fun h56 => ?_)
            · refine eg_iconst dX2_allows_63 ?_
              refine eg_ireturn dX2_allows_64 rfl rfl ?_
              exact ⟨congrArg (fun q => some (vI q)) (by unfold bi; split <;> omega), rfl, rfl⟩
            · refine eg_iconst dX2_allows_59 ?_
              refine eg_goto 64 dX2_allows_60 rfl ?_
              refine eg_ireturn dX2_allows_64 rfl rfl ?_
              exact ⟨congrArg (fun q => some (vI q)) (by unfold bi; split <;> omega), rfl, rfl⟩
          · refine eg_iload_n dX2_allows_42 rfl ?_
            refine eg_iconst dX2_allows_43 ?_
            refine eg_icmp_eq 63 dX2_allows_44 ⟨by omega, by omega⟩ ⟨by omega, by omega⟩ rfl (fun h44 => ?_) (fun h44 => ?_)
            · refine eg_iconst dX2_allows_63 ?_
              refine eg_ireturn dX2_allows_64 rfl rfl ?_
              exact ⟨congrArg (fun q => some (vI q)) (by unfold bi; split <;> omega), rfl, rfl⟩
            · refine eg_iload dX2_allows_47 rfl ?_
              refine eg_iconst dX2_allows_49 ?_
              refine eg_sipush dX2_allows_50 (by decide) ?_
              refine eg_SNf3 cs_X2_93 dX2_allows_53 (c_X8_within hx ⟨by omega, by omega⟩ ⟨by omega, by omega⟩) (Nat.le_of_ble_eq_true rfl) (by decide) ?_
              refine eg_bi_eq 63 dX2_allows_56 rfl (fun h56 => ?_) (fun h56 => ?_)
              · refine eg_iconst dX2_allows_63 ?_
                refine eg_ireturn dX2_allows_64 rfl rfl ?_
                exact ⟨congrArg (fun q => some (vI q)) (by unfold bi; split <;> omega), rfl, rfl⟩
              · refine eg_iconst dX2_allows_59 ?_
                refine eg_goto 64 dX2_allows_60 rfl ?_
                refine eg_ireturn dX2_allows_64 rfl rfl ?_
                exact ⟨congrArg (fun q => some (vI q)) (by unfold bi; split <;> omega), rfl, rfl⟩
    · refine eg_al_n dX2_allows_16 rfl rfl ?_
      refine eg_iload_n dX2_allows_17 rfl ?_
      refine eg_Vf1 cs_X2_87 dX2_allows_18 (c_X2_isIn hb hp hv hf) (by first | exact ep0 hb | exact ep1 hb | exact ep3 hb | exact ep5 hb | exact ep7 hb | exact ep9 hb | exact ep10 hb | exact ep11 hb) rfl (Nat.le_of_ble_eq_true rfl) (by decide) ?_
      refine eg_bi_eq 63 dX2_allows_21 rfl (fun h21 => ?_) (fun h21 => ?_)
      · refine eg_iconst dX2_allows_63 ?_
        refine eg_ireturn dX2_allows_64 rfl rfl ?_
        exact ⟨congrArg (fun q => some (vI q)) (by unfold bi; split <;> omega), rfl, rfl⟩
      · refine eg_iload_n dX2_allows_24 rfl ?_
        refine eg_iconst dX2_allows_25 ?_
        refine eg_icmp_eq 37 dX2_allows_26 ⟨by omega, by omega⟩ ⟨by omega, by omega⟩ rfl (fun h26 => ?_) (fun h26 => ?_)
        · refine eg_iload_n dX2_allows_37 rfl ?_
          refine eg_iconst dX2_allows_38 ?_
          refine eg_icmp_ne 47 dX2_allows_39 ⟨by omega, by omega⟩ ⟨by omega, by omega⟩ rfl (fun h39 => ?_) (fun h39 => ?_)
          · refine eg_iload dX2_allows_47 rfl ?_
            refine eg_iconst dX2_allows_49 ?_
            refine eg_sipush dX2_allows_50 (by decide) ?_
            refine eg_SNf3 cs_X2_93 dX2_allows_53 (c_X8_within hx ⟨by omega, by omega⟩ ⟨by omega, by omega⟩) (Nat.le_of_ble_eq_true rfl) (by decide) ?_
            refine eg_bi_eq 63 dX2_allows_56 rfl (fun h56 => ?_) (fun h56 => ?_)
            · refine eg_iconst dX2_allows_63 ?_
              refine eg_ireturn dX2_allows_64 rfl rfl ?_
              exact ⟨congrArg (fun q => some (vI q)) (by unfold bi; split <;> omega), rfl, rfl⟩
            · refine eg_iconst dX2_allows_59 ?_
              refine eg_goto 64 dX2_allows_60 rfl ?_
              refine eg_ireturn dX2_allows_64 rfl rfl ?_
              exact ⟨congrArg (fun q => some (vI q)) (by unfold bi; split <;> omega), rfl, rfl⟩
          · refine eg_iload_n dX2_allows_42 rfl ?_
            refine eg_iconst dX2_allows_43 ?_
            refine eg_icmp_eq 63 dX2_allows_44 ⟨by omega, by omega⟩ ⟨by omega, by omega⟩ rfl (fun h44 => ?_) (fun h44 => ?_)
            · refine eg_iconst dX2_allows_63 ?_
              refine eg_ireturn dX2_allows_64 rfl rfl ?_
              exact ⟨congrArg (fun q => some (vI q)) (by unfold bi; split <;> omega), rfl, rfl⟩
            · refine eg_iload dX2_allows_47 rfl ?_
              refine eg_iconst dX2_allows_49 ?_
              refine eg_sipush dX2_allows_50 (by decide) ?_
              refine eg_SNf3 cs_X2_93 dX2_allows_53 (c_X8_within hx ⟨by omega, by omega⟩ ⟨by omega, by omega⟩) (Nat.le_of_ble_eq_true rfl) (by decide) ?_
              refine eg_bi_eq 63 dX2_allows_56 rfl (fun h56 => ?_) (fun h56 => ?_)
              · refine eg_iconst dX2_allows_63 ?_
                refine eg_ireturn dX2_allows_64 rfl rfl ?_
                exact ⟨congrArg (fun q => some (vI q)) (by unfold bi; split <;> omega), rfl, rfl⟩
              · refine eg_iconst dX2_allows_59 ?_
                refine eg_goto 64 dX2_allows_60 rfl ?_
                refine eg_ireturn dX2_allows_64 rfl rfl ?_
                exact ⟨congrArg (fun q => some (vI q)) (by unfold bi; split <;> omega), rfl, rfl⟩
        · refine eg_al_n dX2_allows_29 rfl rfl ?_
          refine eg_iload_n dX2_allows_30 rfl ?_
          refine eg_Vf1 cs_X2_90 dX2_allows_31 (c_X2_isOut hb hp hv ht) (by first | exact ep0 hb | exact ep1 hb | exact ep3 hb | exact ep5 hb | exact ep7 hb | exact ep9 hb | exact ep10 hb | exact ep11 hb) rfl (Nat.le_of_ble_eq_true rfl) (by decide) ?_
          refine eg_bi_eq 63 dX2_allows_34 rfl (fun h34 => ?_) (fun h34 => ?_)
          · refine eg_iconst dX2_allows_63 ?_
            refine eg_ireturn dX2_allows_64 rfl rfl ?_
            exact ⟨congrArg (fun q => some (vI q)) (by unfold bi; split <;> omega), rfl, rfl⟩
          · refine eg_iload_n dX2_allows_37 rfl ?_
            refine eg_iconst dX2_allows_38 ?_
            refine eg_icmp_ne 47 dX2_allows_39 ⟨by omega, by omega⟩ ⟨by omega, by omega⟩ rfl (fun h39 => ?_) (fun h39 => ?_)
            · refine eg_iload dX2_allows_47 rfl ?_
              refine eg_iconst dX2_allows_49 ?_
              refine eg_sipush dX2_allows_50 (by decide) ?_
              refine eg_SNf3 cs_X2_93 dX2_allows_53 (c_X8_within hx ⟨by omega, by omega⟩ ⟨by omega, by omega⟩) (Nat.le_of_ble_eq_true rfl) (by decide) ?_
              refine eg_bi_eq 63 dX2_allows_56 rfl (fun h56 => ?_) (fun h56 => ?_)
              · refine eg_iconst dX2_allows_63 ?_
                refine eg_ireturn dX2_allows_64 rfl rfl ?_
                exact ⟨congrArg (fun q => some (vI q)) (by unfold bi; split <;> omega), rfl, rfl⟩
              · refine eg_iconst dX2_allows_59 ?_
                refine eg_goto 64 dX2_allows_60 rfl ?_
                refine eg_ireturn dX2_allows_64 rfl rfl ?_
                exact ⟨congrArg (fun q => some (vI q)) (by unfold bi; split <;> omega), rfl, rfl⟩
            · refine eg_iload_n dX2_allows_42 rfl ?_
              refine eg_iconst dX2_allows_43 ?_
              refine eg_icmp_eq 63 dX2_allows_44 ⟨by omega, by omega⟩ ⟨by omega, by omega⟩ rfl (fun h44 => ?_) (fun h44 => ?_)
              · refine eg_iconst dX2_allows_63 ?_
                refine eg_ireturn dX2_allows_64 rfl rfl ?_
                exact ⟨congrArg (fun q => some (vI q)) (by unfold bi; split <;> omega), rfl, rfl⟩
              · refine eg_iload dX2_allows_47 rfl ?_
                refine eg_iconst dX2_allows_49 ?_
                refine eg_sipush dX2_allows_50 (by decide) ?_
                refine eg_SNf3 cs_X2_93 dX2_allows_53 (c_X8_within hx ⟨by omega, by omega⟩ ⟨by omega, by omega⟩) (Nat.le_of_ble_eq_true rfl) (by decide) ?_
                refine eg_bi_eq 63 dX2_allows_56 rfl (fun h56 => ?_) (fun h56 => ?_)
                · refine eg_iconst dX2_allows_63 ?_
                  refine eg_ireturn dX2_allows_64 rfl rfl ?_
                  exact ⟨congrArg (fun q => some (vI q)) (by unfold bi; split <;> omega), rfl, rfl⟩
                · refine eg_iconst dX2_allows_59 ?_
                  refine eg_goto 64 dX2_allows_60 rfl ?_
                  refine eg_ireturn dX2_allows_64 rfl rfl ?_
                  exact ⟨congrArg (fun q => some (vI q)) (by unfold bi; split <;> omega), rfl, rfl⟩
def sDel (v : eg_v) (q x : Int) : Int := if gN v q 1 = -1 ∨ gN v q 2 = -1 then x else sLeft v (gP v (gN v q 1) 0) (gP v (gN v q 2) 0) x
theorem VV.hub {B : Int} {v : eg_v} (hv : VV B v) {q : Int} (h0 : 0 ≤ q) (h1 : q < v 3) (h2 : ¬ gN v q 1 = -1) (h3 : ¬ gN v q 2 = -1) : (0 ≤ gN v q 1 ∧ gN v q 1 < v 1) ∧ (0 ≤ gN v q 2 ∧ gN v q 2 < v 1) ∧ (0 ≤ gP v (gN v q 1) 0 ∧ gP v (gN v q 1) 0 < v 0) ∧ (0 ≤ gP v (gN v q 2) 0 ∧ gP v (gN v q 2) 0 < v 0) := by
  have o1 := hv.N h0 h1
  simp only [okN, isIn, isOut] at o1
  have a1 : 0 ≤ gN v q 1 ∧ gN v q 1 < v 1 := by omega
  have a2 : 0 ≤ gN v q 2 ∧ gN v q 2 < v 1 := by omega
  exact ⟨a1, a2, (hv.P a1.1 a1.2).1, (hv.P a2.1 a2.2).1⟩
theorem sDel_b {v : eg_v} {B : Int} (hv : VV B v) {q x : Int} (h0 : 0 ≤ q) (h1 : q < v 3) (h2 : 0 ≤ x) : 0 ≤ sDel v q x ∧ sDel v q x ≤ x := by
  unfold sDel
  split
  · omega
  · have hh := hv.hub h0 h1 (by omega) (by omega)
    exact sLeft_b hv hh.2.2.1 hh.2.2.2 h2
theorem c_X2_delivered {k : eg_K} {z : eg_Z} {X : eg_M} {n b : Nat} {v : eg_v} {B : Int} (hb : isB b = true) (hp : hP z b v) (hv : VV B v) {r x : Int} (h0 : 0 ≤ r) (h1 : r < v 3) (hx : 0 ≤ x ∧ x ≤ 99999) : eg_P k gX2_delivered 2 0 0 [vR k b, vI r, vI x] n (enc k z X) (eg_f (some (vI (sDel v r x))) n (enc k z X)) := by
  refine eg_P.of (by decide) (Nat.le_of_ble_eq_true rfl) ?_
  show eg_E k gX2_delivered 2 0 0 n (enc k z X) [vR k b, vI r, vI x, vU, vU] [] 0 _
  have q := hv.r
  obtain ⟨⟨z0, z1, z2, z3⟩, ⟨c1, c3, c5, c7⟩, -⟩ := id hp
  refine eg_al_n dX2_delivered_0 rfl rfl ?_
  refine eg_iload_n dX2_delivered_1 rfl ?_
  refine eg_Vf1 cs_X2_111 dX2_delivered_2 (c_X2_goesAlong hb hp hv h0 h1) (by first | exact ep0 hb | exact ep1 hb | exact ep3 hb | exact ep5 hb | exact ep7 hb | exact ep9 hb | exact ep10 hb | exact ep11 hb) rfl (Nat.le_of_ble_eq_true rfl) (by decide) ?_
  refine eg_bi_ne 10 dX2_delivered_5 rfl (fun h5 => ?_) (fun h5 => ?_)
  · have hh := hv.hub h0 h1 (by omega) (by omega)
    refine eg_al_n dX2_delivered_10 rfl rfl ?_
    refine eg_al_n dX2_delivered_11 rfl rfl ?_
    refine eg_get fl_X2_39 dX2_delivered_12 (by first | exact ep0 hb | exact ep1 hb | exact ep3 hb | exact ep5 hb | exact ep7 hb | exact ep9 hb | exact ep10 hb | exact ep11 hb) rfl ?_
    refine eg_iload_n dX2_delivered_15 rfl ?_
    refine eg_iconst dX2_delivered_16 ?_
    refine eg_Vf2 cs_X2_79 dX2_delivered_17 (nm_at hb hp hv h0 h1 (by omega) (by omega)) (by first | exact ep0 hb | exact ep1 hb | exact ep3 hb | exact ep5 hb | exact ep7 hb | exact ep9 hb | exact ep10 hb | exact ep11 hb) rfl (Nat.le_of_ble_eq_true rfl) (by decide) ?_
    refine eg_Vf1 cs_X2_114 dX2_delivered_20 (c_X2_hubOf hb hp hv (by omega) (by omega)) (by first | exact ep0 hb | exact ep1 hb | exact ep3 hb | exact ep5 hb | exact ep7 hb | exact ep9 hb | exact ep10 hb | exact ep11 hb) rfl (Nat.le_of_ble_eq_true rfl) (by decide) ?_
    refine eg_istore_n dX2_delivered_23 rfl rfl rfl ?_
    refine eg_al_n dX2_delivered_24 rfl rfl ?_
    refine eg_al_n dX2_delivered_25 rfl rfl ?_
    refine eg_get fl_X2_39 dX2_delivered_26 (by first | exact ep0 hb | exact ep1 hb | exact ep3 hb | exact ep5 hb | exact ep7 hb | exact ep9 hb | exact ep10 hb | exact ep11 hb) rfl ?_
    refine eg_iload_n dX2_delivered_29 rfl ?_
    refine eg_iconst dX2_delivered_30 ?_
    refine eg_Vf2 cs_X2_79 dX2_delivered_31 (nm_at hb hp hv h0 h1 (by omega) (by omega)) (by first | exact ep0 hb | exact ep1 hb | exact ep3 hb | exact ep5 hb | exact ep7 hb | exact ep9 hb | exact ep10 hb | exact ep11 hb) rfl (Nat.le_of_ble_eq_true rfl) (by decide) ?_
    refine eg_Vf1 cs_X2_114 dX2_delivered_34 (c_X2_hubOf hb hp hv (by omega) (by omega)) (by first | exact ep0 hb | exact ep1 hb | exact ep3 hb | exact ep5 hb | exact ep7 hb | exact ep9 hb | exact ep10 hb | exact ep11 hb) rfl (Nat.le_of_ble_eq_true rfl) (by decide) ?_
    refine eg_istore dX2_delivered_37 rfl rfl rfl ?_
    refine eg_al_n dX2_delivered_39 rfl rfl ?_
    refine eg_iload_n dX2_delivered_40 rfl ?_
    refine eg_iload dX2_delivered_41 rfl ?_
    refine eg_iload_n dX2_delivered_43 rfl ?_
    refine eg_Vf3 cs_X2_107 dX2_delivered_44 (c_X2_leftOver hb hp hv hh.2.2.1 hh.2.2.2 hx) (by first | exact ep0 hb | exact ep1 hb | exact ep3 hb | exact ep5 hb | exact ep7 hb | exact ep9 hb | exact ep10 hb | exact ep11 hb) rfl (Nat.le_of_ble_eq_true rfl) (by decide) ?_
    refine eg_ireturn dX2_delivered_47 rfl rfl ?_
    exact ⟨congrArg (fun q => some (vI q)) (by unfold sDel; first | (rw [if_pos (by omega)]) | (rw [if_neg (by omega)])), rfl, rfl⟩
  · refine eg_iload_n dX2_delivered_8 rfl ?_
    refine eg_ireturn dX2_delivered_9 rfl rfl ?_
    exact ⟨congrArg (fun q => some (vI q)) (by unfold sDel; first | (rw [if_pos (by omega)]) | (rw [if_neg (by omega)])), rfl, rfl⟩
theorem c_X2_loggedBalance {k : eg_K} {z : eg_Z} {X : eg_M} {n b : Nat} {v : eg_v} {B : Int} (hb : isB b = true) (hp : hP z b v) (hv : VV B v) {i s : Int} (h0 : 0 ≤ i ∧ i < 8) (h1 : 0 ≤ s ∧ s < 6) : eg_P k gX2_loggedBalance 1 0 0 [vR k b, vI i, vI s] n (enc k z X) (eg_f (some (vI (z (b + 11) (i * 6 + s).toNat))) n (enc k z X)) := by
  refine eg_P.of (by decide) (Nat.le_of_ble_eq_true rfl) ?_
  show eg_E k gX2_loggedBalance 1 0 0 n (enc k z X) [vR k b, vI i, vI s] [] 0 _
  have q := hv.r
  obtain ⟨⟨z0, z1, z2, z3⟩, ⟨c1, c3, c5, c7⟩, -⟩ := id hp
  refine eg_iload_n dX2_loggedBalance_0 rfl ?_
  refine eg_iconst dX2_loggedBalance_1 ?_
  refine eg_bipush dX2_loggedBalance_2 (by decide) ?_
  refine eg_SNf3 cs_X2_93 dX2_loggedBalance_4 (c_X8_within ⟨by omega, by omega⟩ ⟨by omega, by omega⟩ ⟨by omega, by omega⟩) (Nat.le_of_ble_eq_true rfl) (by decide) ?_
  refine eg_bi_eq 19 dX2_loggedBalance_7 rfl (fun h7 => absurd h7 (by omega)) (fun h7 => ?_)
  refine eg_iload_n dX2_loggedBalance_10 rfl ?_
  refine eg_iconst dX2_loggedBalance_11 ?_
  refine eg_iconst dX2_loggedBalance_12 ?_
  refine eg_SNf3 cs_X2_93 dX2_loggedBalance_13 (c_X8_within ⟨by omega, by omega⟩ ⟨by omega, by omega⟩ ⟨by omega, by omega⟩) (Nat.le_of_ble_eq_true rfl) (by decide) ?_
  refine eg_bi_ne 22 dX2_loggedBalance_16 rfl (fun h16 => ?_) (fun h16 => absurd h16 (by omega))
  refine eg_al_n dX2_loggedBalance_22 rfl rfl ?_
  refine eg_get fl_X2_49 dX2_loggedBalance_23 (by first | exact ep0 hb | exact ep1 hb | exact ep3 hb | exact ep5 hb | exact ep7 hb | exact ep9 hb | exact ep10 hb | exact ep11 hb) rfl ?_
  refine eg_iload_n dX2_loggedBalance_26 rfl ?_
  refine eg_bipush dX2_loggedBalance_27 (by decide) ?_
  refine eg_imul dX2_loggedBalance_29 ?_
  refine eg_iload_n dX2_loggedBalance_30 rfl ?_
  refine eg_iadd dX2_loggedBalance_31 ?_
  refine eg_iald dX2_loggedBalance_32 (by first | exact ep0 hb | exact ep1 hb | exact ep3 hb | exact ep5 hb | exact ep7 hb | exact ep9 hb | exact ep10 hb | exact ep11 hb) (by omega) (by omega) (by decide) ?_
  refine eg_ireturn dX2_loggedBalance_33 rfl rfl ?_
  exact ⟨rfl, rfl, rfl⟩
def sOver (v : eg_v) (s : Int) : Int := if gH v s 2 < gH v s 4 then gH v s 4 - gH v s 2 else if gH v s 4 < -gH v s 2 then gH v s 4 + gH v s 2 else 0
def sDue (v : eg_v) (s : Int) : Int := if sOver v s < 0 then -sOver v s * v 5 * (100 + v 6) / 100 else -(sOver v s * v 5 * (100 - v 6) / 100)
theorem sOver_b {v : eg_v} {B : Int} (hv : VV B v) {s : Int} (h0 : 0 ≤ s) (h1 : s < v 2) : -B ≤ sOver v s ∧ sOver v s ≤ B := by
  have o1 := hv.H h0 h1
  unfold okH at o1
  unfold sOver
  split <;> (try split) <;> omega
def fitN (v : eg_v) : Nat → Bool
  | 0 => true
  | n + 1 => fitN v n && decide (-999999 ≤ gH v (n : Int) 4 ∧ gH v (n : Int) 4 ≤ 999999)
theorem fitN_s (v : eg_v) {i : Int} (h : 0 ≤ i) : fitN v (i + 1).toNat = (fitN v i.toNat && decide (-999999 ≤ gH v i 4 ∧ gH v i 4 ≤ 999999)) := by
  rw [show (i + 1).toNat = i.toNat + 1 by omega]
  show (fitN v i.toNat && decide (-999999 ≤ gH v (i.toNat : Int) 4 ∧ gH v (i.toNat : Int) 4 ≤ 999999)) = _
  rw [Int.toNat_of_nonneg h]
theorem fitN_f (v : eg_v) {m n : Nat} (h : m ≤ n) (hm : fitN v m = false) : fitN v n = false := by
  induction n with
  | zero => rw [show m = 0 by omega] at hm; exact hm
  | succ n ih =>
    by_cases h2 : m = n + 1
    · rw [← h2]; exact hm
    · show (fitN v n && _) = false
      rw [ih (by omega)]
      rfl
theorem c_X2_balancesFit {k : eg_K} {z : eg_Z} {X : eg_M} {n b : Nat} {v : eg_v} {B : Int} (hb : isB b = true) (hp : hP z b v) (hv : VV B v) (hB : B ≤ 100000000) : eg_P k gX2_balancesFit 1 0 0 [vR k b] n (enc k z X) (eg_f (some (vI (bi (fitN v (v 2).toNat = true)))) n (enc k z X)) := by
  refine eg_P.of (by decide) (Nat.le_of_ble_eq_true rfl) ?_
  show eg_E k gX2_balancesFit 1 0 0 n (enc k z X) [vR k b, vU] [] 0 _
  have q := hv.r
  obtain ⟨⟨z0, z1, z2, z3⟩, ⟨c1, c3, c5, c7⟩, -⟩ := id hp
  have L : ∀ (m : Nat) (i : Int), 0 ≤ i → i ≤ v 2 → fitN v i.toNat = true → v 2 - i < (m : Int) → eg_E k gX2_balancesFit 1 0 0 n (enc k z X) [vR k b, vI i] [] 2 (eg_f (some (vI (bi (fitN v (v 2).toNat = true)))) n (enc k z X)) := by
    intro m
    induction m with
    | zero => intro i h0 h1 hf hm; exfalso; omega
    | succ m ih =>
      intro i h0 h1 hf hm
      refine eg_iload_n dX2_balancesFit_2 rfl ?_
      refine eg_al_n dX2_balancesFit_3 rfl rfl ?_
      refine eg_get fl_X2_36 dX2_balancesFit_4 (by first | exact ep0 hb | exact ep1 hb | exact ep3 hb | exact ep5 hb | exact ep7 hb | exact ep9 hb | exact ep10 hb | exact ep11 hb) rfl ?_
      refine eg_get fl_X2_53 dX2_balancesFit_7 (by first | exact ep0 hb | exact ep1 hb | exact ep3 hb | exact ep5 hb | exact ep7 hb | exact ep9 hb | exact ep10 hb | exact ep11 hb) rfl ?_
      rw [c5]
      refine eg_icmp_ge 38 dX2_balancesFit_10 ⟨by omega, by omega⟩ ⟨by omega, by omega⟩ rfl (fun h10 => ?_) (fun h10 => ?_)
      · refine eg_iconst dX2_balancesFit_38 ?_
        refine eg_ireturn dX2_balancesFit_39 rfl rfl ?_
        have e9 : i = v 2 := by omega
        exact ⟨congrArg (fun q => some (vI q)) (by unfold bi; rw [← e9, if_pos hf]), rfl, rfl⟩
      · have o1 := hv.H (s := i) h0 h10; unfold okH at o1
        refine eg_al_n dX2_balancesFit_13 rfl rfl ?_
        refine eg_get fl_X2_36 dX2_balancesFit_14 (by first | exact ep0 hb | exact ep1 hb | exact ep3 hb | exact ep5 hb | exact ep7 hb | exact ep9 hb | exact ep10 hb | exact ep11 hb) rfl ?_
        refine eg_iload_n dX2_balancesFit_17 rfl ?_
        refine eg_iconst dX2_balancesFit_18 ?_
        refine eg_Vf2 cs_X2_79 dX2_balancesFit_19 (sh_at hb hp hv h0 h10 (by omega) (by omega)) (by first | exact ep0 hb | exact ep1 hb | exact ep3 hb | exact ep5 hb | exact ep7 hb | exact ep9 hb | exact ep10 hb | exact ep11 hb) rfl (Nat.le_of_ble_eq_true rfl) (by decide) ?_
        refine eg_mabs cs_X2_140 dX2_balancesFit_22 ⟨by omega, by omega⟩ (Nat.le_of_ble_eq_true rfl) (by decide) ?_
        have w1 : iR (if 0 ≤ gH v i 4 then gH v i 4 else -gH v i 4) := by split <;> exact ⟨by omega, by omega⟩
        have w2 := w1.1; have w3 := w1.2
        refine eg_ldc kw_X2_143 dX2_balancesFit_25 ?_
        refine eg_icmp_le 32 dX2_balancesFit_27 ⟨by omega, by omega⟩ ⟨by omega, by omega⟩ rfl (fun h27 => ?_) (fun h27 => ?_)
        · refine eg_iinc dX2_balancesFit_32 rfl rfl rfl ?_
          refine eg_goto 2 dX2_balancesFit_35 rfl ?_
          refine ih (i + 1) (by omega) (by omega) ?_ (by omega)
          rw [fitN_s v h0, hf]
          have : (-999999 ≤ gH v i 4 ∧ gH v i 4 ≤ 999999) := by split at h27 <;> omega
          simp [this]
        · refine eg_iconst dX2_balancesFit_30 ?_
          refine eg_ireturn dX2_balancesFit_31 rfl rfl ?_
          have f1 : fitN v (i + 1).toNat = false := by
            rw [fitN_s v h0]
            have : ¬ (-999999 ≤ gH v i 4 ∧ gH v i 4 ≤ 999999) := by split at h27 <;> omega
            simp [this]
          have f2 := fitN_f v (show (i + 1).toNat ≤ (v 2).toNat by omega) f1
          exact ⟨congrArg (fun q => some (vI q)) (by unfold bi; rw [if_neg (by rw [f2]; decide)]), rfl, rfl⟩
  refine eg_iconst dX2_balancesFit_0 ?_
  refine eg_istore_n dX2_balancesFit_1 rfl rfl rfl ?_
  exact L 8 0 (by omega) (by omega) rfl (by omega)
def ovF (v : eg_v) (s : Int) : Int := if sOver v s = 0 then 0 else 1
theorem c_over {k : eg_K} {z : eg_Z} {X : eg_M} {n b : Nat} {v : eg_v} {B : Int} (hb : isB b = true) (hp : hP z b v) (hv : VV B v) (hB : B ≤ 100000000) {r : Int} (h0 : 0 ≤ r) (h1 : r < v 2) : eg_P k gX2_over 1 0 0 [vR k b, vI r] n (enc k z X) (eg_f (some (vI (sOver v r))) n (enc k z X)) := c_X2_over hb hp hv hB h0 h1
theorem c_X2_howManyOver {k : eg_K} {z : eg_Z} {X : eg_M} {n b : Nat} {v : eg_v} {B : Int} (hb : isB b = true) (hp : hP z b v) (hv : VV B v) (hB : B ≤ 100000000) : eg_P k gX2_howManyOver 2 0 0 [vR k b] n (enc k z X) (eg_f (some (vI (sm (ovF v) (v 2).toNat))) n (enc k z X)) := by
  refine eg_P.of (by decide) (Nat.le_of_ble_eq_true rfl) ?_
  show eg_E k gX2_howManyOver 2 0 0 n (enc k z X) [vR k b, vU, vU] [] 0 _
  have q := hv.r
  obtain ⟨⟨z0, z1, z2, z3⟩, ⟨c1, c3, c5, c7⟩, -⟩ := id hp
  have L : ∀ (m : Nat) (i : Int) (a : Int), 0 ≤ i → i ≤ v 2 → a = sm (ovF v) i.toNat → v 2 - i < (m : Int) → eg_E k gX2_howManyOver 2 0 0 n (enc k z X) [vR k b, vI a, vI i] [] 4 (eg_f (some (vI (sm (ovF v) (v 2).toNat))) n (enc k z X)) := by
    intro m
    induction m with
    | zero => intro i a h0 h1 ha hm; exfalso; omega
    | succ m ih =>
      intro i a h0 h1 ha hm
      refine eg_iload_n dX2_howManyOver_4 rfl ?_
      refine eg_al_n dX2_howManyOver_5 rfl rfl ?_
      refine eg_get fl_X2_36 dX2_howManyOver_6 (by first | exact ep0 hb | exact ep1 hb | exact ep3 hb | exact ep5 hb | exact ep7 hb | exact ep9 hb | exact ep10 hb | exact ep11 hb) rfl ?_
      refine eg_get fl_X2_53 dX2_howManyOver_9 (by first | exact ep0 hb | exact ep1 hb | exact ep3 hb | exact ep5 hb | exact ep7 hb | exact ep9 hb | exact ep10 hb | exact ep11 hb) rfl ?_
      rw [c5]
      refine eg_icmp_ge 32 dX2_howManyOver_12 ⟨by omega, by omega⟩ ⟨by omega, by omega⟩ rfl (fun h12 => ?_) (fun h12 => ?_)
      · refine eg_iload_n dX2_howManyOver_32 rfl ?_
        refine eg_ireturn dX2_howManyOver_33 rfl rfl ?_
        have e9 : i = v 2 := by omega
        exact ⟨congrArg (fun q => some (vI q)) (by rw [ha, e9]), rfl, rfl⟩
      · have o1 := sOver_b hv h0 h12
        refine eg_al_n dX2_howManyOver_15 rfl rfl ?_
        refine eg_iload_n dX2_howManyOver_16 rfl ?_
        refine eg_Vf1 cs_X2_144 dX2_howManyOver_17 (c_over hb hp hv hB h0 h12) (by first | exact ep0 hb | exact ep1 hb | exact ep3 hb | exact ep5 hb | exact ep7 hb | exact ep9 hb | exact ep10 hb | exact ep11 hb) rfl (Nat.le_of_ble_eq_true rfl) (by decide) ?_
        refine eg_if_eq 26 dX2_howManyOver_20 ⟨by omega, by omega⟩ rfl (fun h20 => ?_) (fun h20 => ?_)
        · refine eg_iinc dX2_howManyOver_26 rfl rfl rfl ?_
          refine eg_goto 4 dX2_howManyOver_29 rfl ?_
          refine ih (i + 1) _ (by omega) (by omega) ?_ (by omega)
          rw [sm_s _ h0, ← ha]
          unfold ovF
          first | (rw [if_pos (by omega)]; omega) | rw [if_neg (by omega)]
        · refine eg_iinc dX2_howManyOver_23 rfl rfl rfl ?_
          refine eg_iinc dX2_howManyOver_26 rfl rfl rfl ?_
          refine eg_goto 4 dX2_howManyOver_29 rfl ?_
          refine ih (i + 1) _ (by omega) (by omega) ?_ (by omega)
          rw [sm_s _ h0, ← ha]
          unfold ovF
          first | (rw [if_pos (by omega)]; omega) | rw [if_neg (by omega)]
  refine eg_iconst dX2_howManyOver_0 ?_
  refine eg_istore_n dX2_howManyOver_1 rfl rfl rfl ?_
  refine eg_iconst dX2_howManyOver_2 ?_
  refine eg_istore_n dX2_howManyOver_3 rfl rfl rfl ?_
  exact L 8 0 0 (by omega) (by omega) rfl (by omega)
theorem due_b {v : eg_v} {B : Int} (hv : VV B v) (hB : B ≤ 100000000) {x : Int} (h : 0 ≤ x ∧ x ≤ B) {y : Int} (hy : 0 ≤ y ∧ y ≤ 200) : (0 ≤ x * v 5 ∧ x * v 5 ≤ 99900000000) ∧ 0 ≤ x * v 5 * y ∧ x * v 5 * y ≤ 19980000000000 := by
  have q := hv.r
  have m1 := mul_b h.1 (show x ≤ 100000000 by omega) (show 0 ≤ v 5 by omega) (show v 5 ≤ 999 by omega)
  have m2 := mul_b m1.1 m1.2 hy.1 hy.2
  omega
theorem c_X2_dueFor {k : eg_K} {z : eg_Z} {X : eg_M} {n b : Nat} {v : eg_v} {B : Int} (hb : isB b = true) (hp : hP z b v) (hv : VV B v) (hB : B ≤ 100000000) {r : Int} (h0 : 0 ≤ r) (h1 : r < v 2) : eg_P k gX2_dueFor 2 0 0 [vR k b, vI r] n (enc k z X) (eg_f (some (vL (sDue v r))) n (enc k z X)) := by
  refine eg_P.of (by decide) (Nat.le_of_ble_eq_true rfl) ?_
  show eg_E k gX2_dueFor 2 0 0 n (enc k z X) [vR k b, vI r, vU, vU] [] 0 _
  have q := hv.r
  obtain ⟨⟨z0, z1, z2, z3⟩, ⟨c1, c3, c5, c7⟩, -⟩ := id hp
  have ob := sOver_b hv h0 h1
  refine eg_al_n dX2_dueFor_0 rfl rfl ?_
  refine eg_iload_n dX2_dueFor_1 rfl ?_
  refine eg_Vf1 cs_X2_144 dX2_dueFor_2 (c_over hb hp hv hB h0 h1) (by first | exact ep0 hb | exact ep1 hb | exact ep3 hb | exact ep5 hb | exact ep7 hb | exact ep9 hb | exact ep10 hb | exact ep11 hb) rfl (Nat.le_of_ble_eq_true rfl) (by decide) ?_
  refine eg_i2l dX2_dueFor_5 ⟨by omega, by omega⟩ ?_
  refine eg_lstore_n dX2_dueFor_6 rfl rfl rfl ?_
  refine eg_lload_n dX2_dueFor_7 rfl ?_
  refine eg_lconst dX2_dueFor_8 ?_
  refine eg_lc_ge 35 dX2_dueFor_9 dX2_dueFor_10 ⟨by omega, by omega⟩ ⟨by decide, by decide⟩ rfl (fun h9 => ?_) (fun h9 => ?_)
  · have h9 : 0 ≤ sOver v r := h9
    have m1 := due_b hv hB (x := sOver v r) (by omega) (y := 100 - v 6) (by omega)
    refine eg_lload_n dX2_dueFor_35 rfl ?_
    refine eg_al_n dX2_dueFor_36 rfl rfl ?_
    refine eg_get fl_X2_15 dX2_dueFor_37 (by first | exact ep0 hb | exact ep1 hb | exact ep3 hb | exact ep5 hb | exact ep7 hb | exact ep9 hb | exact ep10 hb | exact ep11 hb) rfl ?_
    rw [z1]
    refine eg_i2l dX2_dueFor_40 ⟨by omega, by omega⟩ ?_
    refine eg_lmul dX2_dueFor_41 ?_
    refine eg_bipush dX2_dueFor_42 (by decide) ?_
    refine eg_al_n dX2_dueFor_44 rfl rfl ?_
    refine eg_get fl_X2_18 dX2_dueFor_45 (by first | exact ep0 hb | exact ep1 hb | exact ep3 hb | exact ep5 hb | exact ep7 hb | exact ep9 hb | exact ep10 hb | exact ep11 hb) rfl ?_
    rw [z2]
    refine eg_isub dX2_dueFor_48 ?_
    refine eg_i2l dX2_dueFor_49 ⟨by omega, by omega⟩ ?_
    refine eg_lmul dX2_dueFor_50 ?_
    refine eg_ldc2 kw_X2_147 dX2_dueFor_51 ?_
    refine eg_ldiv dX2_dueFor_54 ⟨by omega, by omega⟩ ⟨by omega, by omega⟩ (by omega) (by omega) ?_
    refine eg_lneg dX2_dueFor_55 ?_
    refine eg_lreturn dX2_dueFor_56 rfl ?_
    exact ⟨congrArg (fun q => some (vL q)) (by unfold sDue; rw [if_neg (by omega)]), rfl, rfl⟩
  · have h9 : sOver v r < 0 := h9
    refine eg_lload_n dX2_dueFor_13 rfl ?_
    have m1 := due_b hv hB (x := -sOver v r) (by omega) (y := 100 + v 6) (by omega)
    refine eg_lneg dX2_dueFor_14 ?_
    refine eg_al_n dX2_dueFor_15 rfl rfl ?_
    refine eg_get fl_X2_15 dX2_dueFor_16 (by first | exact ep0 hb | exact ep1 hb | exact ep3 hb | exact ep5 hb | exact ep7 hb | exact ep9 hb | exact ep10 hb | exact ep11 hb) rfl ?_
    rw [z1]
    refine eg_i2l dX2_dueFor_19 ⟨by omega, by omega⟩ ?_
    refine eg_lmul dX2_dueFor_20 ?_
    refine eg_bipush dX2_dueFor_21 (by decide) ?_
    refine eg_al_n dX2_dueFor_23 rfl rfl ?_
    refine eg_get fl_X2_18 dX2_dueFor_24 (by first | exact ep0 hb | exact ep1 hb | exact ep3 hb | exact ep5 hb | exact ep7 hb | exact ep9 hb | exact ep10 hb | exact ep11 hb) rfl ?_
    rw [z2]
    refine eg_iadd dX2_dueFor_27 ?_
    refine eg_i2l dX2_dueFor_28 ⟨by omega, by omega⟩ ?_
    refine eg_lmul dX2_dueFor_29 ?_
    refine eg_ldc2 kw_X2_147 dX2_dueFor_30 ?_
    refine eg_ldiv dX2_dueFor_33 ⟨by omega, by omega⟩ ⟨by omega, by omega⟩ (by omega) (by omega) ?_
    refine eg_lreturn dX2_dueFor_34 rfl ?_
    exact ⟨congrArg (fun q => some (vL q)) (by unfold sDue; rw [if_pos (by omega)]), rfl, rfl⟩
def bkF (v : eg_v) (s : Int) : Int := gH v s 4 + gH v s 5
theorem c_X2_inBooks {k : eg_K} {z : eg_Z} {X : eg_M} {n b : Nat} {v : eg_v} {B : Int} (hb : isB b = true) (hp : hP z b v) (hv : VV B v) (hB : B ≤ 100000000) : eg_P k gX2_inBooks 1 0 0 [vR k b] n (enc k z X) (eg_f (some (vL (sm (bkF v) (v 2).toNat))) n (enc k z X)) := by
  refine eg_P.of (by decide) (Nat.le_of_ble_eq_true rfl) ?_
  show eg_E k gX2_inBooks 1 0 0 n (enc k z X) [vR k b, vU, vU, vU] [] 0 _
  have q := hv.r
  obtain ⟨⟨z0, z1, z2, z3⟩, ⟨c1, c3, c5, c7⟩, -⟩ := id hp
  have L : ∀ (m : Nat) (i : Int) (a : Int), 0 ≤ i → i ≤ v 2 → a = sm (bkF v) i.toNat → v 2 - i < (m : Int) → eg_E k gX2_inBooks 1 0 0 n (enc k z X) [vR k b, vL a, vU, vI i] [] 4 (eg_f (some (vL (sm (bkF v) (v 2).toNat))) n (enc k z X)) := by
    intro m
    induction m with
    | zero => intro i a h0 h1 ha hm; exfalso; omega
    | succ m ih =>
      intro i a h0 h1 ha hm
      refine eg_iload_n dX2_inBooks_4 rfl ?_
      refine eg_al_n dX2_inBooks_5 rfl rfl ?_
      refine eg_get fl_X2_36 dX2_inBooks_6 (by first | exact ep0 hb | exact ep1 hb | exact ep3 hb | exact ep5 hb | exact ep7 hb | exact ep9 hb | exact ep10 hb | exact ep11 hb) rfl ?_
      refine eg_get fl_X2_53 dX2_inBooks_9 (by first | exact ep0 hb | exact ep1 hb | exact ep3 hb | exact ep5 hb | exact ep7 hb | exact ep9 hb | exact ep10 hb | exact ep11 hb) rfl ?_
      rw [c5]
      refine eg_icmp_ge 44 dX2_inBooks_12 ⟨by omega, by omega⟩ ⟨by omega, by omega⟩ rfl (fun h12 => ?_) (fun h12 => ?_)
      · refine eg_lload_n dX2_inBooks_44 rfl ?_
        refine eg_lreturn dX2_inBooks_45 rfl ?_
        have e9 : i = v 2 := by omega
        exact ⟨congrArg (fun q => some (vL q)) (by rw [ha, e9]), rfl, rfl⟩
      · have o1 := hv.H (s := i) h0 h12; unfold okH at o1
        refine eg_lload_n dX2_inBooks_15 rfl ?_
        refine eg_al_n dX2_inBooks_16 rfl rfl ?_
        refine eg_get fl_X2_36 dX2_inBooks_17 (by first | exact ep0 hb | exact ep1 hb | exact ep3 hb | exact ep5 hb | exact ep7 hb | exact ep9 hb | exact ep10 hb | exact ep11 hb) rfl ?_
        refine eg_iload_n dX2_inBooks_20 rfl ?_
        refine eg_iconst dX2_inBooks_21 ?_
        refine eg_Vf2 cs_X2_79 dX2_inBooks_22 (sh_at hb hp hv h0 h12 (by omega) (by omega)) (by first | exact ep0 hb | exact ep1 hb | exact ep3 hb | exact ep5 hb | exact ep7 hb | exact ep9 hb | exact ep10 hb | exact ep11 hb) rfl (Nat.le_of_ble_eq_true rfl) (by decide) ?_
        refine eg_al_n dX2_inBooks_25 rfl rfl ?_
        refine eg_get fl_X2_36 dX2_inBooks_26 (by first | exact ep0 hb | exact ep1 hb | exact ep3 hb | exact ep5 hb | exact ep7 hb | exact ep9 hb | exact ep10 hb | exact ep11 hb) rfl ?_
        refine eg_iload_n dX2_inBooks_29 rfl ?_
        refine eg_iconst dX2_inBooks_30 ?_
        refine eg_Vf2 cs_X2_79 dX2_inBooks_31 (sh_at hb hp hv h0 h12 (by omega) (by omega)) (by first | exact ep0 hb | exact ep1 hb | exact ep3 hb | exact ep5 hb | exact ep7 hb | exact ep9 hb | exact ep10 hb | exact ep11 hb) rfl (Nat.le_of_ble_eq_true rfl) (by decide) ?_
        refine eg_iadd dX2_inBooks_34 ?_
        refine eg_i2l dX2_inBooks_35 ⟨by omega, by omega⟩ ?_
        refine eg_ladd dX2_inBooks_36 ?_
        refine eg_lstore_n dX2_inBooks_37 rfl rfl rfl ?_
        refine eg_iinc dX2_inBooks_38 rfl rfl rfl ?_
        refine eg_goto 4 dX2_inBooks_41 rfl ?_
        refine ih (i + 1) _ (by omega) (by omega) ?_ (by omega)
        rw [sm_s _ h0, ← ha]
        rfl
  refine eg_lconst dX2_inBooks_0 ?_
  refine eg_lstore_n dX2_inBooks_1 rfl rfl rfl ?_
  refine eg_iconst dX2_inBooks_2 ?_
  refine eg_istore_n dX2_inBooks_3 rfl rfl rfl ?_
  exact L 8 0 _ (by omega) (by omega) rfl (by omega)
