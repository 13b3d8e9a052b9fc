/-- what laysLeft has laid -/
def LF (v : eg_v) (y : eg_Z) (a b c : Int) : Prop := (∀ m : Int, 0 ≤ m → m < a → y 210 m.toNat = gP v m 2) ∧ (∀ j : Int, 0 ≤ j → j < b → y 210 (10 + j).toNat = gS v j 0 ∧ y 210 (17 + j).toNat = gS v j 0) ∧ ∀ s : Int, 0 ≤ s → s < c → y 210 (24 + s).toNat = gH v s 3 - gH v s 5 ∧ y 210 (30 + s).toNat = gH v s 3 + gH v s 5
theorem LF_l0 {v : eg_v} {B : Int} (hv : VV B v) {y : eg_Z} (h : LF v y (v 1) (segs v) (v 2)) : ∀ m : Int, isM v m → y 210 m.toNat = l0 v (stM v m) := by
  intro m hm
  unfold isM at hm
  unfold stM stQ l0
  rcases hm with a | a | a | a | a
  · have o := hv.P a.1 a.2.2
    unfold okP at o
    rw [if_pos (show m < 24 by omega), if_pos a.2.1]
    by_cases e : gP v m 1 = 1
    · rw [if_pos e, if_pos a.2.1, if_pos ⟨a.2.2, e⟩]; exact h.1 m a.1 a.2.2
    · rw [if_neg e, if_neg (by omega), if_neg (by omega), if_neg (by omega), if_pos (by omega), show 24 + m - 24 = m by omega, if_pos ⟨a.2.2, by omega⟩]; exact h.1 m a.1 a.2.2
  · have t := (h.2.1 (m - 10) (by omega) a.2.2).1
    rw [show 10 + (m - 10) = m by omega] at t
    rw [if_pos (show m < 24 by omega), if_neg (show ¬ m < 10 by omega), if_neg (show ¬ m < 10 by omega), if_pos a.2.1, if_pos a.2.2]; exact t
  · have t := (h.2.1 (m - 17) (by omega) a.2.2).2
    rw [show 17 + (m - 17) = m by omega] at t
    rw [if_pos (show m < 24 by omega), if_neg (show ¬ m < 10 by omega), if_neg (show ¬ m < 10 by omega), if_neg (show ¬ m < 17 by omega), if_pos a.2.1, if_pos a.2.2]; exact t
  · have t := (h.2.2 (m - 24) (by omega) a.2.2).1
    rw [show 24 + (m - 24) = m by omega] at t
    rw [if_neg (show ¬ m < 24 by omega), if_pos a.2.1, if_neg (by omega), if_neg (by omega), if_neg (by omega), if_neg (by omega), show (34 + 2 * (m - 24) - 34) / 2 = m - 24 by omega, if_pos a.2.2, if_pos (by omega)]; exact t
  · have t := (h.2.2 (m - 30) (by omega) a.2.2).2
    rw [show 30 + (m - 30) = m by omega] at t
    rw [if_neg (show ¬ m < 24 by omega), if_neg (show ¬ m < 30 by omega), if_neg (by omega), if_neg (by omega), if_neg (by omega), if_neg (by omega), show (35 + 2 * (m - 30) - 34) / 2 = m - 30 by omega, if_pos a.2.2, if_neg (by omega)]; exact t
theorem va_up_ee {f : Nat → Int} {g : Nat → Int} {i j : Nat} {x : Int} (h : g = va_up f i x) (e : j = i) : g j = x := by subst e; rw [h, va_up_s]
theorem c_laysLeft {k : eg_K} {z : eg_Z} {X : eg_M} {n : Nat} {v : eg_v} (hN : nw z v) {B : Int} (hv : VV B v) : eg_P k gX9_laysLeft 1 0 0 [vR k 202] n (enc k z X) (eg_p k none n X (fun z' => (∀ d, d ≠ 210 → z' d = z d) ∧ ∀ m : Int, isM v m → z' 210 m.toNat = l0 v (stM v m))) := by
  refine eg_P.of (by decide) (Nat.le_of_ble_eq_true rfl) ?_
  show eg_E k gX9_laysLeft 1 0 0 n (enc k z X) [vR k 202, vU] [] 0 _
  have q := hv.r.2
  have L3 : ∀ (mm : Nat) (i : Int) (y : eg_Z), (0 ≤ i) → (i ≤ v 2) → (∀ d, d ≠ 210 → y d = z d) → (LF v y (v 1) (segs v) i) → v 2 - i < (mm : Int) → eg_E k gX9_laysLeft 1 0 0 n (enc k y X) [vR k 202, vI i] [] 80 (eg_p k none n X (fun z' => (∀ d, d ≠ 210 → z' d = z d) ∧ ∀ m : Int, isM v m → z' 210 m.toNat = l0 v (stM v m))) := by
    intro mm
    induction mm with
    | zero => intro i y h0 h1 hf hA hmm; exfalso; omega
    | succ mm ih =>
      intro i y h0 h1 hf hA hmm
      have hNy : nw y v := nw_c (hf 203 (by decide)) hN
      refine eg_iload_n dX9_laysLeft_80 rfl ?_
      refine eg_al_n dX9_laysLeft_81 rfl rfl ?_
      refine eg_iconst dX9_laysLeft_82 ?_
      refine eg_Vf1 cs_X9_179 dX9_laysLeft_83 (many_2 hNy) (by first | exact er202 | exact er203 | exact er204 | exact er205 | exact er206 | exact er207 | exact er208 | exact er209 | exact er210 | exact er211 | exact er212 | exact er213 | exact er214 | exact er215) rfl (Nat.le_of_ble_eq_true rfl) (by decide) ?_
      refine eg_icmp_ge 141 dX9_laysLeft_86 ⟨by omega, by omega⟩ ⟨by omega, by omega⟩ rfl (fun h86 => ?_) (fun h86 => ?_)
      · refine eg_return dX9_laysLeft_141 rfl ?_
        have e : i = v 2 := by omega
        subst e
        exact ⟨rfl, rfl, y, rfl, hf, LF_l0 hv hA⟩
      · refine eg_al_n dX9_laysLeft_89 rfl rfl ?_
        refine eg_get fl_X9_33 dX9_laysLeft_90 (by first | exact er202 | exact er203 | exact er204 | exact er205 | exact er206 | exact er207 | exact er208 | exact er209 | exact er210 | exact er211 | exact er212 | exact er213 | exact er214 | exact er215) rfl ?_
        refine eg_bipush dX9_laysLeft_93 (by decide) ?_
        refine eg_iload_n dX9_laysLeft_95 rfl ?_
        refine eg_iadd dX9_laysLeft_96 ?_
        refine eg_al_n dX9_laysLeft_97 rfl rfl ?_
        refine eg_iload_n dX9_laysLeft_98 rfl ?_
        refine eg_iconst dX9_laysLeft_99 ?_
        refine eg_Vf2 cs_X9_237 dX9_laysLeft_100 (c_ship hNy (by omega) (by omega) (by omega) (by omega)) (by first | exact er202 | exact er203 | exact er204 | exact er205 | exact er206 | exact er207 | exact er208 | exact er209 | exact er210 | exact er211 | exact er212 | exact er213 | exact er214 | exact er215) rfl (Nat.le_of_ble_eq_true rfl) (by decide) ?_
        refine eg_al_n dX9_laysLeft_103 rfl rfl ?_
        refine eg_iload_n dX9_laysLeft_104 rfl ?_
        refine eg_iconst dX9_laysLeft_105 ?_
        refine eg_Vf2 cs_X9_237 dX9_laysLeft_106 (c_ship hNy (by omega) (by omega) (by omega) (by omega)) (by first | exact er202 | exact er203 | exact er204 | exact er205 | exact er206 | exact er207 | exact er208 | exact er209 | exact er210 | exact er211 | exact er212 | exact er213 | exact er214 | exact er215) rfl (Nat.le_of_ble_eq_true rfl) (by decide) ?_
        refine eg_lsub dX9_laysLeft_109 ?_
        refine eg_l2i dX9_laysLeft_110 ?_
        refine eg_ia210 dX9_laysLeft_111 (by omega) (by omega) (fun y1 f1 e1 => ?_)
        have hNy1 : nw y1 v := nw_c (f1 203 (by decide)) hNy
        refine eg_al_n dX9_laysLeft_112 rfl rfl ?_
        refine eg_get fl_X9_33 dX9_laysLeft_113 (by first | exact er202 | exact er203 | exact er204 | exact er205 | exact er206 | exact er207 | exact er208 | exact er209 | exact er210 | exact er211 | exact er212 | exact er213 | exact er214 | exact er215) rfl ?_
        refine eg_bipush dX9_laysLeft_116 (by decide) ?_
        refine eg_iload_n dX9_laysLeft_118 rfl ?_
        refine eg_iadd dX9_laysLeft_119 ?_
        refine eg_al_n dX9_laysLeft_120 rfl rfl ?_
        refine eg_iload_n dX9_laysLeft_121 rfl ?_
        refine eg_iconst dX9_laysLeft_122 ?_
        refine eg_Vf2 cs_X9_237 dX9_laysLeft_123 (c_ship hNy1 (by omega) (by omega) (by omega) (by omega)) (by first | exact er202 | exact er203 | exact er204 | exact er205 | exact er206 | exact er207 | exact er208 | exact er209 | exact er210 | exact er211 | exact er212 | exact er213 | exact er214 | exact er215) rfl (Nat.le_of_ble_eq_true rfl) (by decide) ?_
        refine eg_al_n dX9_laysLeft_126 rfl rfl ?_
        refine eg_iload_n dX9_laysLeft_127 rfl ?_
        refine eg_iconst dX9_laysLeft_128 ?_
        refine eg_Vf2 cs_X9_237 dX9_laysLeft_129 (c_ship hNy1 (by omega) (by omega) (by omega) (by omega)) (by first | exact er202 | exact er203 | exact er204 | exact er205 | exact er206 | exact er207 | exact er208 | exact er209 | exact er210 | exact er211 | exact er212 | exact er213 | exact er214 | exact er215) rfl (Nat.le_of_ble_eq_true rfl) (by decide) ?_
        refine eg_ladd dX9_laysLeft_132 ?_
        refine eg_l2i dX9_laysLeft_133 ?_
        refine eg_ia210 dX9_laysLeft_134 (by omega) (by omega) (fun y2 f2 e2 => ?_)
        refine eg_iinc dX9_laysLeft_135 rfl rfl rfl ?_
        refine eg_goto 80 dX9_laysLeft_138 rfl ?_
        refine ih (i + 1) y2 (by omega) (by omega) (fun d hd => by rw [f2 d hd, f1 d hd]; exact hf d hd) ⟨fun m9 a b => ?_, fun j9 a b => ?_, fun s9 a b => ?_⟩ (by omega)
        · rw [va_up_k e2 (by omega), va_up_k e1 (by omega)]; exact hA.1 m9 a b
        · rw [va_up_k e2 (by omega), va_up_k e1 (by omega), va_up_k e2 (by omega), va_up_k e1 (by omega)]; exact hA.2.1 j9 a b
        · by_cases e : s9 = i
          · subst e; rw [va_up_k e2 (by omega), va_up_e e1 rfl, va_up_e e2 rfl]; exact ⟨rfl, rfl⟩
          · rw [va_up_k e2 (by omega), va_up_k e1 (by omega), va_up_k e2 (by omega), va_up_k e1 (by omega)]; exact hA.2.2 s9 a (by omega)
  have L2 : ∀ (mm : Nat) (i : Int) (y : eg_Z), (0 ≤ i) → (i ≤ segs v) → (∀ d, d ≠ 210 → y d = z d) → (LF v y (v 1) i 0) → segs v - i < (mm : Int) → eg_E k gX9_laysLeft 1 0 0 n (enc k y X) [vR k 202, vI i] [] 31 (eg_p k none n X (fun z' => (∀ d, d ≠ 210 → z' d = z d) ∧ ∀ m : Int, isM v m → z' 210 m.toNat = l0 v (stM v m))) := by
    intro mm
    induction mm with
    | zero => intro i y h0 h1 hf hA hmm; exfalso; omega
    | succ mm ih =>
      intro i y h0 h1 hf hA hmm
      have hNy : nw y v := nw_c (hf 203 (by decide)) hN
      refine eg_iload_n dX9_laysLeft_31 rfl ?_
      refine eg_iconst dX9_laysLeft_32 ?_
      refine eg_iadd dX9_laysLeft_33 ?_
      refine eg_al_n dX9_laysLeft_34 rfl rfl ?_
      refine eg_iconst dX9_laysLeft_35 ?_
      refine eg_Vf1 cs_X9_179 dX9_laysLeft_36 (many_0 hNy) (by first | exact er202 | exact er203 | exact er204 | exact er205 | exact er206 | exact er207 | exact er208 | exact er209 | exact er210 | exact er211 | exact er212 | exact er213 | exact er214 | exact er215) rfl (Nat.le_of_ble_eq_true rfl) (by decide) ?_
      refine eg_icmp_ge 78 dX9_laysLeft_39 ⟨by omega, by omega⟩ ⟨by omega, by omega⟩ rfl (fun h39 => ?_) (fun h39 => ?_)
      · refine eg_iconst dX9_laysLeft_78 ?_
        refine eg_istore_n dX9_laysLeft_79 rfl rfl rfl ?_
        exact L3 7 0 y (by omega) (by omega) hf ⟨hA.1, fun j9 a b => hA.2.1 j9 a (by omega), fun s9 a b => absurd b (by omega)⟩ (by omega)
      · refine eg_al_n dX9_laysLeft_42 rfl rfl ?_
        refine eg_get fl_X9_33 dX9_laysLeft_43 (by first | exact er202 | exact er203 | exact er204 | exact er205 | exact er206 | exact er207 | exact er208 | exact er209 | exact er210 | exact er211 | exact er212 | exact er213 | exact er214 | exact er215) rfl ?_
        refine eg_bipush dX9_laysLeft_46 (by decide) ?_
        refine eg_iload_n dX9_laysLeft_48 rfl ?_
        refine eg_iadd dX9_laysLeft_49 ?_
        refine eg_al_n dX9_laysLeft_50 rfl rfl ?_
        refine eg_iload_n dX9_laysLeft_51 rfl ?_
        refine eg_iconst dX9_laysLeft_52 ?_
        refine eg_Vf2 cs_X9_256 dX9_laysLeft_53 (c_seg hNy (by omega) (by omega) (by omega) (by omega)) (by first | exact er202 | exact er203 | exact er204 | exact er205 | exact er206 | exact er207 | exact er208 | exact er209 | exact er210 | exact er211 | exact er212 | exact er213 | exact er214 | exact er215) rfl (Nat.le_of_ble_eq_true rfl) (by decide) ?_
        refine eg_ia210 dX9_laysLeft_56 (by omega) (by omega) (fun y1 f1 e1 => ?_)
        have hNy1 : nw y1 v := nw_c (f1 203 (by decide)) hNy
        refine eg_al_n dX9_laysLeft_57 rfl rfl ?_
        refine eg_get fl_X9_33 dX9_laysLeft_58 (by first | exact er202 | exact er203 | exact er204 | exact er205 | exact er206 | exact er207 | exact er208 | exact er209 | exact er210 | exact er211 | exact er212 | exact er213 | exact er214 | exact er215) rfl ?_
        refine eg_bipush dX9_laysLeft_61 (by decide) ?_
        refine eg_iload_n dX9_laysLeft_63 rfl ?_
        refine eg_iadd dX9_laysLeft_64 ?_
        refine eg_al_n dX9_laysLeft_65 rfl rfl ?_
        refine eg_iload_n dX9_laysLeft_66 rfl ?_
        refine eg_iconst dX9_laysLeft_67 ?_
        refine eg_Vf2 cs_X9_256 dX9_laysLeft_68 (c_seg hNy1 (by omega) (by omega) (by omega) (by omega)) (by first | exact er202 | exact er203 | exact er204 | exact er205 | exact er206 | exact er207 | exact er208 | exact er209 | exact er210 | exact er211 | exact er212 | exact er213 | exact er214 | exact er215) rfl (Nat.le_of_ble_eq_true rfl) (by decide) ?_
        refine eg_ia210 dX9_laysLeft_71 (by omega) (by omega) (fun y2 f2 e2 => ?_)
        refine eg_iinc dX9_laysLeft_72 rfl rfl rfl ?_
        refine eg_goto 31 dX9_laysLeft_75 rfl ?_
        refine ih (i + 1) y2 (by omega) (by omega) (fun d hd => by rw [f2 d hd, f1 d hd]; exact hf d hd) ⟨fun m9 a b => ?_, fun j9 a b => ?_, fun s9 a b => absurd b (by omega)⟩ (by omega)
        · rw [va_up_k e2 (by omega), va_up_k e1 (by omega)]; exact hA.1 m9 a b
        · by_cases e : j9 = i
          · subst e; rw [va_up_k e2 (by omega), va_up_e e1 rfl, va_up_e e2 rfl]; exact ⟨rfl, rfl⟩
          · rw [va_up_k e2 (by omega), va_up_k e1 (by omega), va_up_k e2 (by omega), va_up_k e1 (by omega)]; exact hA.2.1 j9 a (by omega)
  have L1 : ∀ (mm : Nat) (i : Int) (y : eg_Z), (0 ≤ i) → (i ≤ v 1) → (∀ d, d ≠ 210 → y d = z d) → (LF v y i 0 0) → v 1 - i < (mm : Int) → eg_E k gX9_laysLeft 1 0 0 n (enc k y X) [vR k 202, vI i] [] 2 (eg_p k none n X (fun z' => (∀ d, d ≠ 210 → z' d = z d) ∧ ∀ m : Int, isM v m → z' 210 m.toNat = l0 v (stM v m))) := by
    intro mm
    induction mm with
    | zero => intro i y h0 h1 hf hA hmm; exfalso; omega
    | succ mm ih =>
      intro i y h0 h1 hf hA hmm
      have hNy : nw y v := nw_c (hf 203 (by decide)) hN
      refine eg_iload_n dX9_laysLeft_2 rfl ?_
      refine eg_al_n dX9_laysLeft_3 rfl rfl ?_
      refine eg_iconst dX9_laysLeft_4 ?_
      refine eg_Vf1 cs_X9_179 dX9_laysLeft_5 (many_1 hNy) (by first | exact er202 | exact er203 | exact er204 | exact er205 | exact er206 | exact er207 | exact er208 | exact er209 | exact er210 | exact er211 | exact er212 | exact er213 | exact er214 | exact er215) rfl (Nat.le_of_ble_eq_true rfl) (by decide) ?_
      refine eg_icmp_ge 29 dX9_laysLeft_8 ⟨by omega, by omega⟩ ⟨by omega, by omega⟩ rfl (fun h8 => ?_) (fun h8 => ?_)
      · refine eg_iconst dX9_laysLeft_29 ?_
        refine eg_istore_n dX9_laysLeft_30 rfl rfl rfl ?_
        have e : i = v 1 := by omega
        subst e
        exact L2 8 0 y (by omega) (by omega) hf hA (by omega)
      · refine eg_al_n dX9_laysLeft_11 rfl rfl ?_
        refine eg_get fl_X9_33 dX9_laysLeft_12 (by first | exact er202 | exact er203 | exact er204 | exact er205 | exact er206 | exact er207 | exact er208 | exact er209 | exact er210 | exact er211 | exact er212 | exact er213 | exact er214 | exact er215) rfl ?_
        refine eg_iload_n dX9_laysLeft_15 rfl ?_
        refine eg_al_n dX9_laysLeft_16 rfl rfl ?_
        refine eg_iload_n dX9_laysLeft_17 rfl ?_
        refine eg_iconst dX9_laysLeft_18 ?_
        refine eg_Vf2 cs_X9_189 dX9_laysLeft_19 (c_pointOf hNy (by omega) (by omega) (by omega) (by omega)) (by first | exact er202 | exact er203 | exact er204 | exact er205 | exact er206 | exact er207 | exact er208 | exact er209 | exact er210 | exact er211 | exact er212 | exact er213 | exact er214 | exact er215) rfl (Nat.le_of_ble_eq_true rfl) (by decide) ?_
        refine eg_ia210 dX9_laysLeft_22 (by omega) (by omega) (fun y1 f1 e1 => ?_)
        refine eg_iinc dX9_laysLeft_23 rfl rfl rfl ?_
        refine eg_goto 2 dX9_laysLeft_26 rfl ?_
        refine ih (i + 1) y1 (by omega) (by omega) (fun d hd => by rw [f1 d hd]; exact hf d hd) ⟨fun m9 a b => ?_, fun j9 a b => absurd b (by omega), fun s9 a b => absurd b (by omega)⟩ (by omega)
        by_cases e : m9 = i
        · subst e; rw [va_up_e e1 rfl]
        · rw [va_up_k e1 (by omega)]; exact hA.1 m9 a (by omega)
  refine eg_iconst dX9_laysLeft_0 ?_
  refine eg_istore_n dX9_laysLeft_1 rfl rfl rfl ?_
  exact L1 11 0 z (by omega) (by omega) (fun _ _ => rfl) ⟨fun m9 a b => absurd b (by omega), fun j9 a b => absurd b (by omega), fun s9 a b => absurd b (by omega)⟩ (by omega)
theorem c_begins {k : eg_K} {z : eg_Z} {X : eg_M} {n : Nat} {v : eg_v} (hN : nw z v) {B : Int} (hv : VV B v) : eg_P k gX9_begins 2 0 0 [vR k 202] n (enc k z X) (eg_p k none n X (fun z' => (∀ d, d ≠ 210 → d ≠ 212 → d ≠ 213 → d ≠ 214 → z' d = z d) ∧ (∀ m : Int, isM v m → z' 210 m.toNat = l0 v (stM v m)) ∧ ∀ q : Int, 0 ≤ q → q < 16 → z' 213 q.toNat = 0 ∧ z' 214 q.toNat = -2 ∧ z' 212 q.toNat = 0)) := by
  refine eg_P.of (by decide) (Nat.le_of_ble_eq_true rfl) ?_
  show eg_E k gX9_begins 2 0 0 n (enc k z X) [vR k 202, vU] [] 0 _
  have L1 : ∀ (mm : Nat) (i : Int) (y : eg_Z), (0 ≤ i) → (i ≤ 16) → (∀ d, d ≠ 210 → d ≠ 212 → d ≠ 213 → d ≠ 214 → y d = z d) → (∀ m : Int, isM v m → y 210 m.toNat = l0 v (stM v m)) → (∀ q : Int, 0 ≤ q → q < i → y 213 q.toNat = 0 ∧ y 214 q.toNat = -2 ∧ y 212 q.toNat = 0) → 16 - i < (mm : Int) → eg_E k gX9_begins 2 0 0 n (enc k y X) [vR k 202, vI i] [] 6 (eg_p k none n X (fun z' => (∀ d, d ≠ 210 → d ≠ 212 → d ≠ 213 → d ≠ 214 → z' d = z d) ∧ (∀ m : Int, isM v m → z' 210 m.toNat = l0 v (stM v m)) ∧ ∀ q : Int, 0 ≤ q → q < 16 → z' 213 q.toNat = 0 ∧ z' 214 q.toNat = -2 ∧ z' 212 q.toNat = 0)) := by
    intro mm
    induction mm with
    | zero => intro i y h0 h1 hf hg hA hmm; exfalso; omega
    | succ mm ih =>
      intro i y h0 h1 hf hg hA hmm
      refine eg_iload_n dX9_begins_6 rfl ?_
      refine eg_bipush dX9_begins_7 (by decide) ?_
      refine eg_icmp_ge 40 dX9_begins_9 ⟨by omega, by omega⟩ ⟨by omega, by omega⟩ rfl (fun h9 => ?_) (fun h9 => ?_)
      · refine eg_return dX9_begins_40 rfl ?_
        exact ⟨rfl, rfl, y, rfl, hf, hg, fun q9 a b => hA q9 a (by omega)⟩
      · refine eg_al_n dX9_begins_12 rfl rfl ?_
        refine eg_get fl_X9_43 dX9_begins_13 (by first | exact er202 | exact er203 | exact er204 | exact er205 | exact er206 | exact er207 | exact er208 | exact er209 | exact er210 | exact er211 | exact er212 | exact er213 | exact er214 | exact er215) rfl ?_
        refine eg_iload_n dX9_begins_16 rfl ?_
        refine eg_iconst dX9_begins_17 ?_
        refine eg_ia213 dX9_begins_18 (by omega) (by omega) (fun y1 f1 e1 => ?_)
        refine eg_al_n dX9_begins_19 rfl rfl ?_
        refine eg_get fl_X9_46 dX9_begins_20 (by first | exact er202 | exact er203 | exact er204 | exact er205 | exact er206 | exact er207 | exact er208 | exact er209 | exact er210 | exact er211 | exact er212 | exact er213 | exact er214 | exact er215) rfl ?_
        refine eg_iload_n dX9_begins_23 rfl ?_
        refine eg_bipush dX9_begins_24 (by decide) ?_
        refine eg_ia214 dX9_begins_26 (by omega) (by omega) (fun y2 f2 e2 => ?_)
        refine eg_al_n dX9_begins_27 rfl rfl ?_
        refine eg_get fl_X9_40 dX9_begins_28 (by first | exact er202 | exact er203 | exact er204 | exact er205 | exact er206 | exact er207 | exact er208 | exact er209 | exact er210 | exact er211 | exact er212 | exact er213 | exact er214 | exact er215) rfl ?_
        refine eg_iload_n dX9_begins_31 rfl ?_
        refine eg_iconst dX9_begins_32 ?_
        refine eg_ia212 dX9_begins_33 (by omega) (by omega) (fun y3 f3 e3 => ?_)
        refine eg_iinc dX9_begins_34 rfl rfl rfl ?_
        refine eg_goto 6 dX9_begins_37 rfl ?_
        refine ih (i + 1) y3 (by omega) (by omega) (fun d d1 d2 d3 d4 => by rw [f3 d d2, f2 d d4, f1 d d3]; exact hf d d1 d2 d3 d4) (fun m9 h9 => by rw [f3 210 (by decide), f2 210 (by decide), f1 210 (by decide)]; exact hg m9 h9) (fun q9 a b => ?_) (by omega)
        by_cases e : q9 = i
        · subst e; rw [f3 213 (by decide), f2 213 (by decide), f3 214 (by decide), va_up_e e1 rfl, va_up_e e2 rfl, va_up_e e3 rfl]; exact ⟨rfl, rfl, rfl⟩
        · rw [f3 213 (by decide), f2 213 (by decide), f3 214 (by decide), va_up_k e1 (by omega), va_up_k e2 (by omega), va_up_k e3 (by omega), f1 214 (by decide), f2 212 (by decide), f1 212 (by decide)]; exact hA q9 a (by omega)
  refine eg_al_n dX9_begins_0 rfl rfl ?_
  refine eg_Vpv0 cs_X9_273 dX9_begins_1 (c_laysLeft hN hv) (by first | exact er202 | exact er203 | exact er204 | exact er205 | exact er206 | exact er207 | exact er208 | exact er209 | exact er210 | exact er211 | exact er212 | exact er213 | exact er214 | exact er215) rfl (Nat.le_of_ble_eq_true rfl) (by decide) ?_
  rintro y1 ⟨f1, g1⟩
  refine eg_iconst dX9_begins_4 ?_
  refine eg_istore_n dX9_begins_5 rfl rfl rfl ?_
  exact L1 17 0 y1 (by omega) (by omega) (fun d d1 _ _ _ => f1 d d1) g1 (fun q9 a b => absurd b (by omega)) (by omega)
theorem c_laysFirm {k : eg_K} {z : eg_Z} {X : eg_M} {n : Nat} {v : eg_v} (hN : nw z v) {B : Int} (hv : VV B v) : eg_P k gX9_laysFirm 1 0 0 [vR k 202] n (enc k z X) (eg_p k none n X (fun z' => (∀ d, d ≠ 215 → z' d = z d) ∧ ∀ q : Int, 0 ≤ q → q < v 3 → z' 215 q.toNat = fa v q)) := by
  refine eg_P.of (by decide) (Nat.le_of_ble_eq_true rfl) ?_
  show eg_E k gX9_laysFirm 1 0 0 n (enc k z X) [vR k 202, vU, vU, vU] [] 0 _
  have q := hv.r.2
  have LO : ∀ (mm : Nat) (s : Int) (y : eg_Z) (u1 : Value) (u2 : Value), (0 ≤ s) → (s ≤ v 2) → (∀ d, d ≠ 215 → y d = z d) → (∀ q : Int, 0 ≤ q → q < v 3 → gN v q 0 < s → y 215 q.toNat = fa v q) → v 2 - s < (mm : Int) → eg_E k gX9_laysFirm 1 0 0 n (enc k y X) [vR k 202, vI s, u1, u2] [] 2 (eg_p k none n X (fun z' => (∀ d, d ≠ 215 → z' d = z d) ∧ ∀ q : Int, 0 ≤ q → q < v 3 → z' 215 q.toNat = fa v q)) := by
    intro mm
    induction mm with
    | zero => intro s y u1 u2 h0 h1 hf hA hmm; exfalso; omega
    | succ mm ih =>
      intro s y u1 u2 h0 h1 hf hA hmm
      have hNy : nw y v := nw_c (hf 203 (by decide)) hN
      have LI : s < v 2 → ∀ (nn : Nat) (i : Int) (y2 : eg_Z), (0 ≤ i) → (i ≤ v 3) → (∀ d, d ≠ 215 → y2 d = z d) → (∀ q : Int, 0 ≤ q → q < v 3 → (gN v q 0 < s ∨ (gN v q 0 = s ∧ q < i)) → y2 215 q.toNat = fa v q) → v 3 - i < (nn : Int) → eg_E k gX9_laysFirm 1 0 0 n (enc k y2 X) [vR k 202, vI s, vI (lastF v s i.toNat), vI i] [] 21 (eg_p k none n X (fun z' => (∀ d, d ≠ 215 → z' d = z d) ∧ ∀ q : Int, 0 ≤ q → q < v 3 → z' 215 q.toNat = fa v q)) := by
        intro hs nn
        induction nn with
        | zero => intro i y2 i0 i1 gf gA hmm; exfalso; omega
        | succ nn ihn =>
          intro i y2 i0 i1 gf gA hmm
          have hNy2 : nw y2 v := nw_c (gf 203 (by decide)) hN
          have lb := lastF_b hv h0 hs i.toNat (by omega)
          refine eg_iload_n dX9_laysFirm_21 rfl ?_
          refine eg_al_n dX9_laysFirm_22 rfl rfl ?_
          refine eg_iconst dX9_laysFirm_23 ?_
          refine eg_Vf1 cs_X9_179 dX9_laysFirm_24 (many_3 hNy2) (by first | exact er202 | exact er203 | exact er204 | exact er205 | exact er206 | exact er207 | exact er208 | exact er209 | exact er210 | exact er211 | exact er212 | exact er213 | exact er214 | exact er215) rfl (Nat.le_of_ble_eq_true rfl) (by decide) ?_
          refine eg_icmp_ge 74 dX9_laysFirm_27 ⟨by omega, by omega⟩ ⟨by omega, by omega⟩ rfl (fun h27 => ?_) (fun h27 => ?_)
          · refine eg_iinc dX9_laysFirm_74 rfl rfl rfl ?_
            refine eg_goto 2 dX9_laysFirm_77 rfl ?_
            exact ih (s + 1) y2 _ _ (by omega) (by omega) gf (fun q9 a b c => gA q9 a b (by omega)) (by omega)
          · have hi : i < v 3 := by omega
            have o1 := hv.N (q := i) i0 hi
            have o0 := o1.1
            have o3 := o1.2.2.2.2
            clear o1
            have ls1 := lastF_s (v := v) (s := s) i0
            refine eg_al_n dX9_laysFirm_30 rfl rfl ?_
            refine eg_iload_n dX9_laysFirm_31 rfl ?_
            refine eg_iconst dX9_laysFirm_32 ?_
            refine eg_Vf2 cs_X9_259 dX9_laysFirm_33 (c_nom hNy2 (by omega) (by omega) (by omega) (by omega)) (by first | exact er202 | exact er203 | exact er204 | exact er205 | exact er206 | exact er207 | exact er208 | exact er209 | exact er210 | exact er211 | exact er212 | exact er213 | exact er214 | exact er215) rfl (Nat.le_of_ble_eq_true rfl) (by decide) ?_
            refine eg_iload_n dX9_laysFirm_36 rfl ?_
            refine eg_icmp_eq 43 dX9_laysFirm_37 ⟨by omega, by omega⟩ ⟨by omega, by omega⟩ rfl (fun h37 => ?_) (fun h37 => ?_)
            · refine eg_al_n dX9_laysFirm_43 rfl rfl ?_
              refine eg_get fl_X9_49 dX9_laysFirm_44 (by first | exact er202 | exact er203 | exact er204 | exact er205 | exact er206 | exact er207 | exact er208 | exact er209 | exact er210 | exact er211 | exact er212 | exact er213 | exact er214 | exact er215) rfl ?_
              refine eg_iload_n dX9_laysFirm_47 rfl ?_
              refine eg_iload_n dX9_laysFirm_48 rfl ?_
              refine eg_al_n dX9_laysFirm_49 rfl rfl ?_
              refine eg_iload_n dX9_laysFirm_50 rfl ?_
              refine eg_iconst dX9_laysFirm_51 ?_
              refine eg_Vf2 cs_X9_259 dX9_laysFirm_52 (c_nom hNy2 (by omega) (by omega) (by omega) (by omega)) (by first | exact er202 | exact er203 | exact er204 | exact er205 | exact er206 | exact er207 | exact er208 | exact er209 | exact er210 | exact er211 | exact er212 | exact er213 | exact er214 | exact er215) rfl (Nat.le_of_ble_eq_true rfl) (by decide) ?_
              refine eg_mmin cs_X9_106 dX9_laysFirm_55 ⟨by omega, by omega⟩ ⟨by omega, by omega⟩ (Nat.le_of_ble_eq_true rfl) (by decide) ?_
              refine eg_eqI (y := mn (gN v i 3) (lastF v s i.toNat)) (by unfold mn; split <;> split <;> omega) ?_
              refine eg_ia215 dX9_laysFirm_58 (by omega) (by omega) (fun y3 f3 e3 => ?_)
              refine eg_iload_n dX9_laysFirm_59 rfl ?_
              refine eg_al_n dX9_laysFirm_60 rfl rfl ?_
              refine eg_get fl_X9_49 dX9_laysFirm_61 (by first | exact er202 | exact er203 | exact er204 | exact er205 | exact er206 | exact er207 | exact er208 | exact er209 | exact er210 | exact er211 | exact er212 | exact er213 | exact er214 | exact er215) rfl ?_
              refine eg_iload_n dX9_laysFirm_64 rfl ?_
              refine eg_iald dX9_laysFirm_65 (by first | exact er202 | exact er203 | exact er204 | exact er205 | exact er206 | exact er207 | exact er208 | exact er209 | exact er210 | exact er211 | exact er212 | exact er213 | exact er214 | exact er215) (by omega) (by omega) (by decide) ?_
              refine eg_eqI (y := mn (gN v i 3) (lastF v s i.toNat)) (va_up_e e3 rfl) ?_
              refine eg_isub dX9_laysFirm_66 ?_
              refine eg_istore_n dX9_laysFirm_67 rfl rfl rfl ?_
              refine eg_iinc dX9_laysFirm_68 rfl rfl rfl ?_
              refine eg_goto 21 dX9_laysFirm_71 rfl ?_
              rw [show lastF v s i.toNat - mn (gN v i 3) (lastF v s i.toNat) = lastF v s (i + 1).toNat from by rw [ls1, if_pos (by omega)]]
              refine ihn (i + 1) y3 (by omega) (by omega) (fun d hd => (f3 d hd).trans (gf d hd)) (fun q9 a b c => ?_) (by omega)
              by_cases e : q9 = i
              · subst e; rw [va_up_e e3 rfl]; unfold fa; rw [show gN v q9 0 = s by omega]
              · rw [va_up_k e3 (by omega)]; exact gA q9 a b (by omega)
            · refine eg_goto 68 dX9_laysFirm_40 rfl ?_
              refine eg_iinc dX9_laysFirm_68 rfl rfl rfl ?_
              refine eg_goto 21 dX9_laysFirm_71 rfl ?_
              rw [show lastF v s i.toNat = lastF v s (i + 1).toNat from by rw [ls1, if_neg (by omega)]]
              refine ihn (i + 1) y2 (by omega) (by omega) gf (fun q9 a b c => gA q9 a b ?_) (by omega)
              by_cases e : q9 = i
              · subst e; omega
              · omega
      refine eg_iload_n dX9_laysFirm_2 rfl ?_
      refine eg_al_n dX9_laysFirm_3 rfl rfl ?_
      refine eg_iconst dX9_laysFirm_4 ?_
      refine eg_Vf1 cs_X9_179 dX9_laysFirm_5 (many_2 hNy) (by first | exact er202 | exact er203 | exact er204 | exact er205 | exact er206 | exact er207 | exact er208 | exact er209 | exact er210 | exact er211 | exact er212 | exact er213 | exact er214 | exact er215) rfl (Nat.le_of_ble_eq_true rfl) (by decide) ?_
      refine eg_icmp_ge 80 dX9_laysFirm_8 ⟨by omega, by omega⟩ ⟨by omega, by omega⟩ rfl (fun h8 => ?_) (fun h8 => ?_)
      · refine eg_return dX9_laysFirm_80 rfl ?_
        exact ⟨rfl, rfl, y, rfl, hf, fun q9 a b => hA q9 a b (by have := (hv.N a b).1; omega)⟩
      · refine eg_al_n dX9_laysFirm_11 rfl rfl ?_
        refine eg_iload_n dX9_laysFirm_12 rfl ?_
        refine eg_iconst dX9_laysFirm_13 ?_
        refine eg_Vf2 cs_X9_237 dX9_laysFirm_14 (c_ship hNy (by omega) (by omega) (by omega) (by omega)) (by first | exact er202 | exact er203 | exact er204 | exact er205 | exact er206 | exact er207 | exact er208 | exact er209 | exact er210 | exact er211 | exact er212 | exact er213 | exact er214 | exact er215) rfl (Nat.le_of_ble_eq_true rfl) (by decide) ?_
        refine eg_l2i dX9_laysFirm_17 ?_
        refine eg_istore_n dX9_laysFirm_18 rfl rfl rfl ?_
        refine eg_iconst dX9_laysFirm_19 ?_
        refine eg_istore_n dX9_laysFirm_20 rfl rfl rfl ?_
        exact LI (by omega) 17 0 y (by omega) (by omega) hf (fun q9 a b c => hA q9 a b (by omega)) (by omega)
  refine eg_iconst dX9_laysFirm_0 ?_
  refine eg_istore_n dX9_laysFirm_1 rfl rfl rfl ?_
  exact LO 7 0 z _ _ (by omega) (by omega) (fun _ _ => rfl) (fun q9 a b c => absurd c (by have := (hv.N a b).1; omega)) (by omega)
/-- behind j classes -/
def MJ (v : eg_v) (j : Nat) (y : eg_Z) : Prop := (∀ m : Int, isM v m → y 210 m.toNat = LL v j (stM v m)) ∧ ∀ q : Int, 0 ≤ q → q < v 3 → y 213 q.toNat = SS v j q ∧ y 214 q.toNat = CC v j q
theorem cgJ {k : eg_K} {z : eg_Z} {X : eg_M} {n : Nat} {v : eg_v} (hN : nw z v) {B : Int} (hv : VV B v) (hk : PK v) {j : Nat} (h : MJ v j z) (hq : ∀ q : Int, 0 ≤ q → q < v 3 → z 211 q.toNat = pC v j q) : eg_P k gX9_classGoes 4 0 0 [vR k 202] n (enc k z X) (eg_p k none n X (fun z' => (∀ d, d ≠ 210 → d ≠ 211 → d ≠ 213 → d ≠ 214 → z' d = z d) ∧ MJ v (j + 1) z' ∧ ∀ q : Int, 0 ≤ q → q < v 3 → z' 211 q.toNat = pz v (LL v j) (pC v j) 46 q)) := by
  have s := c_classGoes (k := k) (X := X) (n := n) (l := LL v j) (p0 := pC v j) (ct0 := CC v j) hN hv (pC_ok hv j) (LL_b hv hk j) (CC_b j) h.1 (fun q a b => ⟨hq q a b, (h.2 q a b).2⟩)
  refine s.weak (fun a b c ⟨e1, e2, z', e3, f1, f2, f3, f4⟩ => ⟨e1, e2, z', e3, f1, ⟨f4, fun q g0 g1 => ⟨?_, (f2 q g0 g1).2⟩⟩, fun q g0 g1 => (f2 q g0 g1).1⟩)
  rw [f3 q g0 g1, (h.2 q g0 g1).1]
  rfl
theorem SS_1 {v : eg_v} {q : Int} : SS v 1 q = pz v (LL v 0) (pC v 0) 46 q := by
  exact Int.zero_add _
set_option maxHeartbeats 800000 in
theorem c_schedules {k : eg_K} {z : eg_Z} {X : eg_M} {n : Nat} {v : eg_v} (hN : nw z v) {B : Int} (hv : VV B v) (hk : PK v) : eg_P k gX9_schedules 5 0 0 [vR k 202] n (enc k z X) (eg_p k none n X (fun z' => (∀ d, (d < 210 ∨ 216 ≤ d) → z' d = z d) ∧ MJ v 10 z' ∧ ∀ q : Int, 0 ≤ q → q < v 3 → z' 212 q.toNat = SS v 1 q)) := by
  refine eg_P.of (by decide) (Nat.le_of_ble_eq_true rfl) ?_
  show eg_E k gX9_schedules 5 0 0 n (enc k z X) [vR k 202, vU, vU] [] 0 _
  have q := hv.r.2
  have LR : ∀ (mm : Nat) (r : Nat) (y : eg_Z) (u : Value), (r ≤ 9) → (∀ d, (d < 210 ∨ 216 ≤ d) → y d = z d) → (MJ v (r + 1) y) → (∀ q : Int, 0 ≤ q → q < v 3 → y 212 q.toNat = SS v 1 q) → (∀ q : Int, 0 ≤ q → q < v 3 → y 215 q.toNat = fa v q) → 9 - (r : Int) < (mm : Int) → eg_E k gX9_schedules 5 0 0 n (enc k y X) [vR k 202, vI ((r : Int) + 1), u] [] 72 (eg_p k none n X (fun z' => (∀ d, (d < 210 ∨ 216 ≤ d) → z' d = z d) ∧ MJ v 10 z' ∧ ∀ q : Int, 0 ≤ q → q < v 3 → z' 212 q.toNat = SS v 1 q)) := by
    intro mm
    induction mm with
    | zero => intro r y u h1 hf hJ hF hO hmm; exfalso; omega
    | succ mm ih =>
      intro r y u h1 hf hJ hF hO hmm
      have hNy : nw y v := nw_c (hf 203 (by omega)) hN
      have LK : r < 9 → ∀ (nn : Nat) (i : Int) (y2 : eg_Z), (0 ≤ i) → (i ≤ v 3) → (∀ d, (d < 210 ∨ 216 ≤ d) → y2 d = z d) → (MJ v (r + 1) y2) → (∀ q : Int, 0 ≤ q → q < v 3 → y2 212 q.toNat = SS v 1 q) → (∀ q : Int, 0 ≤ q → q < v 3 → y2 215 q.toNat = fa v q) → (∀ q : Int, 0 ≤ q → q < i → y2 211 q.toNat = pC v (r + 1) q) → v 3 - i < (nn : Int) → eg_E k gX9_schedules 5 0 0 n (enc k y2 X) [vR k 202, vI ((r : Int) + 1), vI i] [] 80 (eg_p k none n X (fun z' => (∀ d, (d < 210 ∨ 216 ≤ d) → z' d = z d) ∧ MJ v 10 z' ∧ ∀ q : Int, 0 ≤ q → q < v 3 → z' 212 q.toNat = SS v 1 q)) := by
        intro hr nn
        induction nn with
        | zero => intro i y2 i0 i1 gf gJ gF gO gP hmm; exfalso; omega
        | succ nn ihn =>
          intro i y2 i0 i1 gf gJ gF gO gP hmm
          have hNy2 : nw y2 v := nw_c (gf 203 (by omega)) hN
          refine eg_iload_n dX9_schedules_80 rfl ?_
          refine eg_al_n dX9_schedules_81 rfl rfl ?_
          refine eg_iconst dX9_schedules_82 ?_
          refine eg_Vf1 cs_X9_179 dX9_schedules_83 (many_3 hNy2) (by first | exact er202 | exact er203 | exact er204 | exact er205 | exact er206 | exact er207 | exact er208 | exact er209 | exact er210 | exact er211 | exact er212 | exact er213 | exact er214 | exact er215) rfl (Nat.le_of_ble_eq_true rfl) (by decide) ?_
          refine eg_icmp_ge 135 dX9_schedules_86 ⟨by omega, by omega⟩ ⟨by omega, by omega⟩ rfl (fun h86 => ?_) (fun h86 => ?_)
          · refine eg_al_n dX9_schedules_135 rfl rfl ?_
            refine eg_Vpv0 cs_X9_282 dX9_schedules_136 (cgJ hNy2 hv hk gJ (fun q9 a b => gP q9 a (by omega))) (by first | exact er202 | exact er203 | exact er204 | exact er205 | exact er206 | exact er207 | exact er208 | exact er209 | exact er210 | exact er211 | exact er212 | exact er213 | exact er214 | exact er215) rfl (Nat.le_of_ble_eq_true rfl) (by decide) ?_
            rintro y3 ⟨f3, j3, p3⟩
            refine eg_iinc dX9_schedules_139 rfl rfl rfl ?_
            refine eg_goto 72 dX9_schedules_142 rfl ?_
            exact ih (r + 1) y3 _ (by omega) (fun d hd => (f3 d (by omega) (by omega) (by omega) (by omega)).trans (gf d hd)) j3 (fun q9 a b => by rw [f3 212 (by decide) (by decide) (by decide) (by decide)]; exact gF q9 a b) (fun q9 a b => by rw [f3 215 (by decide) (by decide) (by decide) (by decide)]; exact gO q9 a b) (by omega)
          · have hi : i < v 3 := by omega
            have o1 := hv.N (q := i) i0 hi
            have o0 := o1.1
            have o3 := o1.2.2.2.2
            clear o1
            have oh := hv.H (s := gN v i 0) o0.1 o0.2
            unfold okH at oh
            refine eg_al_n dX9_schedules_89 rfl rfl ?_
            refine eg_get fl_X9_37 dX9_schedules_90 (by first | exact er202 | exact er203 | exact er204 | exact er205 | exact er206 | exact er207 | exact er208 | exact er209 | exact er210 | exact er211 | exact er212 | exact er213 | exact er214 | exact er215) rfl ?_
            refine eg_iload_n dX9_schedules_93 rfl ?_
            refine eg_al_n dX9_schedules_94 rfl rfl ?_
            refine eg_al_n dX9_schedules_95 rfl rfl ?_
            refine eg_iload_n dX9_schedules_96 rfl ?_
            refine eg_iconst dX9_schedules_97 ?_
            refine eg_Vf2 cs_X9_259 dX9_schedules_98 (c_nom hNy2 (by omega) (by omega) (by omega) (by omega)) (by first | exact er202 | exact er203 | exact er204 | exact er205 | exact er206 | exact er207 | exact er208 | exact er209 | exact er210 | exact er211 | exact er212 | exact er213 | exact er214 | exact er215) rfl (Nat.le_of_ble_eq_true rfl) (by decide) ?_
            refine eg_iconst dX9_schedules_101 ?_
            refine eg_Vf2 cs_X9_237 dX9_schedules_102 (c_ship hNy2 o0.1 (by omega) (by omega) (by omega)) (by first | exact er202 | exact er203 | exact er204 | exact er205 | exact er206 | exact er207 | exact er208 | exact er209 | exact er210 | exact er211 | exact er212 | exact er213 | exact er214 | exact er215) rfl (Nat.le_of_ble_eq_true rfl) (by decide) ?_
            refine eg_iload_n dX9_schedules_105 rfl ?_
            refine eg_i2l dX9_schedules_106 ⟨by omega, by omega⟩ ?_
            refine eg_lc_ne 127 dX9_schedules_107 dX9_schedules_108 ⟨by omega, by omega⟩ ⟨by omega, by omega⟩ rfl (fun h107 => ?_) (fun h107 => ?_)
            · refine eg_iconst dX9_schedules_127 ?_
              refine eg_ia211 dX9_schedules_128 (by omega) (by omega) (fun y4 f4 e4 => ?_)
              refine eg_iinc dX9_schedules_129 rfl rfl rfl ?_
              refine eg_goto 80 dX9_schedules_132 rfl ?_
              refine ihn (i + 1) y4 (by omega) (by omega) (fun d hd => (f4 d (by omega)).trans (gf d hd)) ⟨fun m9 h9 => by rw [f4 210 (by decide)]; exact gJ.1 m9 h9, fun q9 a b => by rw [f4 213 (by decide), f4 214 (by decide)]; exact gJ.2 q9 a b⟩ (fun q9 a b => by rw [f4 212 (by decide)]; exact gF q9 a b) (fun q9 a b => by rw [f4 215 (by decide)]; exact gO q9 a b) (fun q9 a b => ?_) (by omega)
              by_cases e : q9 = i
              · subst e; rw [va_up_e e4 rfl]; show _ = pr v ((r + 1 : Nat) : Int) q9; unfold pr; first | (rw [if_pos (by omega)]) | (rw [if_neg (by omega)])
              · rw [va_up_k e4 (by omega)]; exact gP q9 a (by omega)
            · refine eg_al_n dX9_schedules_111 rfl rfl ?_
              refine eg_iload_n dX9_schedules_112 rfl ?_
              refine eg_iconst dX9_schedules_113 ?_
              refine eg_Vf2 cs_X9_259 dX9_schedules_114 (c_nom hNy2 (by omega) (by omega) (by omega) (by omega)) (by first | exact er202 | exact er203 | exact er204 | exact er205 | exact er206 | exact er207 | exact er208 | exact er209 | exact er210 | exact er211 | exact er212 | exact er213 | exact er214 | exact er215) rfl (Nat.le_of_ble_eq_true rfl) (by decide) ?_
              refine eg_al_n dX9_schedules_117 rfl rfl ?_
              refine eg_get fl_X9_49 dX9_schedules_118 (by first | exact er202 | exact er203 | exact er204 | exact er205 | exact er206 | exact er207 | exact er208 | exact er209 | exact er210 | exact er211 | exact er212 | exact er213 | exact er214 | exact er215) rfl ?_
              refine eg_iload_n dX9_schedules_121 rfl ?_
              refine eg_iald dX9_schedules_122 (by first | exact er202 | exact er203 | exact er204 | exact er205 | exact er206 | exact er207 | exact er208 | exact er209 | exact er210 | exact er211 | exact er212 | exact er213 | exact er214 | exact er215) (by omega) (by omega) (by decide) ?_
              refine eg_eqI (gO i i0 hi) ?_
              refine eg_isub dX9_schedules_123 ?_
              refine eg_goto 128 dX9_schedules_124 rfl ?_
              refine eg_ia211 dX9_schedules_128 (by omega) (by omega) (fun y4 f4 e4 => ?_)
              refine eg_iinc dX9_schedules_129 rfl rfl rfl ?_
              refine eg_goto 80 dX9_schedules_132 rfl ?_
              refine ihn (i + 1) y4 (by omega) (by omega) (fun d hd => (f4 d (by omega)).trans (gf d hd)) ⟨fun m9 h9 => by rw [f4 210 (by decide)]; exact gJ.1 m9 h9, fun q9 a b => by rw [f4 213 (by decide), f4 214 (by decide)]; exact gJ.2 q9 a b⟩ (fun q9 a b => by rw [f4 212 (by decide)]; exact gF q9 a b) (fun q9 a b => by rw [f4 215 (by decide)]; exact gO q9 a b) (fun q9 a b => ?_) (by omega)
              by_cases e : q9 = i
              · subst e; rw [va_up_e e4 rfl]; show _ = pr v ((r + 1 : Nat) : Int) q9; unfold pr; first | (rw [if_pos (by omega)]) | (rw [if_neg (by omega)])
              · rw [va_up_k e4 (by omega)]; exact gP q9 a (by omega)
      refine eg_iload_n dX9_schedules_72 rfl ?_
      refine eg_bipush dX9_schedules_73 (by decide) ?_
      refine eg_icmp_gt 145 dX9_schedules_75 ⟨by omega, by omega⟩ ⟨by omega, by omega⟩ rfl (fun h75 => ?_) (fun h75 => ?_)
      · refine eg_return dX9_schedules_145 rfl ?_
        have e : r = 9 := by omega
        subst e
        exact ⟨rfl, rfl, y, rfl, hf, hJ, hF⟩
      · refine eg_iconst dX9_schedules_78 ?_
        refine eg_istore_n dX9_schedules_79 rfl rfl rfl ?_
        exact LK (by omega) 17 0 y (by omega) (by omega) hf hJ hF hO (fun q9 a b => absurd b (by omega)) (by omega)
  have LFm : ∀ (mm : Nat) (i : Int) (y : eg_Z), (0 ≤ i) → (i ≤ v 3) → (∀ d, (d < 210 ∨ 216 ≤ d) → y d = z d) → (MJ v 1 y) → (∀ q : Int, 0 ≤ q → q < v 3 → y 215 q.toNat = fa v q) → (∀ q : Int, 0 ≤ q → q < v 3 → y 211 q.toNat = SS v 1 q) → (∀ q : Int, 0 ≤ q → q < i → y 212 q.toNat = SS v 1 q) → v 3 - i < (mm : Int) → eg_E k gX9_schedules 5 0 0 n (enc k y X) [vR k 202, vI i, vU] [] 43 (eg_p k none n X (fun z' => (∀ d, (d < 210 ∨ 216 ≤ d) → z' d = z d) ∧ MJ v 10 z' ∧ ∀ q : Int, 0 ≤ q → q < v 3 → z' 212 q.toNat = SS v 1 q)) := by
    intro mm
    induction mm with
    | zero => intro i y h0 h1 hf hJ hO hP hF hmm; exfalso; omega
    | succ mm ih =>
      intro i y h0 h1 hf hJ hO hP hF hmm
      have hNy : nw y v := nw_c (hf 203 (by omega)) hN
      refine eg_iload_n dX9_schedules_43 rfl ?_
      refine eg_al_n dX9_schedules_44 rfl rfl ?_
      refine eg_iconst dX9_schedules_45 ?_
      refine eg_Vf1 cs_X9_179 dX9_schedules_46 (many_3 hNy) (by first | exact er202 | exact er203 | exact er204 | exact er205 | exact er206 | exact er207 | exact er208 | exact er209 | exact er210 | exact er211 | exact er212 | exact er213 | exact er214 | exact er215) rfl (Nat.le_of_ble_eq_true rfl) (by decide) ?_
      refine eg_icmp_ge 70 dX9_schedules_49 ⟨by omega, by omega⟩ ⟨by omega, by omega⟩ rfl (fun h49 => ?_) (fun h49 => ?_)
      · refine eg_iconst dX9_schedules_70 ?_
        refine eg_istore_n dX9_schedules_71 rfl rfl rfl ?_
        exact LR 10 0 y _ (by omega) hf hJ (fun q9 a b => hF q9 a (by omega)) hO (by omega)
      · have hi : i < v 3 := by omega
        refine eg_al_n dX9_schedules_52 rfl rfl ?_
        refine eg_get fl_X9_40 dX9_schedules_53 (by first | exact er202 | exact er203 | exact er204 | exact er205 | exact er206 | exact er207 | exact er208 | exact er209 | exact er210 | exact er211 | exact er212 | exact er213 | exact er214 | exact er215) rfl ?_
        refine eg_iload_n dX9_schedules_56 rfl ?_
        refine eg_al_n dX9_schedules_57 rfl rfl ?_
        refine eg_get fl_X9_37 dX9_schedules_58 (by first | exact er202 | exact er203 | exact er204 | exact er205 | exact er206 | exact er207 | exact er208 | exact er209 | exact er210 | exact er211 | exact er212 | exact er213 | exact er214 | exact er215) rfl ?_
        refine eg_iload_n dX9_schedules_61 rfl ?_
        refine eg_iald dX9_schedules_62 (by first | exact er202 | exact er203 | exact er204 | exact er205 | exact er206 | exact er207 | exact er208 | exact er209 | exact er210 | exact er211 | exact er212 | exact er213 | exact er214 | exact er215) (by omega) (by omega) (by decide) ?_
        refine eg_eqI (hP i h0 hi) ?_
        refine eg_ia212 dX9_schedules_63 (by omega) (by omega) (fun y1 f1 e1 => ?_)
        refine eg_iinc dX9_schedules_64 rfl rfl rfl ?_
        refine eg_goto 43 dX9_schedules_67 rfl ?_
        refine ih (i + 1) y1 (by omega) (by omega) (fun d hd => (f1 d (by omega)).trans (hf d hd)) ⟨fun m9 h9 => by rw [f1 210 (by decide)]; exact hJ.1 m9 h9, fun q9 a b => by rw [f1 213 (by decide), f1 214 (by decide)]; exact hJ.2 q9 a b⟩ (fun q9 a b => by rw [f1 215 (by decide)]; exact hO q9 a b) (fun q9 a b => by rw [f1 211 (by decide)]; exact hP q9 a b) (fun q9 a b => ?_) (by omega)
        by_cases e : q9 = i
        · subst e; rw [va_up_e e1 rfl]
        · rw [va_up_k e1 (by omega)]; exact hF q9 a (by omega)
  have LPt : ∀ (mm : Nat) (i : Int) (y : eg_Z), (0 ≤ i) → (i ≤ v 3) → (∀ d, (d < 210 ∨ 216 ≤ d) → y d = z d) → (MJ v 0 y) → (∀ q : Int, 0 ≤ q → q < v 3 → y 215 q.toNat = fa v q) → (∀ q : Int, 0 ≤ q → q < i → y 211 q.toNat = pC v 0 q) → v 3 - i < (mm : Int) → eg_E k gX9_schedules 5 0 0 n (enc k y X) [vR k 202, vI i, vU] [] 10 (eg_p k none n X (fun z' => (∀ d, (d < 210 ∨ 216 ≤ d) → z' d = z d) ∧ MJ v 10 z' ∧ ∀ q : Int, 0 ≤ q → q < v 3 → z' 212 q.toNat = SS v 1 q)) := by
    intro mm
    induction mm with
    | zero => intro i y h0 h1 hf hJ hO hP hmm; exfalso; omega
    | succ mm ih =>
      intro i y h0 h1 hf hJ hO hP hmm
      have hNy : nw y v := nw_c (hf 203 (by omega)) hN
      refine eg_iload_n dX9_schedules_10 rfl ?_
      refine eg_al_n dX9_schedules_11 rfl rfl ?_
      refine eg_iconst dX9_schedules_12 ?_
      refine eg_Vf1 cs_X9_179 dX9_schedules_13 (many_3 hNy) (by first | exact er202 | exact er203 | exact er204 | exact er205 | exact er206 | exact er207 | exact er208 | exact er209 | exact er210 | exact er211 | exact er212 | exact er213 | exact er214 | exact er215) rfl (Nat.le_of_ble_eq_true rfl) (by decide) ?_
      refine eg_icmp_ge 37 dX9_schedules_16 ⟨by omega, by omega⟩ ⟨by omega, by omega⟩ rfl (fun h16 => ?_) (fun h16 => ?_)
      · refine eg_al_n dX9_schedules_37 rfl rfl ?_
        refine eg_Vpv0 cs_X9_282 dX9_schedules_38 (cgJ hNy hv hk hJ (fun q9 a b => hP q9 a (by omega))) (by first | exact er202 | exact er203 | exact er204 | exact er205 | exact er206 | exact er207 | exact er208 | exact er209 | exact er210 | exact er211 | exact er212 | exact er213 | exact er214 | exact er215) rfl (Nat.le_of_ble_eq_true rfl) (by decide) ?_
        rintro y3 ⟨f3, j3, p3⟩
        refine eg_iconst dX9_schedules_41 ?_
        refine eg_istore_n dX9_schedules_42 rfl rfl rfl ?_
        exact LFm 17 0 y3 (by omega) (by omega) (fun d hd => (f3 d (by omega) (by omega) (by omega) (by omega)).trans (hf d hd)) j3 (fun q9 a b => by rw [f3 215 (by decide) (by decide) (by decide) (by decide)]; exact hO q9 a b) (fun q9 a b => by rw [p3 q9 a b, SS_1]) (fun q9 a b => absurd b (by omega)) (by omega)
      · have hi : i < v 3 := by omega
        refine eg_al_n dX9_schedules_19 rfl rfl ?_
        refine eg_get fl_X9_37 dX9_schedules_20 (by first | exact er202 | exact er203 | exact er204 | exact er205 | exact er206 | exact er207 | exact er208 | exact er209 | exact er210 | exact er211 | exact er212 | exact er213 | exact er214 | exact er215) rfl ?_
        refine eg_iload_n dX9_schedules_23 rfl ?_
        refine eg_al_n dX9_schedules_24 rfl rfl ?_
        refine eg_get fl_X9_49 dX9_schedules_25 (by first | exact er202 | exact er203 | exact er204 | exact er205 | exact er206 | exact er207 | exact er208 | exact er209 | exact er210 | exact er211 | exact er212 | exact er213 | exact er214 | exact er215) rfl ?_
        refine eg_iload_n dX9_schedules_28 rfl ?_
        refine eg_iald dX9_schedules_29 (by first | exact er202 | exact er203 | exact er204 | exact er205 | exact er206 | exact er207 | exact er208 | exact er209 | exact er210 | exact er211 | exact er212 | exact er213 | exact er214 | exact er215) (by omega) (by omega) (by decide) ?_
        refine eg_eqI (hO i h0 hi) ?_
        refine eg_ia211 dX9_schedules_30 (by omega) (by omega) (fun y1 f1 e1 => ?_)
        refine eg_iinc dX9_schedules_31 rfl rfl rfl ?_
        refine eg_goto 10 dX9_schedules_34 rfl ?_
        refine ih (i + 1) y1 (by omega) (by omega) (fun d hd => (f1 d (by omega)).trans (hf d hd)) ⟨fun m9 h9 => by rw [f1 210 (by decide)]; exact hJ.1 m9 h9, fun q9 a b => by rw [f1 213 (by decide), f1 214 (by decide)]; exact hJ.2 q9 a b⟩ (fun q9 a b => by rw [f1 215 (by decide)]; exact hO q9 a b) (fun q9 a b => ?_) (by omega)
        by_cases e : q9 = i
        · subst e; rw [va_up_e e1 rfl]; rfl
        · rw [va_up_k e1 (by omega)]; exact hP q9 a (by omega)
  refine eg_al_n dX9_schedules_0 rfl rfl ?_
  refine eg_Vpv0 cs_X9_276 dX9_schedules_1 (c_begins hN hv) (by first | exact er202 | exact er203 | exact er204 | exact er205 | exact er206 | exact er207 | exact er208 | exact er209 | exact er210 | exact er211 | exact er212 | exact er213 | exact er214 | exact er215) rfl (Nat.le_of_ble_eq_true rfl) (by decide) ?_
  rintro y1 ⟨f1, g1, b1⟩
  have hN1 : nw y1 v := nw_c (f1 203 (by decide) (by decide) (by decide) (by decide)) hN
  refine eg_al_n dX9_schedules_4 rfl rfl ?_
  refine eg_Vpv0 cs_X9_279 dX9_schedules_5 (c_laysFirm hN1 hv) (by first | exact er202 | exact er203 | exact er204 | exact er205 | exact er206 | exact er207 | exact er208 | exact er209 | exact er210 | exact er211 | exact er212 | exact er213 | exact er214 | exact er215) rfl (Nat.le_of_ble_eq_true rfl) (by decide) ?_
  rintro y2 ⟨f2, o2⟩
  refine eg_iconst dX9_schedules_8 ?_
  refine eg_istore_n dX9_schedules_9 rfl rfl rfl ?_
  exact LPt 17 0 y2 (by omega) (by omega) (fun d hd => (f2 d (by omega)).trans (f1 d (by omega) (by omega) (by omega) (by omega))) ⟨fun m9 h9 => by rw [f2 210 (by decide)]; exact g1 m9 h9, fun q9 a b => by rw [f2 213 (by decide), f2 214 (by decide), (b1 q9 a (by omega)).1, (b1 q9 a (by omega)).2.1]; exact ⟨rfl, rfl⟩⟩ o2 (fun q9 a b => absurd b (by omega)) (by omega)
theorem c_allPlanned {k : eg_K} {z : eg_Z} {X : eg_M} {n : Nat} {v : eg_v} (hN : nw z v) {B : Int} (hv : VV B v) {p : Int → Int} (hJ : ∀ q : Int, 0 ≤ q → q < v 3 → z 213 q.toNat = p q) : eg_P k gX9_allPlanned 1 0 0 [vR k 202] n (enc k z X) (eg_f (some (vI (sm p (v 3).toNat))) n (enc k z X)) := by
  refine eg_P.of (by decide) (Nat.le_of_ble_eq_true rfl) ?_
  show eg_E k gX9_allPlanned 1 0 0 n (enc k z X) [vR k 202, vU, vU] [] 0 _
  have q := hv.r.2
  have L1 : ∀ (mm : Nat) (i : Int), (0 ≤ i) → (i ≤ v 3) → v 3 - i < (mm : Int) → eg_E k gX9_allPlanned 1 0 0 n (enc k z X) [vR k 202, vI (sm p i.toNat), vI i] [] 4 (eg_f (some (vI (sm p (v 3).toNat))) n (enc k z X)) := by
    intro mm
    induction mm with
    | zero => intro i h0 h1 hmm; exfalso; omega
    | succ mm ih =>
      intro i h0 h1 hmm
      refine eg_iload_n dX9_allPlanned_4 rfl ?_
      refine eg_al_n dX9_allPlanned_5 rfl rfl ?_
      refine eg_iconst dX9_allPlanned_6 ?_
      refine eg_Vf1 cs_X9_179 dX9_allPlanned_7 (many_3 hN) (by first | exact er202 | exact er203 | exact er204 | exact er205 | exact er206 | exact er207 | exact er208 | exact er209 | exact er210 | exact er211 | exact er212 | exact er213 | exact er214 | exact er215) rfl (Nat.le_of_ble_eq_true rfl) (by decide) ?_
      refine eg_icmp_ge 28 dX9_allPlanned_10 ⟨by omega, by omega⟩ ⟨by omega, by omega⟩ rfl (fun h10 => ?_) (fun h10 => ?_)
      · refine eg_iload_n dX9_allPlanned_28 rfl ?_
        refine eg_ireturn dX9_allPlanned_29 rfl rfl ?_
        have e : i = v 3 := by omega
        subst e
        exact ⟨rfl, rfl, rfl⟩
      · have hi : i < v 3 := by omega
        refine eg_iload_n dX9_allPlanned_13 rfl ?_
        refine eg_al_n dX9_allPlanned_14 rfl rfl ?_
        refine eg_get fl_X9_43 dX9_allPlanned_15 (by first | exact er202 | exact er203 | exact er204 | exact er205 | exact er206 | exact er207 | exact er208 | exact er209 | exact er210 | exact er211 | exact er212 | exact er213 | exact er214 | exact er215) rfl ?_
        refine eg_iload_n dX9_allPlanned_18 rfl ?_
        refine eg_iald dX9_allPlanned_19 (by first | exact er202 | exact er203 | exact er204 | exact er205 | exact er206 | exact er207 | exact er208 | exact er209 | exact er210 | exact er211 | exact er212 | exact er213 | exact er214 | exact er215) (by omega) (by omega) (by decide) ?_
        refine eg_eqI (hJ i h0 hi) ?_
        refine eg_iadd dX9_allPlanned_20 ?_
        refine eg_eqI (y := sm p (i + 1).toNat) (by rw [sm_s _ h0]) ?_
        refine eg_istore_n dX9_allPlanned_21 rfl rfl rfl ?_
        refine eg_iinc dX9_allPlanned_22 rfl rfl rfl ?_
        refine eg_goto 4 dX9_allPlanned_25 rfl ?_
        exact ih (i + 1) (by omega) (by omega) (by omega)
  refine eg_iconst dX9_allPlanned_0 ?_
  refine eg_istore_n dX9_allPlanned_1 rfl rfl rfl ?_
  refine eg_iconst dX9_allPlanned_2 ?_
  refine eg_istore_n dX9_allPlanned_3 rfl rfl rfl ?_
  exact L1 17 0 (by omega) (by omega) (by omega)
