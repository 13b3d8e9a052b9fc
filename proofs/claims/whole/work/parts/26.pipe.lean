theorem eg_orB {k : eg_K} {g : eg_G} {d bc bs n : Nat} {M : eg_M} {ls st : List Value} {pc : Nat} {Q : eg_Q} {a c : Bool} (hd : decode g.2.1 pc = .ok (.ior, 1)) (h : eg_E k g d bc bs n M ls (vI (bi ((a || c) = true)) :: st) (pc + 1) Q) : eg_E k g d bc bs n M ls (vI (bi (c = true)) :: vI (bi (a = true)) :: st) pc Q := by
  cases a <;> cases c
  · exact eg_orN (x := 0) (y := 0) hd (by decide) (by decide) h
  · exact eg_orN (x := 0) (y := 1) hd (by decide) (by decide) h
  · exact eg_orN (x := 1) (y := 0) hd (by decide) (by decide) h
  · exact eg_orN (x := 1) (y := 1) hd (by decide) (by decide) h
theorem isB_s : ∀ b, b < 185 → (!isB b || (decide (b + 12 ≤ 25) || (decide (36 ≤ b) || false))) = true := by decide +kernel
/-- the schedule's cells are no pipe's -/
theorem isB_c {b c : Nat} (hb : isB b = true) (h : 25 ≤ c ∧ c < 36) : c < b ∨ b + 12 ≤ c := by
  have h1 := isB_s b (isB_lt hb)
  simp [hb] at h1
  omega
def dayIt (v : eg_v) (p : Int → Int) : Nat → eg_v
  | 0 => v
  | m + 1 => dayV (dayIt v p m) (m : Int) (p m)
theorem dayV_i {v : eg_v} {B : Int} (hv : VV B v) {r p : Int} (h0 : 0 ≤ r) (h1 : r < v 3) {i : Nat} (h : i < 7 ∨ (10 ≤ i ∧ i < 66) ∨ 108 ≤ i) : dayV v r p i = v i := by
  have o1 := hv.N h0 h1
  unfold okN at o1
  have q := hv.r
  unfold dayV
  rw [va_up_n, va_up_n, va_up_n, va_up_n, va_up_n] <;> omega
theorem dayIt_p {v : eg_v} {B : Int} (hv : VV B v) {p : Int → Int} (hp : ∀ i : Int, 0 ≤ i → i < v 3 → 0 ≤ p i ∧ p i ≤ 9999) : ∀ m : Nat, (m : Int) ≤ v 3 → VV (B + 40000 * m) (dayIt v p m) ∧ ∀ i : Nat, (i < 7 ∨ (10 ≤ i ∧ i < 66) ∨ 108 ≤ i) → dayIt v p m i = v i
  | 0, _ => ⟨by rw [show B + 40000 * ((0 : Nat) : Int) = B by omega]; exact hv, fun i _ => rfl⟩
  | m + 1, h => by
    obtain ⟨h1, h2⟩ := dayIt_p hv hp m (by omega)
    have e3 := h2 3 (by omega)
    have h3 := hp m (by omega) (by omega)
    have h4 := VV_day h1 (r := m) (p := p m) (by omega) (by rw [e3]; omega) h3
    refine ⟨?_, fun i hi => ?_⟩
    · rw [show B + 40000 * ((m + 1 : Nat) : Int) = B + 40000 * (m : Int) + 40000 by omega]
      exact h4
    · show dayV (dayIt v p m) (m : Int) (p m) i = v i
      rw [dayV_i h1 (by omega) (by rw [e3]; omega) hi]
      exact h2 i hi
theorem dayIt_s {v : eg_v} {p : Int → Int} {i : Int} (h : 0 ≤ i) : dayIt v p (i + 1).toNat = dayV (dayIt v p i.toNat) i (p i) := by
  rw [show (i + 1).toNat = i.toNat + 1 by omega]
  show dayV (dayIt v p i.toNat) (i.toNat : Int) (p i.toNat) = _
  rw [Int.toNat_of_nonneg h]
/-- a day by what is scheduled -/
def dayA (v : eg_v) (p : Int → Int) : eg_v := va_up (dayIt v p (v 3).toNat) 4 (v 4 + 1)
/-- whether something parked or lent changes -/
def chF (v : eg_v) (p : Int → Int) : Nat → Bool
  | 0 => false
  | m + 1 => chF v p m || decide (0 < p m ∧ (gN v m 1 = -1 ∨ gN v m 2 = -1))
theorem chF_s {v : eg_v} {p : Int → Int} {i : Int} (h : 0 ≤ i) : chF v p (i + 1).toNat = (chF v p i.toNat || decide (0 < p i ∧ (gN v i 1 = -1 ∨ gN v i 2 = -1))) := by
  rw [show (i + 1).toNat = i.toNat + 1 by omega]
  show (chF v p i.toNat || decide (0 < p i.toNat ∧ (gN v i.toNat 1 = -1 ∨ gN v i.toNat 2 = -1))) = _
  rw [Int.toNat_of_nonneg h]
theorem bo_e (a b : Bool) : ((bi (a = true)).toNat ||| (bi (b = true)).toNat : Nat) = (bi ((a || b) = true)).toNat := by cases a <;> cases b <;> decide
theorem gN_d {v v' : eg_v} (h : ∀ i : Nat, (i < 7 ∨ (10 ≤ i ∧ i < 66) ∨ 108 ≤ i) → v' i = v i) {r c : Int} (h0 : 0 ≤ r) (h1 : 0 ≤ c) : gN v' r c = gN v r c := h _ (by omega)
theorem c_X2_passDay {k : eg_K} {z : eg_Z} {X : eg_M} {n b : Nat} {v : eg_v} {B : Int} (hb : isB b = true) (hp : hP z b v) (hv : VV B v) (hB : B ≤ 90000000) (hs : ∀ i : Int, 0 ≤ i → i < v 3 → 0 ≤ z 26 i.toNat ∧ z 26 i.toNat ≤ 9999) : eg_P k gX2_passDay 4 0 0 [vR k b, vR k 25] n (enc k z X) (eg_p k (some (vI (bi (chF v (fun i => z 26 i.toNat) (v 3).toNat = true)))) n X (fun z' => Md z z' b ∧ hP z' b (dayA v (fun i => z 26 i.toNat)) ∧ (∀ i s : Int, 0 ≤ i → i < 8 → 0 ≤ s → s < v 2 → z' (b + 11) (i * 6 + s).toNat = if i = 0 then gH (dayA v (fun i => z 26 i.toNat)) s 4 else z (b + 11) ((i - 1) * 6 + s).toNat))) := by
  refine eg_P.of (by decide) (Nat.le_of_ble_eq_true rfl) ?_
  show eg_E k gX2_passDay 4 0 0 n (enc k z X) [vR k b, vR k 25, vU, vU, vU] [] 0 _
  have q := hv.r
  obtain ⟨⟨z0, z1, z2, z3⟩, ⟨c1, c3, c5, c7⟩, -⟩ := id hp
  obtain ⟨hvw, hwi⟩ := dayIt_p hv hs (v 3).toNat (by omega)
  have L2 : ∀ (m : Nat) (i : Int) (y2 : eg_Z) (u : Value), 0 ≤ i → i ≤ v 2 → hP y2 b (dayIt v (fun i => z 26 i.toNat) (v 3).toNat) → Md z y2 b → (∀ q : Nat, q < 48 → y2 (b + 11) q = if (q : Int) < i then gH (dayIt v (fun i => z 26 i.toNat) (v 3).toNat) q 4 else va_cpy (z (b + 11)) (z (b + 11)) 0 6 42 q) → v 2 - i < (m : Int) → eg_E k gX2_passDay 4 0 0 n (enc k y2 X) [vR k b, vR k 25, vI (bi (chF v (fun i => z 26 i.toNat) (v 3).toNat = true)), vI i, u] [] 75 (eg_p k (some (vI (bi (chF v (fun i => z 26 i.toNat) (v 3).toNat = true)))) n X (fun z' => Md z z' b ∧ hP z' b (dayA v (fun i => z 26 i.toNat)) ∧ (∀ i s : Int, 0 ≤ i → i < 8 → 0 ≤ s → s < v 2 → z' (b + 11) (i * 6 + s).toNat = if i = 0 then gH (dayA v (fun i => z 26 i.toNat)) s 4 else z (b + 11) ((i - 1) * 6 + s).toNat))) := by
    intro m
    induction m with
    | zero => intro i y2 u h0 h1 hpy hm hl hmm; exfalso; omega
    | succ m ih =>
      intro i y2 u h0 h1 hpy hm hl hmm
      have e2 : (dayIt v (fun i => z 26 i.toNat) (v 3).toNat) 2 = v 2 := hwi 2 (by omega)
      have c5y := hpy.2.1.2.2.1
      rw [e2] at c5y
      refine eg_iload_n dX2_passDay_75 rfl ?_
      refine eg_al_n dX2_passDay_76 rfl rfl ?_
      refine eg_get fl_X2_36 dX2_passDay_77 (by first | exact ep0 hb | exact ep7 hb | exact ep11 hb | exact ep5 hb | rfl) rfl ?_
      refine eg_get fl_X2_53 dX2_passDay_80 (by first | exact ep0 hb | exact ep7 hb | exact ep11 hb | exact ep5 hb | rfl) rfl ?_
      rw [show y2 (b + 5) 3 = v 2 from c5y]
      refine eg_icmp_ge 107 dX2_passDay_83 ⟨by omega, by omega⟩ ⟨by omega, by omega⟩ rfl (fun h83 => ?_) (fun h83 => ?_)
      · refine eg_al_n dX2_passDay_107 rfl rfl ?_
        refine eg_dup dX2_passDay_108 rfl ?_
        refine eg_get fl_X2_21 dX2_passDay_109 (by first | exact ep0 hb | exact ep7 hb | exact ep11 hb | exact ep5 hb | rfl) rfl ?_
        refine eg_iconst dX2_passDay_112 ?_
        refine eg_iadd dX2_passDay_113 ?_
        refine eg_put fl_X2_21 dX2_passDay_114 (by first | exact ep0 hb | exact ep7 hb | exact ep11 hb | exact ep5 hb | rfl) rfl rfl rfl rfl ?_
        refine eg_iload_n dX2_passDay_117 rfl ?_
        refine eg_ireturn dX2_passDay_118 rfl (bi_nar _) ?_
        have e9 : i = v 2 := by omega
        have e4 : y2 b 3 = v 4 := hpy.1.2.2.2.trans (hwi 4 (by omega))
        rw [e4]
        have hpd := uD (x := v 4 + 1) hvw hpy
        refine ⟨rfl, rfl, va_up y2 b (va_up (y2 b) 3 (v 4 + 1)), ?_, hm.tr md0, hpd, ?_⟩
        · exact es0_3 hb
        · intro i9 s9 g0 g1 g2 g3
          rw [va_up_n _ _ (by omega), hl _ (by omega)]
          by_cases hi9 : i9 = 0
          · rw [if_pos hi9, if_pos (by omega)]
            unfold dayA
            rw [gH_o (by omega) g2 (by omega) (by omega) (by omega)]
            congr 1; omega
          · rw [if_neg hi9, if_neg (by omega)]
            unfold va_cpy
            rw [if_pos (by omega)]
            congr 1; omega
      · refine eg_al_n dX2_passDay_86 rfl rfl ?_
        refine eg_get fl_X2_49 dX2_passDay_87 (by first | exact ep0 hb | exact ep7 hb | exact ep11 hb | exact ep5 hb | rfl) rfl ?_
        refine eg_iload_n dX2_passDay_90 rfl ?_
        refine eg_al_n dX2_passDay_91 rfl rfl ?_
        refine eg_get fl_X2_36 dX2_passDay_92 (by first | exact ep0 hb | exact ep7 hb | exact ep11 hb | exact ep5 hb | rfl) rfl ?_
        refine eg_iload_n dX2_passDay_95 rfl ?_
        refine eg_iconst dX2_passDay_96 ?_
        refine eg_Vf2 cs_X2_79 dX2_passDay_97 (sh_at hb hpy hvw h0 (by rw [e2]; omega) (by omega) (by omega)) (by first | exact ep0 hb | exact ep7 hb | exact ep11 hb | exact ep5 hb | rfl) rfl (Nat.le_of_ble_eq_true rfl) (by decide) ?_
        refine eg_iast dX2_passDay_100 (by first | exact ep0 hb | exact ep7 hb | exact ep11 hb | exact ep5 hb | rfl) (by omega) (by omega) (by decide) ?_
        refine eg_eqM (es11 hb) ?_
        generalize hy3 : va_up y2 (b + 11) _ = y3
        refine eg_iinc dX2_passDay_101 rfl rfl rfl ?_
        refine eg_goto 75 dX2_passDay_104 rfl ?_
        have hpz := hP_c (z' := y3) hpy (fun j hj => by rw [← hy3, va_up_n _ _ (by omega)])
        refine ih (i + 1) y3 _ (by omega) (by omega) hpz ?_ ?_ (by omega)
        · rw [← hy3]; exact hm.tr (md1 (by decide))
        · intro q9 hq9
          rw [← hy3, va_up_s]
          by_cases hqi : q9 = i.toNat
          · subst hqi; rw [va_up_s, if_pos (by omega), Int.toNat_of_nonneg h0]
          · rw [va_up_n _ _ hqi, hl q9 hq9]
            by_cases hlt : (q9 : Int) < i
            · rw [if_pos hlt, if_pos (by omega)]
            · rw [if_neg hlt, if_neg (by omega)]
  have L1 : ∀ (m : Nat) (i : Int) (y : eg_Z) (u : Value), 0 ≤ i → i ≤ v 3 → hP y b (dayIt v (fun i => z 26 i.toNat) i.toNat) → Md z y b → y (b + 11) = z (b + 11) → v 3 - i < (m : Int) → eg_E k gX2_passDay 4 0 0 n (enc k y X) [vR k b, vR k 25, vI (bi (chF v (fun i => z 26 i.toNat) i.toNat = true)), vI i, u] [] 4 (eg_p k (some (vI (bi (chF v (fun i => z 26 i.toNat) (v 3).toNat = true)))) n X (fun z' => Md z z' b ∧ hP z' b (dayA v (fun i => z 26 i.toNat)) ∧ (∀ i s : Int, 0 ≤ i → i < 8 → 0 ≤ s → s < v 2 → z' (b + 11) (i * 6 + s).toNat = if i = 0 then gH (dayA v (fun i => z 26 i.toNat)) s 4 else z (b + 11) ((i - 1) * 6 + s).toNat))) := by
    intro m
    induction m with
    | zero => intro i y u h0 h1 hpy hm hl hmm; exfalso; omega
    | succ m ih =>
      intro i y u h0 h1 hpy hm hl hmm
      obtain ⟨hvi, hwi⟩ := dayIt_p hv hs i.toNat (by omega)
      have e3 : dayIt v (fun i => z 26 i.toNat) i.toNat 3 = v 3 := hwi 3 (by omega)
      have c7y := hpy.2.1.2.2.2
      rw [e3] at c7y
      have e26 : y 26 = z 26 := hm 26 (isB_c hb (by omega))
      have hiB : B + 40000 * (i.toNat : Int) ≤ 100000000 := by omega
      refine eg_iload_n dX2_passDay_4 rfl ?_
      refine eg_al_n dX2_passDay_5 rfl rfl ?_
      refine eg_get fl_X2_39 dX2_passDay_6 (by first | exact ep0 hb | exact ep7 hb | exact ep11 hb | exact ep5 hb | rfl) rfl ?_
      refine eg_get fl_X2_53 dX2_passDay_9 (by first | exact ep0 hb | exact ep7 hb | exact ep11 hb | exact ep5 hb | rfl) rfl ?_
      rw [c7y]
      refine eg_icmp_ge 57 dX2_passDay_12 ⟨by omega, by omega⟩ ⟨by omega, by omega⟩ rfl (fun h12 => ?_) (fun h12 => ?_)
      · have e9 : i.toNat = (v 3).toNat := by omega
        rw [e9] at hpy
        rw [e9]
        refine eg_al_n dX2_passDay_57 rfl rfl ?_
        refine eg_get fl_X2_49 dX2_passDay_58 (by first | exact ep0 hb | exact ep7 hb | exact ep11 hb | exact ep5 hb | rfl) rfl ?_
        refine eg_iconst dX2_passDay_61 ?_
        refine eg_al_n dX2_passDay_62 rfl rfl ?_
        refine eg_get fl_X2_49 dX2_passDay_63 (by first | exact ep0 hb | exact ep7 hb | exact ep11 hb | exact ep5 hb | rfl) rfl ?_
        refine eg_bipush dX2_passDay_66 (by decide) ?_
        refine eg_bipush dX2_passDay_68 (by decide) ?_
        refine eg_acI (SP := 0) (DP := 6) (N := 42) ac_X2_69 ac_nat dX2_passDay_70 (ep11 hb) (ep11 hb) rfl rfl rfl (by decide) (by decide) (by decide) (by decide) (Nat.le_of_ble_eq_true rfl) (by decide) ?_
        refine eg_eqM (es11 hb) ?_
        refine eg_iconst dX2_passDay_73 ?_
        refine eg_istore_n dX2_passDay_74 rfl rfl rfl ?_
        refine L2 7 0 _ _ (by omega) (by omega) ?_ (hm.tr (md1 (by decide))) ?_ (by omega)
        · exact hP_c hpy (fun j hj => va_up_n _ _ (by omega))
        · intro q9 hq9
          rw [va_up_s, hl, if_neg (by omega)]
      · have hs9 := hs i h0 h12
        have hps := dayIt_s (v := v) (p := (fun i => z 26 i.toNat)) h0
        have hcs := chF_s (v := v) (p := (fun i => z 26 i.toNat)) h0
        refine eg_al_n dX2_passDay_15 rfl rfl ?_
        refine eg_get fl_X2_117 dX2_passDay_16 (by first | exact ep0 hb | exact ep7 hb | exact ep11 hb | exact ep5 hb | rfl) rfl ?_
        refine eg_iload_n dX2_passDay_19 rfl ?_
        refine eg_iald dX2_passDay_20 (by first | exact ep0 hb | exact ep7 hb | exact ep11 hb | exact ep5 hb | rfl) (by omega) (by omega) (by decide) ?_
        rw [e26]
        refine eg_istore dX2_passDay_21 rfl rfl rfl ?_
        refine eg_al_n dX2_passDay_23 rfl rfl ?_
        refine eg_iload_n dX2_passDay_24 rfl ?_
        refine eg_iload dX2_passDay_25 rfl ?_
        refine eg_Vpv2 cs_X2_122 dX2_passDay_27 (c_X2_bookNomination hb hpy hvi hiB h0 (by rw [e3]; omega) hs9) (by first | exact ep0 hb | exact ep7 hb | exact ep11 hb | exact ep5 hb | rfl) rfl (Nat.le_of_ble_eq_true rfl) (by decide) ?_
        rintro y1 ⟨m1, l1, hp1⟩
        rw [← hps] at hp1
        have e31 : dayIt v (fun i => z 26 i.toNat) (i + 1).toNat 3 = v 3 := (dayIt_p hv hs (i + 1).toNat (by omega)).2 3 (by omega)
        have en : ∀ c : Int, 0 ≤ c → gN (dayIt v (fun i => z 26 i.toNat) (i + 1).toNat) i c = gN v i c := fun c hc => gN_d (dayIt_p hv hs (i + 1).toNat (by omega)).2 h0 hc
        have en1 := en 1 (by omega); have en2 := en 2 (by omega)
        have J : ∀ b9 : Bool, b9 = decide (0 < z 26 i.toNat ∧ (gN v i 1 = -1 ∨ gN v i 2 = -1)) → eg_E k gX2_passDay 4 0 0 n (enc k y1 X) [vR k b, vR k 25, vI (bi (chF v (fun i => z 26 i.toNat) i.toNat = true)), vI i, vI (z 26 i.toNat)] [vI (bi (b9 = true)), vI (bi (chF v (fun i => z 26 i.toNat) i.toNat = true))] 49 (eg_p k (some (vI (bi (chF v (fun i => z 26 i.toNat) (v 3).toNat = true)))) n X (fun z' => Md z z' b ∧ hP z' b (dayA v (fun i => z 26 i.toNat)) ∧ (∀ i s : Int, 0 ≤ i → i < 8 → 0 ≤ s → s < v 2 → z' (b + 11) (i * 6 + s).toNat = if i = 0 then gH (dayA v (fun i => z 26 i.toNat)) s 4 else z (b + 11) ((i - 1) * 6 + s).toNat))) := by
          intro b9 hb9
          refine eg_orB dX2_passDay_49 ?_
          refine eg_istore_n dX2_passDay_50 rfl rfl rfl ?_
          refine eg_iinc dX2_passDay_51 rfl rfl rfl ?_
          refine eg_goto 4 dX2_passDay_54 rfl ?_
          rw [hb9, ← hcs]
          exact ih (i + 1) y1 _ (by omega) (by omega) hp1 (hm.tr m1) (l1.trans hl) (by omega)
        refine eg_iload_n dX2_passDay_30 rfl ?_
        refine eg_iload dX2_passDay_31 rfl ?_
        refine eg_if_le 48 dX2_passDay_33 ⟨by omega, by omega⟩ rfl (fun h33 => ?_) (fun h33 => ?_)
        · refine eg_iconst dX2_passDay_48 ?_
          exact J false (by symm; simp; omega)
        · refine eg_al_n dX2_passDay_36 rfl rfl ?_
          refine eg_iload_n dX2_passDay_37 rfl ?_
          refine eg_Vf1 cs_X2_111 dX2_passDay_38 (c_X2_goesAlong hb hp1 (dayIt_p hv hs (i + 1).toNat (by omega)).1 h0 (by rw [e31]; omega)) (by first | exact ep0 hb | exact ep7 hb | exact ep11 hb | exact ep5 hb | rfl) rfl (Nat.le_of_ble_eq_true rfl) (by decide) ?_
          refine eg_bi_ne 48 dX2_passDay_41 rfl (fun h41 => ?_) (fun h41 => ?_)
          · refine eg_iconst dX2_passDay_48 ?_
            exact J false (by symm; simp; omega)
          · refine eg_iconst dX2_passDay_44 ?_
            refine eg_goto 49 dX2_passDay_45 rfl ?_
            exact J true (by symm; simp; omega)
  refine eg_iconst dX2_passDay_0 ?_
  refine eg_istore_n dX2_passDay_1 rfl rfl rfl ?_
  refine eg_iconst dX2_passDay_2 ?_
  refine eg_istore_n dX2_passDay_3 rfl rfl rfl ?_
  exact L1 17 0 z _ (by omega) (by omega) hp Md.rf rfl (by omega)
