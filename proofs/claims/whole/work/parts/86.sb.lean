theorem va_uu {α : Type} {M : Nat → α} {a : Nat} {x y : α} : va_up (va_up M a x) a y = va_up M a y := by
  funext q
  by_cases h : q = a
  · subst h; rw [va_up_s, va_up_s]
  · rw [va_up_n _ _ h, va_up_n _ _ h, va_up_n _ _ h]
theorem c_getChars {k : eg_K} {M : eg_M} {n a cap E : Nat} {x : Int} {f : Nat → Int} (hx : 0 ≤ x ∧ x ≤ 9999) (hA : M a = some (aB k cap f)) (hE : (ndF 3 x).length ≤ E) (hc : E ≤ cap) (hb : cap ≤ 65536) : eg_P k gJ6_getChars_ba4f3 0 0 0 [vI x, vI (E : Int), vR k a] n (M) (fun r n' M' => ∃ w, r = some (vI w) ∧ n' = n ∧ ∃ f', M' = va_up M a (some (aB k cap f')) ∧ ∀ j, f' j = if E - (ndF 3 x).length ≤ j ∧ j < E then (ndF 3 x).getD (j - (E - (ndF 3 x).length)) 0 else f j) := by
  refine eg_P.of (by decide) (Nat.le_of_ble_eq_true rfl) ?_
  show eg_E k gJ6_getChars_ba4f3 0 0 0 n (M) [vI x, vI (E : Int), vR k a, vU, vU, vU, vU] [] 0 _
  have hx1 := hx.1; have hx2 := hx.2
  rw [nd_l hx] at hE
  have hE1 : 1 ≤ E := by (repeat' split at hE) <;> omega
  have hE2 : 10 ≤ x → 2 ≤ E := fun h9 => by (repeat' split at hE) <;> omega
  have hE3 : 100 ≤ x → 3 ≤ E := fun h9 => by (repeat' split at hE) <;> omega
  have hE4 : 1000 ≤ x → 4 ≤ E := fun h9 => by (repeat' split at hE) <;> omega
  refine eg_iload_n dJ6_getChars_ba4f3_0 rfl ?_
  refine eg_istore dJ6_getChars_ba4f3_1 rfl rfl rfl ?_
  refine eg_iload_n dJ6_getChars_ba4f3_3 rfl ?_
  refine eg_if_ge 11 dJ6_getChars_ba4f3_4 ⟨by omega, by omega⟩ rfl (fun h4 => ?_) (fun h4 => absurd h4 (by omega))
  refine eg_iconst dJ6_getChars_ba4f3_11 ?_
  refine eg_istore dJ6_getChars_ba4f3_12 rfl rfl rfl ?_
  refine eg_iload dJ6_getChars_ba4f3_14 rfl ?_
  refine eg_if_ne 22 dJ6_getChars_ba4f3_16 ⟨by omega, by omega⟩ rfl (fun h16 => absurd h16 (by omega)) (fun h16 => ?_)
  refine eg_iload_n dJ6_getChars_ba4f3_19 rfl ?_
  refine eg_ineg dJ6_getChars_ba4f3_20 ?_
  refine eg_istore_n dJ6_getChars_ba4f3_21 rfl rfl rfl ?_
  refine eg_iload_n dJ6_getChars_ba4f3_22 rfl ?_
  refine eg_bipush dJ6_getChars_ba4f3_23 (by decide) ?_
  refine eg_icmp_gt 72 dJ6_getChars_ba4f3_25 ⟨by omega, by omega⟩ ⟨by omega, by omega⟩ rfl (fun h25 => ?_) (fun h25 => ?_)
  · refine eg_al_n dJ6_getChars_ba4f3_72 rfl rfl ?_
    refine eg_iinc dJ6_getChars_ba4f3_73 rfl rfl rfl ?_
    refine eg_iload dJ6_getChars_ba4f3_76 rfl ?_
    refine eg_gd1 fw_J6_83 dJ6_getChars_ba4f3_78 ?_
    refine eg_iload_n dJ6_getChars_ba4f3_81 rfl ?_
    refine eg_ineg dJ6_getChars_ba4f3_82 ?_
    refine eg_dg1 (by omega) (by omega) dJ6_getChars_ba4f3_83 ?_
    refine eg_bast dJ6_getChars_ba4f3_84 (by first | exact hA | exact va_up_s _ _ _) (by omega) (by omega) (by omega) (nb_n ⟨by omega, by omega⟩) ?_
    (first | refine eg_eqM va_uu ?_ | skip)
    refine eg_iload_n dJ6_getChars_ba4f3_85 rfl ?_
    refine eg_bipush dJ6_getChars_ba4f3_86 (by decide) ?_
    refine eg_icmp_ge 104 dJ6_getChars_ba4f3_88 ⟨by omega, by omega⟩ ⟨by omega, by omega⟩ rfl (fun h88 => ?_) (fun h88 => ?_)
    · refine eg_iload dJ6_getChars_ba4f3_104 rfl ?_
      refine eg_if_eq 118 dJ6_getChars_ba4f3_106 ⟨by omega, by omega⟩ rfl (fun h106 => ?_) (fun h106 => absurd h106 (by omega))
      refine eg_iload dJ6_getChars_ba4f3_118 rfl ?_
      refine eg_ireturn dJ6_getChars_ba4f3_120 rfl rfl ?_
      refine ⟨_, rfl, rfl, _, rfl, fun j => ?_⟩
      rw [nd_1 ⟨by omega, by omega⟩]
      simp only [va_up, List.length_cons, List.length_nil]
      by_cases e0 : j = E - 1
      · rw [if_pos (by omega), if_pos (by omega), show j - (E - 1) = 0 by omega]
        show _ = (48 + x % 10 : Int)
        omega
      rw [if_neg (by omega), if_neg (by omega)]
    · refine eg_al_n dJ6_getChars_ba4f3_91 rfl rfl ?_
      refine eg_iinc dJ6_getChars_ba4f3_92 rfl rfl rfl ?_
      refine eg_iload dJ6_getChars_ba4f3_95 rfl ?_
      refine eg_gd2 fw_J6_87 dJ6_getChars_ba4f3_97 ?_
      refine eg_iload_n dJ6_getChars_ba4f3_100 rfl ?_
      refine eg_ineg dJ6_getChars_ba4f3_101 ?_
      refine eg_dg2 (by omega) (by omega) dJ6_getChars_ba4f3_102 ?_
      refine eg_bast dJ6_getChars_ba4f3_103 (by first | exact hA | exact va_up_s _ _ _) (by omega) (by omega) (by omega) (nb_n ⟨by omega, by omega⟩) ?_
      (first | refine eg_eqM va_uu ?_ | skip)
      refine eg_iload dJ6_getChars_ba4f3_104 rfl ?_
      refine eg_if_eq 118 dJ6_getChars_ba4f3_106 ⟨by omega, by omega⟩ rfl (fun h106 => ?_) (fun h106 => absurd h106 (by omega))
      refine eg_iload dJ6_getChars_ba4f3_118 rfl ?_
      refine eg_ireturn dJ6_getChars_ba4f3_120 rfl rfl ?_
      refine ⟨_, rfl, rfl, _, rfl, fun j => ?_⟩
      rw [nd_2 ⟨by omega, by omega⟩]
      simp only [va_up, List.length_cons, List.length_nil]
      by_cases e0 : j = E - 1
      · rw [if_neg (by omega), if_pos (by omega), if_pos (by omega), show j - (E - 2) = 1 by omega]
        show _ = (48 + x % 10 : Int)
        omega
      by_cases e1 : j = E - 2
      · rw [if_pos (by omega), if_pos (by omega), show j - (E - 2) = 0 by omega]
        show _ = (48 + x / 10 % 10 : Int)
        omega
      rw [if_neg (by omega), if_neg (by omega), if_neg (by omega)]
  · refine eg_iload_n dJ6_getChars_ba4f3_28 rfl ?_
    refine eg_bipush dJ6_getChars_ba4f3_29 (by decide) ?_
    refine eg_idivN dJ6_getChars_ba4f3_31 ⟨by omega, by omega⟩ ⟨by omega, by omega⟩ (by omega) (by omega) ?_
    refine eg_istore_n dJ6_getChars_ba4f3_32 rfl rfl rfl ?_
    refine eg_iload_n dJ6_getChars_ba4f3_33 rfl ?_
    refine eg_bipush dJ6_getChars_ba4f3_34 (by decide) ?_
    refine eg_imul dJ6_getChars_ba4f3_36 ?_
    refine eg_iload_n dJ6_getChars_ba4f3_37 rfl ?_
    refine eg_isub dJ6_getChars_ba4f3_38 ?_
    refine eg_istore dJ6_getChars_ba4f3_39 rfl rfl rfl ?_
    refine eg_iload_n dJ6_getChars_ba4f3_41 rfl ?_
    refine eg_istore_n dJ6_getChars_ba4f3_42 rfl rfl rfl ?_
    refine eg_al_n dJ6_getChars_ba4f3_43 rfl rfl ?_
    refine eg_iinc dJ6_getChars_ba4f3_44 rfl rfl rfl ?_
    refine eg_iload dJ6_getChars_ba4f3_47 rfl ?_
    refine eg_gd1 fw_J6_83 dJ6_getChars_ba4f3_49 ?_
    refine eg_iload dJ6_getChars_ba4f3_52 rfl ?_
    refine eg_dg1 (by omega) (by omega) dJ6_getChars_ba4f3_54 ?_
    refine eg_bast dJ6_getChars_ba4f3_55 (by first | exact hA | exact va_up_s _ _ _) (by omega) (by omega) (by omega) (nb_n ⟨by omega, by omega⟩) ?_
    (first | refine eg_eqM va_uu ?_ | skip)
    refine eg_al_n dJ6_getChars_ba4f3_56 rfl rfl ?_
    refine eg_iinc dJ6_getChars_ba4f3_57 rfl rfl rfl ?_
    refine eg_iload dJ6_getChars_ba4f3_60 rfl ?_
    refine eg_gd2 fw_J6_87 dJ6_getChars_ba4f3_62 ?_
    refine eg_iload dJ6_getChars_ba4f3_65 rfl ?_
    refine eg_dg2 (by omega) (by omega) dJ6_getChars_ba4f3_67 ?_
    refine eg_bast dJ6_getChars_ba4f3_68 (by first | exact hA | exact va_up_s _ _ _) (by omega) (by omega) (by omega) (nb_n ⟨by omega, by omega⟩) ?_
    (first | refine eg_eqM va_uu ?_ | skip)
    refine eg_goto 22 dJ6_getChars_ba4f3_69 rfl ?_
    refine eg_iload_n dJ6_getChars_ba4f3_22 rfl ?_
    refine eg_bipush dJ6_getChars_ba4f3_23 (by decide) ?_
    refine eg_icmp_gt 72 dJ6_getChars_ba4f3_25 ⟨by omega, by omega⟩ ⟨by omega, by omega⟩ rfl (fun h25 => ?_) (fun h25 => absurd h25 (by omega))
    refine eg_al_n dJ6_getChars_ba4f3_72 rfl rfl ?_
    refine eg_iinc dJ6_getChars_ba4f3_73 rfl rfl rfl ?_
    refine eg_iload dJ6_getChars_ba4f3_76 rfl ?_
    refine eg_gd1 fw_J6_83 dJ6_getChars_ba4f3_78 ?_
    refine eg_iload_n dJ6_getChars_ba4f3_81 rfl ?_
    refine eg_ineg dJ6_getChars_ba4f3_82 ?_
    refine eg_dg1 (by omega) (by omega) dJ6_getChars_ba4f3_83 ?_
    refine eg_bast dJ6_getChars_ba4f3_84 (by first | exact hA | exact va_up_s _ _ _) (by omega) (by omega) (by omega) (nb_n ⟨by omega, by omega⟩) ?_
    (first | refine eg_eqM va_uu ?_ | skip)
    refine eg_iload_n dJ6_getChars_ba4f3_85 rfl ?_
    refine eg_bipush dJ6_getChars_ba4f3_86 (by decide) ?_
    refine eg_icmp_ge 104 dJ6_getChars_ba4f3_88 ⟨by omega, by omega⟩ ⟨by omega, by omega⟩ rfl (fun h88 => ?_) (fun h88 => ?_)
    · refine eg_iload dJ6_getChars_ba4f3_104 rfl ?_
      refine eg_if_eq 118 dJ6_getChars_ba4f3_106 ⟨by omega, by omega⟩ rfl (fun h106 => ?_) (fun h106 => absurd h106 (by omega))
      refine eg_iload dJ6_getChars_ba4f3_118 rfl ?_
      refine eg_ireturn dJ6_getChars_ba4f3_120 rfl rfl ?_
      refine ⟨_, rfl, rfl, _, rfl, fun j => ?_⟩
      rw [nd_3 ⟨by omega, by omega⟩]
      simp only [va_up, List.length_cons, List.length_nil]
      by_cases e0 : j = E - 1
      · rw [if_neg (by omega), if_neg (by omega), if_pos (by omega), if_pos (by omega), show j - (E - 3) = 2 by omega]
        show _ = (48 + x % 10 : Int)
        omega
      by_cases e1 : j = E - 2
      · rw [if_neg (by omega), if_pos (by omega), if_pos (by omega), show j - (E - 3) = 1 by omega]
        show _ = (48 + x / 10 % 10 : Int)
        omega
      by_cases e2 : j = E - 3
      · rw [if_pos (by omega), if_pos (by omega), show j - (E - 3) = 0 by omega]
        show _ = (48 + x / 10 / 10 % 10 : Int)
        omega
      rw [if_neg (by omega), if_neg (by omega), if_neg (by omega), if_neg (by omega)]
    · refine eg_al_n dJ6_getChars_ba4f3_91 rfl rfl ?_
      refine eg_iinc dJ6_getChars_ba4f3_92 rfl rfl rfl ?_
      refine eg_iload dJ6_getChars_ba4f3_95 rfl ?_
      refine eg_gd2 fw_J6_87 dJ6_getChars_ba4f3_97 ?_
      refine eg_iload_n dJ6_getChars_ba4f3_100 rfl ?_
      refine eg_ineg dJ6_getChars_ba4f3_101 ?_
      refine eg_dg2 (by omega) (by omega) dJ6_getChars_ba4f3_102 ?_
      refine eg_bast dJ6_getChars_ba4f3_103 (by first | exact hA | exact va_up_s _ _ _) (by omega) (by omega) (by omega) (nb_n ⟨by omega, by omega⟩) ?_
      (first | refine eg_eqM va_uu ?_ | skip)
      refine eg_iload dJ6_getChars_ba4f3_104 rfl ?_
      refine eg_if_eq 118 dJ6_getChars_ba4f3_106 ⟨by omega, by omega⟩ rfl (fun h106 => ?_) (fun h106 => absurd h106 (by omega))
      refine eg_iload dJ6_getChars_ba4f3_118 rfl ?_
      refine eg_ireturn dJ6_getChars_ba4f3_120 rfl rfl ?_
      refine ⟨_, rfl, rfl, _, rfl, fun j => ?_⟩
      rw [nd_4 ⟨by omega, by omega⟩]
      simp only [va_up, List.length_cons, List.length_nil]
      by_cases e0 : j = E - 1
      · rw [if_neg (by omega), if_neg (by omega), if_neg (by omega), if_pos (by omega), if_pos (by omega), show j - (E - 4) = 3 by omega]
        show _ = (48 + x % 10 : Int)
        omega
      by_cases e1 : j = E - 2
      · rw [if_neg (by omega), if_neg (by omega), if_pos (by omega), if_pos (by omega), show j - (E - 4) = 2 by omega]
        show _ = (48 + x / 10 % 10 : Int)
        omega
      by_cases e2 : j = E - 3
      · rw [if_neg (by omega), if_pos (by omega), if_pos (by omega), show j - (E - 4) = 1 by omega]
        show _ = (48 + x / 10 / 10 % 10 : Int)
        omega
      by_cases e3 : j = E - 4
      · rw [if_pos (by omega), if_pos (by omega), show j - (E - 4) = 0 by omega]
        show _ = (48 + x / 10 / 10 / 10 % 10 : Int)
        omega
      rw [if_neg (by omega), if_neg (by omega), if_neg (by omega), if_neg (by omega), if_neg (by omega)]
theorem nd_c {x : Int} {j : Nat} (h : 0 ≤ x ∧ x ≤ 9999) : 0 ≤ (ndF 3 x).getD j 0 ∧ (ndF 3 x).getD j 0 < 128 := by
  have key : ∀ l : List Int, (∀ y ∈ l, 0 ≤ y ∧ y < 128) → 0 ≤ l.getD j 0 ∧ l.getD j 0 < 128 := fun l hl => by
    rw [List.getD_eq_getElem?_getD]
    cases e : l[j]? with
    | none => exact ⟨by decide, by decide⟩
    | some y => exact hl y (List.mem_of_getElem? e)
  refine key _ (fun y hy => ?_)
  have g : ∀ (m : Nat) (x : Int), 0 ≤ x → ∀ y ∈ ndF m x, 0 ≤ y ∧ y < 128 := by
    intro m
    induction m with
    | zero => intro x h0 y hy; rw [List.mem_singleton.mp hy]; omega
    | succ m ih =>
      intro x h0 y hy
      rcases List.mem_append.mp hy with h1 | h1
      · split at h1
        · exact ih _ (by omega) y h1
        · cases h1
      · rw [List.mem_singleton.mp h1]; omega
  exact g 3 x h.1 y hy
theorem c_apI5 {k : eg_K} {z : eg_Z} {X : eg_M} {n : Nat} {T : List Int} {g : Nat} {x : Int} (hS : SB k z X n T g) (hx : 0 ≤ x ∧ x ≤ 9999) (h2 : gI g (T.length + (ndF 3 x).length) ≤ 6) : eg_P k gJ5_append_c97b9 4 (gI g (T.length + (ndF 3 x).length) - g) (slG (gI g (T.length + (ndF 3 x).length)) - slG g) [vR k 197, vI x] n (enc k z X) (eg_b k (some (vR k 197)) (fun n' z' X' => (∀ c, c ≠ 197 → z' c = z c) ∧ SB k z' X' n' (T ++ ndF 3 x) (gI g (T.length + (ndF 3 x).length)))) := by
  refine eg_P.of (by decide) (Nat.le_of_ble_eq_true rfl) ?_
  show eg_E k gJ5_append_c97b9 4 (gI g (T.length + (ndF 3 x).length) - g) (slG (gI g (T.length + (ndF 3 x).length)) - slG g) n (enc k z X) [vR k 197, vI x, vU, vU] [] 0 _
  have hct := hS.2.2.2.2.2.1
  have hl0 := hS.2.2.2.2.1
  have t8 := nd_len 3 x
  have cb0 := cpG_b hS.2.2.2.1
  refine eg_al_n dJ5_append_c97b9_0 rfl rfl ?_
  refine eg_get fl_J5_79 dJ5_append_c97b9_1 (by exact er197) rfl ?_
  refine eg_eqI hct ?_
  refine eg_istore_n dJ5_append_c97b9_4 rfl rfl rfl ?_
  refine eg_iload_n dJ5_append_c97b9_5 rfl ?_
  refine eg_iload_n dJ5_append_c97b9_6 rfl ?_
  refine eg_Sf1 cs_J5_245 dJ5_append_c97b9_7 (c_strSize hx) (Nat.le_of_ble_eq_true rfl) (by decide) ?_
  refine eg_iadd dJ5_append_c97b9_10 ?_
  refine eg_eqI (y := (((T.length + (ndF 3 x).length) : Nat) : Int)) (by omega) ?_
  refine eg_istore_n dJ5_append_c97b9_11 rfl rfl rfl ?_
  refine eg_al_n dJ5_append_c97b9_12 rfl rfl ?_
  refine eg_iload_n dJ5_append_c97b9_13 rfl ?_
  refine eg_Ub1 (bc' := 0) (bs' := 0) cs_J5_100 dJ5_append_c97b9_14 (c_ensure (N := (T.length + (ndF 3 x).length)) hS (by omega) h2) er197 (Nat.le_of_ble_eq_true rfl) (by decide) rfl rfl ?_
  rintro n1 z1 X1 ⟨fr1, hS1⟩
  obtain ⟨hva, hvn, hn, hg, hl, hct1, f, hX, hf, hfT⟩ := id hS1
  have hA : enc k z1 X1 (z1 197 0).toNat = some (aB k (cpG (gI g (T.length + (ndF 3 x).length))) f) := (enc_x hva).trans hX
  have cb := cpG_b hg
  have h5 : (T.length + (ndF 3 x).length) ≤ cpG (gI g (T.length + (ndF 3 x).length)) := gI_le (by omega)
  refine eg_al_n dJ5_append_c97b9_17 rfl rfl ?_
  refine eg_Ug0 cs_J5_83 dJ5_append_c97b9_18 c_bLatin er197 (Nat.le_of_ble_eq_true rfl) (by decide) ?_
  refine eg_if_eq 37 dJ5_append_c97b9_21 ⟨by omega, by omega⟩ rfl (fun h21 => absurd h21 (by decide)) (fun h21 => ?_)
  refine eg_iload_n dJ5_append_c97b9_24 rfl ?_
  refine eg_iload_n dJ5_append_c97b9_25 rfl ?_
  refine eg_al_n dJ5_append_c97b9_26 rfl rfl ?_
  refine eg_get fl_J5_15 dJ5_append_c97b9_27 (by exact er197) rfl ?_
  refine eg_cS (As := [vI x, vI (((T.length + (ndF 3 x).length) : Nat) : Int), vR k (z1 197 0).toNat]) cs_J5_248 dJ5_append_c97b9_30 (c_getChars hx hA (by omega) h5 (by omega)) rfl (Nat.le_of_ble_eq_true rfl) (by decide) (Nat.zero_add _).symm (Nat.zero_add _).symm ?_
  rintro _ _ _ ⟨w9, rfl, rfl, f', rfl, hf'⟩
  rw [enc_xs hva]
  refine eg_pop dJ5_append_c97b9_33 rfl ?_
  refine eg_goto 48 dJ5_append_c97b9_34 rfl ?_
  refine eg_al_n dJ5_append_c97b9_48 rfl rfl ?_
  refine eg_iload_n dJ5_append_c97b9_49 rfl ?_
  refine eg_put fl_J5_79 dJ5_append_c97b9_50 (by exact er197) rfl rfl rfl rfl ?_
  refine eg_eqM es197_3 ?_
  refine eg_al_n dJ5_append_c97b9_53 rfl rfl ?_
  refine eg_aret dJ5_append_c97b9_54 rfl rfl (Or.inl ⟨_, rfl⟩) ?_
  refine ⟨rfl, _, _, rfl, fun c hc => by rw [va_up_n _ _ hc]; exact fr1 c hc, ?_⟩
  have e0 : va_up z1 197 (va_up (z1 197) 3 (((T.length + (ndF 3 x).length) : Nat) : Int)) 197 0 = z1 197 0 := by rw [va_up_s, va_up_n _ _ (by decide)]
  unfold SB
  rw [e0]
  refine ⟨hva, hvn, hn, hg, by rw [List.length_append]; exact h5, by rw [va_up_s, va_up_s, List.length_append], f', va_up_s _ _ _, fun j hj => ?_, fun j hj => ?_⟩
  · rw [hf']; split
    · exact nd_c hx
    · exact hf j hj
  · rw [List.length_append] at hj
    rw [hf', show T.length + (ndF 3 x).length - (ndF 3 x).length = T.length by omega]
    by_cases c9 : j < T.length
    · rw [if_neg (by omega), gD_l c9]; exact hfT j c9
    · rw [if_pos (by omega), List.getD_eq_getElem?_getD, List.getD_eq_getElem?_getD, List.getElem?_append_right (by omega)]
theorem c_apI {k : eg_K} {z : eg_Z} {X : eg_M} {n : Nat} {T : List Int} {g : Nat} {x : Int} (hS : SB k z X n T g) (hx : 0 ≤ x ∧ x ≤ 9999) (h2 : gI g (T.length + (ndF 3 x).length) ≤ 6) : eg_P k gJ4_append_bf812 5 (gI g (T.length + (ndF 3 x).length) - g) (slG (gI g (T.length + (ndF 3 x).length)) - slG g) [vR k 197, vI x] n (enc k z X) (eg_b k (some (vR k 197)) (fun n' z' X' => (∀ c, c ≠ 197 → z' c = z c) ∧ SB k z' X' n' (T ++ ndF 3 x) (gI g (T.length + (ndF 3 x).length)))) := by
  refine eg_P.of (by decide) (Nat.le_of_ble_eq_true rfl) ?_
  show eg_E k gJ4_append_bf812 5 (gI g (T.length + (ndF 3 x).length) - g) (slG (gI g (T.length + (ndF 3 x).length)) - slG g) n (enc k z X) [vR k 197, vI x] [] 0 _
  refine eg_al_n dJ4_append_bf812_0 rfl rfl ?_
  refine eg_iload_n dJ4_append_bf812_1 rfl ?_
  refine eg_Pb1 (bc' := 0) (bs' := 0) cs_J4_53 dJ4_append_bf812_2 (c_apI5 hS hx h2) er197 (Nat.le_of_ble_eq_true rfl) (by decide) rfl rfl ?_
  rintro n1 z1 X1 hP
  refine eg_pop dJ4_append_bf812_5 rfl ?_
  refine eg_al_n dJ4_append_bf812_6 rfl rfl ?_
  refine eg_aret dJ4_append_bf812_7 rfl rfl (Or.inl ⟨_, rfl⟩) ?_
  exact ⟨rfl, z1, X1, rfl, hP⟩
theorem c_canEnc {k : eg_K} {M : eg_M} {n : Nat} {x : Int} (hx : 0 ≤ x ∧ x < 128) : eg_P k gJ1_canEncode_fc78d 0 0 0 [vI x] n (M) (eg_f (some (vI 1)) n M) := by
  refine eg_P.of (by decide) (Nat.le_of_ble_eq_true rfl) ?_
  show eg_E k gJ1_canEncode_fc78d 0 0 0 n (M) [vI x] [] 0 _
  have hx1 := hx.1; have hx2 := hx.2
  refine eg_iload_n dJ1_canEncode_fc78d_0 rfl ?_
  refine eg_sipush dJ1_canEncode_fc78d_1 (by decide) ?_
  refine eg_icmp_gt 11 dJ1_canEncode_fc78d_4 ⟨by omega, by omega⟩ ⟨by omega, by omega⟩ rfl (fun h4 => absurd h4 (by omega)) (fun h4 => ?_)
  refine eg_iconst dJ1_canEncode_fc78d_7 ?_
  refine eg_goto 12 dJ1_canEncode_fc78d_8 rfl ?_
  refine eg_ireturn dJ1_canEncode_fc78d_12 rfl rfl ?_
  exact ⟨congrArg (fun q => some (vI q)) (by first | rfl | (unfold bi; split <;> omega) | omega), rfl, rfl⟩
theorem c_apC5 {k : eg_K} {z : eg_Z} {X : eg_M} {n : Nat} {T : List Int} {g : Nat} {x : Int} (hS : SB k z X n T g) (hx : 0 ≤ x ∧ x < 128) (h2 : gI g (T.length + 1) ≤ 6) : eg_P k gJ5_append_3fe6f 4 (gI g (T.length + 1) - g) (slG (gI g (T.length + 1)) - slG g) [vR k 197, vI x] n (enc k z X) (eg_b k (some (vR k 197)) (fun n' z' X' => (∀ c, c ≠ 197 → z' c = z c) ∧ SB k z' X' n' (T ++ [x]) (gI g (T.length + 1)))) := by
  refine eg_P.of (by decide) (Nat.le_of_ble_eq_true rfl) ?_
  show eg_E k gJ5_append_3fe6f 4 (gI g (T.length + 1) - g) (slG (gI g (T.length + 1)) - slG g) n (enc k z X) [vR k 197, vI x] [] 0 _
  have hct := hS.2.2.2.2.2.1
  have hl0 := hS.2.2.2.2.1
  have hx1 := hx.1; have hx2 := hx.2
  have cb0 := cpG_b hS.2.2.2.1
  refine eg_al_n dJ5_append_3fe6f_0 rfl rfl ?_
  refine eg_al_n dJ5_append_3fe6f_1 rfl rfl ?_
  refine eg_get fl_J5_79 dJ5_append_3fe6f_2 (by first | exact er197 | exact hA2) rfl ?_
  refine eg_iconst dJ5_append_3fe6f_5 ?_
  refine eg_iadd dJ5_append_3fe6f_6 ?_
  refine eg_eqI (y := (((T.length + 1) : Nat) : Int)) (by rw [hct]; omega) ?_
  refine eg_Ub1 (bc' := 0) (bs' := 0) cs_J5_100 dJ5_append_3fe6f_7 (c_ensure (N := (T.length + 1)) hS (by omega) h2) er197 (Nat.le_of_ble_eq_true rfl) (by decide) rfl rfl ?_
  rintro n1 z1 X1 ⟨fr1, hS1⟩
  obtain ⟨hva, hvn, hn, hg, hl, hct1, f, hX, hf, hfT⟩ := id hS1
  have hA : enc k z1 X1 (z1 197 0).toNat = some (aB k (cpG (gI g (T.length + 1))) f) := (enc_x hva).trans hX
  have cb := cpG_b hg
  have h5 : (T.length + 1) ≤ cpG (gI g (T.length + 1)) := gI_le (by omega)
  have hA2 : enc k (va_up z1 197 (va_up (z1 197) 3 ((T.length : Int) + 1))) X1 (z1 197 0).toNat = some (aB k (cpG (gI g (T.length + 1))) f) := (enc_x hva).trans hX
  refine eg_al_n dJ5_append_3fe6f_10 rfl rfl ?_
  refine eg_Ug0 cs_J5_83 dJ5_append_3fe6f_11 c_bLatin er197 (Nat.le_of_ble_eq_true rfl) (by decide) ?_
  refine eg_if_eq 45 dJ5_append_3fe6f_14 ⟨by omega, by omega⟩ rfl (fun h14 => absurd h14 (by decide)) (fun h14 => ?_)
  refine eg_iload_n dJ5_append_3fe6f_17 rfl ?_
  refine eg_Sf1 cs_J5_191 dJ5_append_3fe6f_18 (c_canEnc hx) (Nat.le_of_ble_eq_true rfl) (by decide) ?_
  refine eg_if_eq 45 dJ5_append_3fe6f_21 ⟨by omega, by omega⟩ rfl (fun h21 => absurd h21 (by decide)) (fun h21 => ?_)
  refine eg_al_n dJ5_append_3fe6f_24 rfl rfl ?_
  refine eg_get fl_J5_15 dJ5_append_3fe6f_25 (by first | exact er197 | exact hA2) rfl ?_
  refine eg_al_n dJ5_append_3fe6f_28 rfl rfl ?_
  refine eg_dup dJ5_append_3fe6f_29 rfl ?_
  refine eg_get fl_J5_79 dJ5_append_3fe6f_30 (by first | exact er197 | exact hA2) rfl ?_
  refine eg_eqI hct1 ?_
  refine eg_dup_x1 dJ5_append_3fe6f_33 rfl rfl ?_
  refine eg_iconst dJ5_append_3fe6f_34 ?_
  refine eg_iadd dJ5_append_3fe6f_35 ?_
  refine eg_put fl_J5_79 dJ5_append_3fe6f_36 (by first | exact er197 | exact hA2) rfl rfl rfl rfl ?_
  refine eg_eqM es197_3 ?_
  refine eg_iload_n dJ5_append_3fe6f_39 rfl ?_
  refine eg_i2b dJ5_append_3fe6f_40 ?_
  refine eg_eqI (y := x) (Int.bmod_eq_of_le (by omega) (by omega)) ?_
  refine eg_bast dJ5_append_3fe6f_41 (by first | exact er197 | exact hA2) (by omega) (by omega) (by omega) (nb_n hx) ?_
  rw [enc_xs hva]
  refine eg_goto 75 dJ5_append_3fe6f_42 rfl ?_
  refine eg_al_n dJ5_append_3fe6f_75 rfl rfl ?_
  refine eg_aret dJ5_append_3fe6f_76 rfl rfl (Or.inl ⟨_, rfl⟩) ?_
  refine ⟨rfl, _, _, rfl, fun c hc => by rw [va_up_n _ _ hc]; exact fr1 c hc, ?_⟩
  have e0 : (va_up z1 197 (va_up (z1 197) 3 ((T.length : Int) + 1))) 197 0 = z1 197 0 := by rw [va_up_s, va_up_n _ _ (by decide)]
  unfold SB
  rw [e0]
  refine ⟨hva, hvn, hn, hg, by rw [List.length_append]; exact h5, by rw [va_up_s, va_up_s, List.length_append]; rfl, _, va_up_s _ _ _, fun j hj => ?_, fun j hj => ?_⟩
  · rw [Int.toNat_natCast]
    by_cases c9 : j = T.length
    · rw [c9, va_up_s]; exact hx
    · rw [va_up_n _ _ c9]; exact hf j hj
  · rw [Int.toNat_natCast]
    rw [List.length_append] at hj
    have hj : j < T.length + 1 := hj
    by_cases c9 : j = T.length
    · rw [c9, va_up_s, gD_r]
    · rw [va_up_n _ _ c9, gD_l (show j < T.length by omega)]; exact hfT j (by omega)
theorem c_apC {k : eg_K} {z : eg_Z} {X : eg_M} {n : Nat} {T : List Int} {g : Nat} {x : Int} (hS : SB k z X n T g) (hx : 0 ≤ x ∧ x < 128) (h2 : gI g (T.length + 1) ≤ 6) : eg_P k gJ4_append_cf468 5 (gI g (T.length + 1) - g) (slG (gI g (T.length + 1)) - slG g) [vR k 197, vI x] n (enc k z X) (eg_b k (some (vR k 197)) (fun n' z' X' => (∀ c, c ≠ 197 → z' c = z c) ∧ SB k z' X' n' (T ++ [x]) (gI g (T.length + 1)))) := by
  refine eg_P.of (by decide) (Nat.le_of_ble_eq_true rfl) ?_
  show eg_E k gJ4_append_cf468 5 (gI g (T.length + 1) - g) (slG (gI g (T.length + 1)) - slG g) n (enc k z X) [vR k 197, vI x] [] 0 _
  refine eg_al_n dJ4_append_cf468_0 rfl rfl ?_
  refine eg_iload_n dJ4_append_cf468_1 rfl ?_
  refine eg_Pb1 (bc' := 0) (bs' := 0) cs_J4_50 dJ4_append_cf468_2 (c_apC5 hS hx h2) er197 (Nat.le_of_ble_eq_true rfl) (by decide) rfl rfl ?_
  rintro n1 z1 X1 hP
  refine eg_pop dJ4_append_cf468_5 rfl ?_
  refine eg_al_n dJ4_append_cf468_6 rfl rfl ?_
  refine eg_aret dJ4_append_cf468_7 rfl rfl (Or.inl ⟨_, rfl⟩) ?_
  exact ⟨rfl, z1, X1, rfl, hP⟩
theorem c_sbLen5 {k : eg_K} {z : eg_Z} {X : eg_M} {n : Nat} {T : List Int} {g : Nat} (hS : SB k z X n T g) : eg_P k gJ5_length_8abf5 0 0 0 [vR k 197] n (enc k z X) (eg_f (some (vI (T.length : Int))) n (enc k z X)) := by
  refine eg_P.of (by decide) (Nat.le_of_ble_eq_true rfl) ?_
  show eg_E k gJ5_length_8abf5 0 0 0 n (enc k z X) [vR k 197] [] 0 _
  have hct := hS.2.2.2.2.2.1
  refine eg_al_n dJ5_length_8abf5_0 rfl rfl ?_
  refine eg_get fl_J5_79 dJ5_length_8abf5_1 (by exact er197) rfl ?_
  refine eg_eqI hct ?_
  refine eg_ireturn dJ5_length_8abf5_4 rfl rfl ?_
  exact ⟨rfl, rfl, rfl⟩
theorem c_sbLen {k : eg_K} {z : eg_Z} {X : eg_M} {n : Nat} {T : List Int} {g : Nat} (hS : SB k z X n T g) : eg_P k gJ4_length_8abf5 1 0 0 [vR k 197] n (enc k z X) (eg_f (some (vI (T.length : Int))) n (enc k z X)) := by
  refine eg_P.of (by decide) (Nat.le_of_ble_eq_true rfl) ?_
  show eg_E k gJ4_length_8abf5 1 0 0 n (enc k z X) [vR k 197] [] 0 _
  refine eg_al_n dJ4_length_8abf5_0 rfl rfl ?_
  refine eg_Pg0 cs_J4_343 dJ4_length_8abf5_1 (c_sbLen5 hS) er197 (Nat.le_of_ble_eq_true rfl) (by decide) ?_
  refine eg_ireturn dJ4_length_8abf5_4 rfl rfl ?_
  exact ⟨rfl, rfl, rfl⟩
theorem c_sbAt5 {k : eg_K} {z : eg_Z} {X : eg_M} {n : Nat} {T : List Int} {g : Nat} (hS : SB k z X n T g) {x : Int} (h0 : 0 ≤ x) (h1 : x < T.length) : eg_P k gJ5_charAt_5068e 3 0 0 [vR k 197, vI x] n (enc k z X) (eg_f (some (vI (T.getD x.toNat 0))) n (enc k z X)) := by
  refine eg_P.of (by decide) (Nat.le_of_ble_eq_true rfl) ?_
  show eg_E k gJ5_charAt_5068e 3 0 0 n (enc k z X) [vR k 197, vI x, vU, vU, vU] [] 0 _
  obtain ⟨hva, hvn, hn, hg, hl, hct, f, hX, hf, hfT⟩ := id hS
  have hA : enc k z X (z 197 0).toNat = some (aB k (cpG g) f) := (enc_x hva).trans hX
  have cb := cpG_b hg
  have fb := hf x.toNat (by omega)
  have fe := hfT x.toNat (by omega)
  rw [fe] at fb
  refine eg_al_n dJ5_charAt_5068e_0 rfl rfl ?_
  refine eg_get fl_J5_22 dJ5_charAt_5068e_1 (by first | exact er197 | exact hA) rfl ?_
  refine eg_istore_n dJ5_charAt_5068e_4 rfl rfl rfl ?_
  refine eg_al_n dJ5_charAt_5068e_5 rfl rfl ?_
  refine eg_get fl_J5_15 dJ5_charAt_5068e_6 (by first | exact er197 | exact hA) rfl ?_
  refine eg_as_n dJ5_charAt_5068e_9 rfl rfl rfl rfl ?_
  refine eg_al_n dJ5_charAt_5068e_10 rfl rfl ?_
  refine eg_get fl_J5_79 dJ5_charAt_5068e_11 (by first | exact er197 | exact hA) rfl ?_
  refine eg_eqI hct ?_
  refine eg_al_n dJ5_charAt_5068e_14 rfl rfl ?_
  refine eg_lenB dJ5_charAt_5068e_15 (by first | exact er197 | exact hA) ?_
  refine eg_iload_n dJ5_charAt_5068e_16 rfl ?_
  refine eg_ishr (j := 0) dJ5_charAt_5068e_17 ⟨by omega, by omega⟩ (by decide) ?_
  refine eg_eqI (y := (cpG g : Int)) (by rw [Int.pow_zero]; omega) ?_
  refine eg_mmin cs_J5_138 dJ5_charAt_5068e_18 ⟨by omega, by omega⟩ ⟨by omega, by omega⟩ (Nat.le_of_ble_eq_true rfl) (by decide) ?_
  refine eg_istore dJ5_charAt_5068e_21 rfl rfl rfl ?_
  refine eg_iload_n dJ5_charAt_5068e_23 rfl ?_
  refine eg_iload dJ5_charAt_5068e_24 rfl ?_
  refine eg_Sv2 cs_J5_144 dJ5_charAt_5068e_26 (c_checkIndex h0 (by split <;> omega) (by split <;> omega)) (Nat.le_of_ble_eq_true rfl) (by decide) ?_
  refine eg_iload_n dJ5_charAt_5068e_29 rfl ?_
  refine eg_if_ne 42 dJ5_charAt_5068e_30 ⟨by omega, by omega⟩ rfl (fun h30 => absurd h30 (by omega)) (fun h30 => ?_)
  refine eg_al_n dJ5_charAt_5068e_33 rfl rfl ?_
  refine eg_iload_n dJ5_charAt_5068e_34 rfl ?_
  refine eg_bald dJ5_charAt_5068e_35 (by first | exact er197 | exact hA) (by omega) (by omega) (by omega) ?_
  refine eg_sipush dJ5_charAt_5068e_36 (by decide) ?_
  refine eg_andM 8 dJ5_charAt_5068e_39 (by decide) (by decide) ?_
  refine eg_eqI (y := T.getD x.toNat 0) (by rw [fe]; omega) ?_
  refine eg_i2c dJ5_charAt_5068e_40 (by omega) (by omega) ?_
  refine eg_ireturn dJ5_charAt_5068e_41 rfl (nar_c (by omega) (by omega)) ?_
  exact ⟨rfl, rfl, rfl⟩
theorem c_sbAt {k : eg_K} {z : eg_Z} {X : eg_M} {n : Nat} {T : List Int} {g : Nat} (hS : SB k z X n T g) {x : Int} (h0 : 0 ≤ x) (h1 : x < T.length) : eg_P k gJ4_charAt_5068e 4 0 0 [vR k 197, vI x] n (enc k z X) (eg_f (some (vI (T.getD x.toNat 0))) n (enc k z X)) := by
  refine eg_P.of (by decide) (Nat.le_of_ble_eq_true rfl) ?_
  show eg_E k gJ4_charAt_5068e 4 0 0 n (enc k z X) [vR k 197, vI x] [] 0 _
  obtain ⟨hva, hvn, hn, hg, hl, hct, f, hX, hf, hfT⟩ := id hS
  have fb := hf x.toNat (by omega)
  have fe := hfT x.toNat (by omega)
  rw [fe] at fb
  refine eg_al_n dJ4_charAt_5068e_0 rfl rfl ?_
  refine eg_iload_n dJ4_charAt_5068e_1 rfl ?_
  refine eg_Pg1 cs_J4_329 dJ4_charAt_5068e_2 (c_sbAt5 hS h0 h1) er197 (Nat.le_of_ble_eq_true rfl) (by decide) ?_
  refine eg_ireturn dJ4_charAt_5068e_5 rfl (nar_c (by omega) (by omega)) ?_
  exact ⟨rfl, rfl, rfl⟩
theorem c_setLen5 {k : eg_K} {z : eg_Z} {X : eg_M} {n : Nat} {T : List Int} {g : Nat} (hS : SB k z X n T g) : eg_P k gJ5_setLength_d00df 4 0 0 [vR k 197, vI 0] n (enc k z X) (eg_b k none (fun n' z' X' => (∀ c, c ≠ 197 → z' c = z c) ∧ SB k z' X' n' [] g)) := by
  refine eg_P.of (by decide) (Nat.le_of_ble_eq_true rfl) ?_
  show eg_E k gJ5_setLength_d00df 4 0 0 n (enc k z X) [vR k 197, vI 0] [] 0 _
  have cb0 := cpG_b hS.2.2.2.1
  have s9 := c_ensure (k := k) (N := 0) hS (by omega) (by rw [show gI g 0 = g from if_pos (Nat.zero_le _)]; exact hS.2.2.2.1)
  rw [show gI g 0 = g from if_pos (Nat.zero_le _), Nat.sub_self, Nat.sub_self] at s9
  refine eg_iload_n dJ5_setLength_d00df_0 rfl ?_
  refine eg_if_ge 13 dJ5_setLength_d00df_1 ⟨by omega, by omega⟩ rfl (fun h1 => ?_) (fun h1 => absurd h1 (by omega))
  refine eg_al_n dJ5_setLength_d00df_13 rfl rfl ?_
  refine eg_iload_n dJ5_setLength_d00df_14 rfl ?_
  refine eg_Ub1 (mc := 0) (ms := 0) (bc' := 0) (bs' := 0) cs_J5_100 dJ5_setLength_d00df_15 s9 er197 (Nat.le_of_ble_eq_true rfl) (by decide) rfl rfl ?_
  rintro n1 z1 X1 ⟨fr1, hS1⟩
  obtain ⟨hva, hvn, hn, hg, hl, hct1, f, hX, hf, hfT⟩ := id hS1
  refine eg_al_n dJ5_setLength_d00df_18 rfl rfl ?_
  refine eg_get fl_J5_79 dJ5_setLength_d00df_19 (by exact er197) rfl ?_
  refine eg_eqI hct1 ?_
  refine eg_iload_n dJ5_setLength_d00df_22 rfl ?_
  refine eg_icmp_ge 63 dJ5_setLength_d00df_23 ⟨by omega, by omega⟩ ⟨by omega, by omega⟩ rfl (fun h23 => ?_) (fun h23 => absurd h23 (by omega))
  refine eg_al_n dJ5_setLength_d00df_63 rfl rfl ?_
  refine eg_get fl_J5_79 dJ5_setLength_d00df_64 (by exact er197) rfl ?_
  refine eg_eqI hct1 ?_
  refine eg_iload_n dJ5_setLength_d00df_67 rfl ?_
  refine eg_icmp_le 76 dJ5_setLength_d00df_68 ⟨by omega, by omega⟩ ⟨by omega, by omega⟩ rfl (fun h68 => ?_) (fun h68 => ?_)
  · refine eg_al_n dJ5_setLength_d00df_76 rfl rfl ?_
    refine eg_iload_n dJ5_setLength_d00df_77 rfl ?_
    refine eg_put fl_J5_79 dJ5_setLength_d00df_78 (by exact er197) rfl rfl rfl rfl ?_
    refine eg_eqM es197_3 ?_
    refine eg_return dJ5_setLength_d00df_81 rfl ?_
    have e0 : (va_up z1 197 (va_up (z1 197) 3 0)) 197 0 = z1 197 0 := by rw [va_up_s, va_up_n _ _ (by decide)]
    have e3 : (va_up z1 197 (va_up (z1 197) 3 0)) 197 3 = (([] : List Int).length : Int) := by rw [va_up_s, va_up_s]; rfl
    refine ⟨rfl, _, _, rfl, fun c hc => by rw [va_up_n _ _ hc]; exact fr1 c hc, ?_⟩
    unfold SB
    rw [e0]
    refine ⟨hva, hvn, hn, hg, Nat.zero_le _, e3, f, hX, hf, fun j hj => absurd hj (Nat.not_lt_zero j)⟩
  · refine eg_al_n dJ5_setLength_d00df_71 rfl rfl ?_
    refine eg_iconst dJ5_setLength_d00df_72 ?_
    refine eg_put fl_J5_73 dJ5_setLength_d00df_73 (by exact er197) rfl rfl rfl rfl ?_
    refine eg_eqM es197_2 ?_
    refine eg_al_n dJ5_setLength_d00df_76 rfl rfl ?_
    refine eg_iload_n dJ5_setLength_d00df_77 rfl ?_
    refine eg_put fl_J5_79 dJ5_setLength_d00df_78 (by exact er197) rfl rfl rfl rfl ?_
    refine eg_eqM es197_3 ?_
    refine eg_return dJ5_setLength_d00df_81 rfl ?_
    have e0 : (va_up (va_up z1 197 (va_up (z1 197) 2 1)) 197 (va_up ((va_up z1 197 (va_up (z1 197) 2 1)) 197) 3 0)) 197 0 = z1 197 0 := by rw [va_up_s, va_up_n _ _ (by decide), va_up_s, va_up_n _ _ (by decide)]
    have e3 : (va_up (va_up z1 197 (va_up (z1 197) 2 1)) 197 (va_up ((va_up z1 197 (va_up (z1 197) 2 1)) 197) 3 0)) 197 3 = (([] : List Int).length : Int) := by rw [va_up_s, va_up_s]; rfl
    refine ⟨rfl, _, _, rfl, fun c hc => by rw [va_up_n _ _ hc, va_up_n _ _ hc]; exact fr1 c hc, ?_⟩
    unfold SB
    rw [e0]
    refine ⟨hva, hvn, hn, hg, Nat.zero_le _, e3, f, hX, hf, fun j hj => absurd hj (Nat.not_lt_zero j)⟩
theorem c_setLen {k : eg_K} {z : eg_Z} {X : eg_M} {n : Nat} {T : List Int} {g : Nat} (hS : SB k z X n T g) : eg_P k gJ4_setLength_d00df 5 0 0 [vR k 197, vI 0] n (enc k z X) (eg_b k none (fun n' z' X' => (∀ c, c ≠ 197 → z' c = z c) ∧ SB k z' X' n' [] g)) := by
  refine eg_P.of (by decide) (Nat.le_of_ble_eq_true rfl) ?_
  show eg_E k gJ4_setLength_d00df 5 0 0 n (enc k z X) [vR k 197, vI 0] [] 0 _
  refine eg_al_n dJ4_setLength_d00df_0 rfl rfl ?_
  refine eg_iload_n dJ4_setLength_d00df_1 rfl ?_
  refine eg_Pb1 (mc := 0) (ms := 0) (bc' := 0) (bs' := 0) cs_J4_333 dJ4_setLength_d00df_2 (c_setLen5 hS) er197 (Nat.le_of_ble_eq_true rfl) (by decide) rfl rfl ?_
  rintro n1 z1 X1 hP
  refine eg_return dJ4_setLength_d00df_5 rfl ?_
  exact ⟨rfl, z1, X1, rfl, hP⟩
