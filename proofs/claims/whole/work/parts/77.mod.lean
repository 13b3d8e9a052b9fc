theorem wis_n {L : Nat} {t : Nat → Int} {a e : Nat} {w w' : List Int} (h : wis L t a e w = true) (hne : w' ≠ w) : ¬ wis L t a e w' = true := fun h' => hne (wis_x h' h)
theorem c_isFullOfS {k : eg_K} {z : eg_Z} {X : eg_M} {n : Nat} {L : Nat} {t : Nat → Int} (hT : TM z L t) {v : eg_v} {i : Nat} (hR : hr z v) (ht : tv v) (hi9 : i ≤ L) (hat : z 202 9 = (sk L t i : Int)) (hF : z 202 10 = mf 0) {qx : Nat} {wh mx : Int} (hqx : qx < 35) (hwh : 0 ≤ wh ∧ wh < 220) (hvb : 0 ≤ v wh.toNat ∧ v wh.toNat ≤ 100) (hmx : 0 ≤ mx ∧ mx ≤ 100) : eg_P k gX9_isFullOf 7 0 0 [vR k 202, vS k qx, vI wh, vI mx] n (enc k z X) (eg_p k (some (vI (bi (wis L t (sk L t i) (we L t i) (eg_tx qx) = true ∧ v wh.toNat = mx)))) n X (fun z' => (∀ c, c ≠ 202 → z' c = z c) ∧ (∀ j, j ≠ 9 → j ≠ 10 → z' 202 j = z 202 j) ∧ z' 202 9 = (sk L t i : Int) ∧ z' 202 10 = mf (if wis L t (sk L t i) (we L t i) (eg_tx qx) = true ∧ v wh.toNat = mx then 8 * (sk L t i : Int) + 3 else 0))) := by
  have s := c_isFullOf (k := k) (X := X) (n := n) hT hR ht (sk_b (t := t) hi9).2 hat hF hqx hwh hvb hmx
  rw [sk_sk hi9, we_sk hi9] at s
  exact s
theorem c_readsPart {k : eg_K} {z : eg_Z} {X : eg_M} {n : Nat} {L : Nat} {t : Nat → Int} (hT : TM z L t) {v : eg_v} {i : Nat} (hR : hr z v) (ht : tv v) (hi9 : i ≤ L) (hat : z 202 9 = (i : Int)) (hF : z 202 10 = mf 0) : eg_P k gX9_readsPart 8 0 0 [vR k 202] n (enc k z X) (eg_p k none n X (fun z' => (∃ j : Nat, j ≤ L ∧ z' 202 9 = (j : Int)) ∧ z' 202 10 = mf (ftR (PT L t i v)) ∧ (∀ c, c ≠ 202 → c ≠ 204 → z' c = z c) ∧ (∀ j, j ≠ 9 → j ≠ 10 → j ≠ 11 → z' 202 j = z 202 j) ∧ ∀ a, (PT L t i v) = .inr a → z' 202 9 = (a.1 : Int) ∧ hr z' a.2)) := by
  refine eg_P.of (by decide) (Nat.le_of_ble_eq_true rfl) ?_
  show eg_E k gX9_readsPart 8 0 0 n (enc k z X) [vR k 202, vU, vU, vU] [] 0 _
  have hv := ht.1
  have q := hv.r.2
  have v02 := ht.2.1
  have L4 := hT.1
  have rF : (0 : Int) ≤ 0 ∧ (0 : Int) ≤ 4000 := by omega
  have sb := sk_b (t := t) hi9
  have wb := we_b (t := t) hi9
  have J82 : ∀ (y : eg_Z) (x : Int), (∀ c, c ≠ 202 → y c = z c) → (∀ j, j ≠ 9 → j ≠ 10 → y 202 j = z 202 j) → y 202 9 = (sk L t i : Int) → y 202 10 = mf (8 * (sk L t i : Int) + 3) → PT L t i v = .inl (8 * (sk L t i : Int) + 3) → eg_E k gX9_readsPart 8 0 0 n (enc k y X) [vR k 202, vI x, vU, vU] [] 82 (eg_p k none n X (fun z' => (∃ j : Nat, j ≤ L ∧ z' 202 9 = (j : Int)) ∧ z' 202 10 = mf (ftR (PT L t i v)) ∧ (∀ c, c ≠ 202 → c ≠ 204 → z' c = z c) ∧ (∀ j, j ≠ 9 → j ≠ 10 → j ≠ 11 → z' 202 j = z 202 j) ∧ ∀ a, (PT L t i v) = .inr a → z' 202 9 = (a.1 : Int) ∧ hr z' a.2)) := by
    intro y x fr gr a9 e9 eP
    refine eg_iconst dX9_readsPart_82 ?_
    refine eg_goto 87 dX9_readsPart_83 rfl ?_
    refine eg_istore_n dX9_readsPart_87 rfl rfl rfl ?_
    refine eg_iload_n dX9_readsPart_88 rfl ?_
    refine eg_if_eq 93 dX9_readsPart_89 ⟨by omega, by omega⟩ rfl (fun h89 => absurd h89 (by omega)) (fun h89 => ?_)
    refine eg_return dX9_readsPart_92 rfl ?_
    refine ⟨rfl, rfl, y, rfl, ⟨sk L t i, sb.2, a9⟩, by rw [eP, ft_l]; exact e9, fun c9 h9 _ => fr c9 h9, fun c9 x9 x10 _ => gr c9 x9 x10, fun a8 h8 => ?_⟩
    rw [eP] at h8; cases h8
  have J36 : ∀ (y : eg_Z), (∀ c, c ≠ 202 → y c = z c) → (∀ j, j ≠ 9 → j ≠ 10 → y 202 j = z 202 j) → y 202 9 = (sk L t i : Int) → y 202 10 = mf (8 * (sk L t i : Int) + 3) → PT L t i v = .inl (8 * (sk L t i : Int) + 3) → eg_E k gX9_readsPart 8 0 0 n (enc k y X) [vR k 202, vU, vU, vU] [] 36 (eg_p k none n X (fun z' => (∃ j : Nat, j ≤ L ∧ z' 202 9 = (j : Int)) ∧ z' 202 10 = mf (ftR (PT L t i v)) ∧ (∀ c, c ≠ 202 → c ≠ 204 → z' c = z c) ∧ (∀ j, j ≠ 9 → j ≠ 10 → j ≠ 11 → z' 202 j = z 202 j) ∧ ∀ a, (PT L t i v) = .inr a → z' 202 9 = (a.1 : Int) ∧ hr z' a.2)) := by
    intro y fr gr a9 e9 eP
    refine eg_iconst dX9_readsPart_36 ?_
    refine eg_goto 41 dX9_readsPart_37 rfl ?_
    refine eg_istore_n dX9_readsPart_41 rfl rfl rfl ?_
    refine eg_iload_n dX9_readsPart_42 rfl ?_
    refine eg_if_ne 82 dX9_readsPart_43 ⟨by omega, by omega⟩ rfl (fun h43 => ?_) (fun h43 => absurd h43 (by omega))
    exact J82 y 1 fr gr a9 e9 eP
  have J93 : ∀ (Y0 : eg_Z), (∀ c, c ≠ 202 → Y0 c = z c) → (∀ j, j ≠ 9 → j ≠ 10 → Y0 202 j = z 202 j) → Y0 202 9 = (sk L t i : Int) → Y0 202 10 = mf 0 → ¬ (wis L t (sk L t i) (we L t i) wIn = true ∧ v 1 = 10) → ¬ (wis L t (sk L t i) (we L t i) wOut = true ∧ v 1 = 10) → ¬ (wis L t (sk L t i) (we L t i) wShp = true ∧ v 2 = 6) → ¬ (wis L t (sk L t i) (we L t i) wNom = true ∧ v 3 = 16) → ¬ (wis L t (sk L t i) (we L t i) wPrk = true ∧ v 3 = 16) → ¬ (wis L t (sk L t i) (we L t i) wLon = true ∧ v 3 = 16) → eg_E k gX9_readsPart 8 0 0 n (enc k Y0 X) [vR k 202, vI 0, vU, vU] [] 93 (eg_p k none n X (fun z' => (∃ j : Nat, j ≤ L ∧ z' 202 9 = (j : Int)) ∧ z' 202 10 = mf (ftR (PT L t i v)) ∧ (∀ c, c ≠ 202 → c ≠ 204 → z' c = z c) ∧ (∀ j, j ≠ 9 → j ≠ 10 → j ≠ 11 → z' 202 j = z 202 j) ∧ ∀ a, (PT L t i v) = .inr a → z' 202 9 = (a.1 : Int) ∧ hr z' a.2)) := by
    intro Y0 F0 G0 A0 Z0 nf1 nf2 nf3 nf4 nf5 nf6
    have T0 : TM Y0 L t := hT.c (G0 8 (by decide) (by decide)) (F0 209 (by decide))
    refine eg_al_n dX9_readsPart_93 rfl rfl ?_
    refine eg_ldcS (i := 24) rfl dX9_readsPart_94 ?_
    refine eg_Vpf1 cs_X9_146 dX9_readsPart_96 (c_takesS T0 hi9 A0 (by decide)) (by first | exact er202 | exact er203 | exact er204 | exact er205 | exact er206 | exact er207 | exact er208 | exact er209 | exact er210 | exact er211 | exact er212 | exact er213 | exact er214 | exact er215) rfl (Nat.le_of_ble_eq_true rfl) (by decide) ?_
    rintro Y1 ⟨k1, m1, a1⟩
    have F1 : ∀ c, c ≠ 202 → Y1 c = z c := fun c9 h9 => (k1 c9 h9).trans (F0 c9 h9)
    have G1 : ∀ j, j ≠ 9 → j ≠ 10 → Y1 202 j = z 202 j := fun c9 x9 x10 => (m1 c9 x9).trans (G0 c9 x9 x10)
    have T1 : TM Y1 L t := hT.c (G1 8 (by decide) (by decide)) (F1 209 (by decide))
    have H1 : hr Y1 v := hr_c (F1 204 (by decide)) hR
    have Z1 : Y1 202 10 = mf 0 := (m1 10 (by decide)).trans Z0
    refine eg_bi_eq 109 dX9_readsPart_99 rfl (fun h99 => ?_) (fun h99 => ?_)
    · have A1 : Y1 202 9 = (sk L t i : Int) := by rw [a1, if_neg h99]
      refine eg_al_n dX9_readsPart_109 rfl rfl ?_
      refine eg_ldcS (i := 18) rfl dX9_readsPart_110 ?_
      refine eg_Vpf1 cs_X9_146 dX9_readsPart_112 (c_takesS T1 hi9 A1 (by decide)) (by first | exact er202 | exact er203 | exact er204 | exact er205 | exact er206 | exact er207 | exact er208 | exact er209 | exact er210 | exact er211 | exact er212 | exact er213 | exact er214 | exact er215) rfl (Nat.le_of_ble_eq_true rfl) (by decide) ?_
      rintro Y2 ⟨k2, m2, a2⟩
      have F2 : ∀ c, c ≠ 202 → Y2 c = z c := fun c9 h9 => (k2 c9 h9).trans (F1 c9 h9)
      have G2 : ∀ j, j ≠ 9 → j ≠ 10 → Y2 202 j = z 202 j := fun c9 x9 x10 => (m2 c9 x9).trans (G1 c9 x9 x10)
      have T2 : TM Y2 L t := hT.c (G2 8 (by decide) (by decide)) (F2 209 (by decide))
      have H2 : hr Y2 v := hr_c (F2 204 (by decide)) hR
      have Z2 : Y2 202 10 = mf 0 := (m2 10 (by decide)).trans Z1
      refine eg_bi_eq 126 dX9_readsPart_115 rfl (fun h115 => ?_) (fun h115 => ?_)
      · have A2 : Y2 202 9 = (sk L t i : Int) := by rw [a2, if_neg h115]
        refine eg_al_n dX9_readsPart_126 rfl rfl ?_
        refine eg_ldcS (i := 19) rfl dX9_readsPart_127 ?_
        refine eg_Vpf1 cs_X9_146 dX9_readsPart_129 (c_takesS T2 hi9 A2 (by decide)) (by first | exact er202 | exact er203 | exact er204 | exact er205 | exact er206 | exact er207 | exact er208 | exact er209 | exact er210 | exact er211 | exact er212 | exact er213 | exact er214 | exact er215) rfl (Nat.le_of_ble_eq_true rfl) (by decide) ?_
        rintro Y3 ⟨k3, m3, a3⟩
        have F3 : ∀ c, c ≠ 202 → Y3 c = z c := fun c9 h9 => (k3 c9 h9).trans (F2 c9 h9)
        have G3 : ∀ j, j ≠ 9 → j ≠ 10 → Y3 202 j = z 202 j := fun c9 x9 x10 => (m3 c9 x9).trans (G2 c9 x9 x10)
        have T3 : TM Y3 L t := hT.c (G3 8 (by decide) (by decide)) (F3 209 (by decide))
        have H3 : hr Y3 v := hr_c (F3 204 (by decide)) hR
        have Z3 : Y3 202 10 = mf 0 := (m3 10 (by decide)).trans Z2
        refine eg_bi_eq 143 dX9_readsPart_132 rfl (fun h132 => ?_) (fun h132 => ?_)
        · have A3 : Y3 202 9 = (sk L t i : Int) := by rw [a3, if_neg h132]
          refine eg_al_n dX9_readsPart_143 rfl rfl ?_
          refine eg_ldcS (i := 20) rfl dX9_readsPart_144 ?_
          refine eg_Vpf1 cs_X9_146 dX9_readsPart_146 (c_takesS T3 hi9 A3 (by decide)) (by first | exact er202 | exact er203 | exact er204 | exact er205 | exact er206 | exact er207 | exact er208 | exact er209 | exact er210 | exact er211 | exact er212 | exact er213 | exact er214 | exact er215) rfl (Nat.le_of_ble_eq_true rfl) (by decide) ?_
          rintro Y4 ⟨k4, m4, a4⟩
          have F4 : ∀ c, c ≠ 202 → Y4 c = z c := fun c9 h9 => (k4 c9 h9).trans (F3 c9 h9)
          have G4 : ∀ j, j ≠ 9 → j ≠ 10 → Y4 202 j = z 202 j := fun c9 x9 x10 => (m4 c9 x9).trans (G3 c9 x9 x10)
          have T4 : TM Y4 L t := hT.c (G4 8 (by decide) (by decide)) (F4 209 (by decide))
          have H4 : hr Y4 v := hr_c (F4 204 (by decide)) hR
          have Z4 : Y4 202 10 = mf 0 := (m4 10 (by decide)).trans Z3
          refine eg_bi_eq 159 dX9_readsPart_149 rfl (fun h149 => ?_) (fun h149 => ?_)
          · have A4 : Y4 202 9 = (sk L t i : Int) := by rw [a4, if_neg h149]
            refine eg_al_n dX9_readsPart_159 rfl rfl ?_
            refine eg_ldcS (i := 21) rfl dX9_readsPart_160 ?_
            refine eg_Vpf1 cs_X9_146 dX9_readsPart_162 (c_takesS T4 hi9 A4 (by decide)) (by first | exact er202 | exact er203 | exact er204 | exact er205 | exact er206 | exact er207 | exact er208 | exact er209 | exact er210 | exact er211 | exact er212 | exact er213 | exact er214 | exact er215) rfl (Nat.le_of_ble_eq_true rfl) (by decide) ?_
            rintro Y5 ⟨k5, m5, a5⟩
            have F5 : ∀ c, c ≠ 202 → Y5 c = z c := fun c9 h9 => (k5 c9 h9).trans (F4 c9 h9)
            have G5 : ∀ j, j ≠ 9 → j ≠ 10 → Y5 202 j = z 202 j := fun c9 x9 x10 => (m5 c9 x9).trans (G4 c9 x9 x10)
            have T5 : TM Y5 L t := hT.c (G5 8 (by decide) (by decide)) (F5 209 (by decide))
            have H5 : hr Y5 v := hr_c (F5 204 (by decide)) hR
            have Z5 : Y5 202 10 = mf 0 := (m5 10 (by decide)).trans Z4
            refine eg_bi_eq 177 dX9_readsPart_165 rfl (fun h165 => ?_) (fun h165 => ?_)
            · have A5 : Y5 202 9 = (sk L t i : Int) := by rw [a5, if_neg h165]
              refine eg_al_n dX9_readsPart_177 rfl rfl ?_
              refine eg_ldcS (i := 22) rfl dX9_readsPart_178 ?_
              refine eg_Vpf1 cs_X9_146 dX9_readsPart_180 (c_takesS T5 hi9 A5 (by decide)) (by first | exact er202 | exact er203 | exact er204 | exact er205 | exact er206 | exact er207 | exact er208 | exact er209 | exact er210 | exact er211 | exact er212 | exact er213 | exact er214 | exact er215) rfl (Nat.le_of_ble_eq_true rfl) (by decide) ?_
              rintro Y6 ⟨k6, m6, a6⟩
              have F6 : ∀ c, c ≠ 202 → Y6 c = z c := fun c9 h9 => (k6 c9 h9).trans (F5 c9 h9)
              have G6 : ∀ j, j ≠ 9 → j ≠ 10 → Y6 202 j = z 202 j := fun c9 x9 x10 => (m6 c9 x9).trans (G5 c9 x9 x10)
              have T6 : TM Y6 L t := hT.c (G6 8 (by decide) (by decide)) (F6 209 (by decide))
              have H6 : hr Y6 v := hr_c (F6 204 (by decide)) hR
              have Z6 : Y6 202 10 = mf 0 := (m6 10 (by decide)).trans Z5
              refine eg_bi_eq 195 dX9_readsPart_183 rfl (fun h183 => ?_) (fun h183 => ?_)
              · have A6 : Y6 202 9 = (sk L t i : Int) := by rw [a6, if_neg h183]
                refine eg_al_n dX9_readsPart_195 rfl rfl ?_
                refine eg_ldcS (i := 23) rfl dX9_readsPart_196 ?_
                refine eg_Vpf1 cs_X9_146 dX9_readsPart_198 (c_takesS T6 hi9 A6 (by decide)) (by first | exact er202 | exact er203 | exact er204 | exact er205 | exact er206 | exact er207 | exact er208 | exact er209 | exact er210 | exact er211 | exact er212 | exact er213 | exact er214 | exact er215) rfl (Nat.le_of_ble_eq_true rfl) (by decide) ?_
                rintro Y7 ⟨k7, m7, a7⟩
                have F7 : ∀ c, c ≠ 202 → Y7 c = z c := fun c9 h9 => (k7 c9 h9).trans (F6 c9 h9)
                have G7 : ∀ j, j ≠ 9 → j ≠ 10 → Y7 202 j = z 202 j := fun c9 x9 x10 => (m7 c9 x9).trans (G6 c9 x9 x10)
                have T7 : TM Y7 L t := hT.c (G7 8 (by decide) (by decide)) (F7 209 (by decide))
                have H7 : hr Y7 v := hr_c (F7 204 (by decide)) hR
                have Z7 : Y7 202 10 = mf 0 := (m7 10 (by decide)).trans Z6
                refine eg_bi_eq 213 dX9_readsPart_201 rfl (fun h201 => ?_) (fun h201 => ?_)
                · have A7 : Y7 202 9 = (sk L t i : Int) := by rw [a7, if_neg h201]
                  refine eg_al_n dX9_readsPart_213 rfl rfl ?_
                  refine eg_ldcS (i := 25) rfl dX9_readsPart_214 ?_
                  refine eg_Vpf1 cs_X9_146 dX9_readsPart_216 (c_takesS T7 hi9 A7 (by decide)) (by first | exact er202 | exact er203 | exact er204 | exact er205 | exact er206 | exact er207 | exact er208 | exact er209 | exact er210 | exact er211 | exact er212 | exact er213 | exact er214 | exact er215) rfl (Nat.le_of_ble_eq_true rfl) (by decide) ?_
                  rintro Y8 ⟨k8, m8, a8⟩
                  have F8 : ∀ c, c ≠ 202 → Y8 c = z c := fun c9 h9 => (k8 c9 h9).trans (F7 c9 h9)
                  have G8 : ∀ j, j ≠ 9 → j ≠ 10 → Y8 202 j = z 202 j := fun c9 x9 x10 => (m8 c9 x9).trans (G7 c9 x9 x10)
                  have T8 : TM Y8 L t := hT.c (G8 8 (by decide) (by decide)) (F8 209 (by decide))
                  have H8 : hr Y8 v := hr_c (F8 204 (by decide)) hR
                  have Z8 : Y8 202 10 = mf 0 := (m8 10 (by decide)).trans Z7
                  refine eg_bi_eq 259 dX9_readsPart_219 rfl (fun h219 => ?_) (fun h219 => ?_)
                  · have A8 : Y8 202 9 = (sk L t i : Int) := by rw [a8, if_neg h219]
                    refine eg_al_n dX9_readsPart_259 rfl rfl ?_
                    refine eg_iconst dX9_readsPart_260 ?_
                    refine eg_al_n dX9_readsPart_261 rfl rfl ?_
                    refine eg_get fl_X9_60 dX9_readsPart_262 (by first | exact er202 | exact er203 | exact er204 | exact er205 | exact er206 | exact er207 | exact er208 | exact er209 | exact er210 | exact er211 | exact er212 | exact er213 | exact er214 | exact er215) rfl ?_
                    refine eg_eqI A8 ?_
                    refine eg_Vpv2 cs_X9_98 dX9_readsPart_265 (c_fails Z8 (by omega) (by omega)) (by first | exact er202 | exact er203 | exact er204 | exact er205 | exact er206 | exact er207 | exact er208 | exact er209 | exact er210 | exact er211 | exact er212 | exact er213 | exact er214 | exact er215) rfl (Nat.le_of_ble_eq_true rfl) (by decide) ?_
                    rintro y2 ⟨f2, g2, e2⟩
                    refine eg_return dX9_readsPart_268 rfl ?_
                    have eP : PT L t i v = .inl (8 * (sk L t i : Int) + 1) := by unfold PT; rw [if_neg (show ¬ wis L t (sk L t i) (we L t i) wSeg = true from h99), if_neg (show ¬ wis L t (sk L t i) (we L t i) wIn = true from h115), if_neg (show ¬ wis L t (sk L t i) (we L t i) wOut = true from h132), if_neg (show ¬ wis L t (sk L t i) (we L t i) wShp = true from h149), if_neg (show ¬ wis L t (sk L t i) (we L t i) wNom = true from h165), if_neg (show ¬ wis L t (sk L t i) (we L t i) wPrk = true from h183), if_neg (show ¬ wis L t (sk L t i) (we L t i) wLon = true from h201), if_neg (show ¬ wis L t (sk L t i) (we L t i) wPrc = true from h219)]
                    refine ⟨rfl, rfl, y2, rfl, ⟨sk L t i, sb.2, by rw [g2 9 (by decide)]; exact A8⟩, by rw [eP, ft_l, e2, fnx_0], fun c9 h9 _ => (f2 c9 h9).trans (F8 c9 h9), fun c9 x9 x10 _ => (g2 c9 x10).trans (G8 c9 x9 x10), fun a8 h8 => ?_⟩
                    rw [eP] at h8; cases h8
                  · have A8 : Y8 202 9 = (we L t i : Int) := by rw [a8, if_pos h219]
                    have hT := T8
                    have hi9 := wb.2
                    have hat := A8
                    have hF := Z8
                    refine eg_al_n dX9_readsPart_222 rfl rfl ?_
                    refine eg_iconst dX9_readsPart_223 ?_
                    refine eg_sipush dX9_readsPart_224 (by decide) ?_
                    refine eg_Vr2 cs_X9_112 dX9_readsPart_227 (c_mn (lo := 0) (hi := 999) hT hi9 hat hF rF ⟨by decide, by decide⟩ ⟨by omega, by omega⟩) (by first | exact er202 | exact er203 | exact er204 | exact er205 | exact er206 | exact er207 | exact er208 | exact er209 | exact er210 | exact er211 | exact er212 | exact er213 | exact er214 | exact er215) rfl (Nat.le_of_ble_eq_true rfl) (by decide) ?_
                    rintro r1 y1 ⟨q1, f1, g1, ⟨j1, l1, p1⟩, e1, s1⟩
                    have hT1 : TM y1 L t := hT.c (g1 8 (by decide) (by decide) (by decide)) (f1 209 (by decide))
                    have rF1 := fnx_b rF (ft_b (t := t) (lo := 0) (hi := 999) hT.1 hi9)
                    refine eg_istore_n dX9_readsPart_230 rfl rfl rfl ?_
                    refine eg_al_n dX9_readsPart_231 rfl rfl ?_
                    refine eg_iconst dX9_readsPart_232 ?_
                    refine eg_bipush dX9_readsPart_233 (by decide) ?_
                    refine eg_Vr2 cs_X9_112 dX9_readsPart_235 (c_mn (lo := 0) (hi := 100) hT1 l1 p1 e1 rF1 ⟨by decide, by decide⟩ ⟨by omega, by omega⟩) (by first | exact er202 | exact er203 | exact er204 | exact er205 | exact er206 | exact er207 | exact er208 | exact er209 | exact er210 | exact er211 | exact er212 | exact er213 | exact er214 | exact er215) rfl (Nat.le_of_ble_eq_true rfl) (by decide) ?_
                    rintro r2 y2 ⟨q2, f2, g2, ⟨j2, l2, p2⟩, e2, s2⟩
                    have hT2 : TM y2 L t := hT1.c (g2 8 (by decide) (by decide) (by decide)) (f2 209 (by decide))
                    have rF2 := fnx_b rF1 (ft_b (t := t) (lo := 0) (hi := 100) hT.1 l1)
                    refine eg_istore_n dX9_readsPart_238 rfl rfl rfl ?_
                    have q1a := q1.1; have q1b := q1.2; have q2a := q2.1; have q2b := q2.2
                    have frn : ∀ c, c ≠ 202 → y2 c = Y8 c := fun c9 h9 => ((f2 c9 h9).trans (f1 c9 h9))
                    have grn : ∀ j, j ≠ 9 → j ≠ 10 → j ≠ 11 → y2 202 j = Y8 202 j := fun c9 x9 x10 x11 => ((g2 c9 x9 x10 x11).trans (g1 c9 x9 x10 x11))
                    have hR : hr y2 v := hr_c (frn 204 (by decide)) H8
                    have hF : ∀ c, c ≠ 204 → y2 c = y2 c := fun _ _ => rfl
                    refine eg_al_n dX9_readsPart_239 rfl rfl ?_
                    refine eg_get fl_X9_13 dX9_readsPart_240 (by first | exact er202 | exact er203 | exact er204 | exact er205 | exact er206 | exact er207 | exact er208 | exact er209 | exact er210 | exact er211 | exact er212 | exact er213 | exact er214 | exact er215) rfl ?_
                    refine eg_iconst dX9_readsPart_243 ?_
                    refine eg_iload_n dX9_readsPart_244 rfl ?_
                    refine eg_i2l dX9_readsPart_245 ⟨by omega, by omega⟩ ?_
                    refine eg_hrdS dX9_readsPart_246 hR (by omega) (by omega) (fun y f1 hR => ?_)
                    have hF := fun c hc => (f1 c hc).trans (hF c hc)
                    refine eg_al_n dX9_readsPart_247 rfl rfl ?_
                    refine eg_get fl_X9_13 dX9_readsPart_248 (by first | exact er202 | exact er203 | exact er204 | exact er205 | exact er206 | exact er207 | exact er208 | exact er209 | exact er210 | exact er211 | exact er212 | exact er213 | exact er214 | exact er215) rfl ?_
                    refine eg_bipush dX9_readsPart_251 (by decide) ?_
                    refine eg_iload_n dX9_readsPart_253 rfl ?_
                    refine eg_i2l dX9_readsPart_254 ⟨by omega, by omega⟩ ?_
                    refine eg_hrdS dX9_readsPart_255 hR (by omega) (by omega) (fun y f1 hR => ?_)
                    have hF := fun c hc => (f1 c hc).trans (hF c hc)
                    refine eg_goto 268 dX9_readsPart_256 rfl ?_
                    refine eg_return dX9_readsPart_268 rfl ?_
                    have eP : PT L t i v = prR L t (we L t i) v := by unfold PT; rw [if_neg (show ¬ wis L t (sk L t i) (we L t i) wSeg = true from h99), if_neg (show ¬ wis L t (sk L t i) (we L t i) wIn = true from h115), if_neg (show ¬ wis L t (sk L t i) (we L t i) wOut = true from h132), if_neg (show ¬ wis L t (sk L t i) (we L t i) wShp = true from h149), if_neg (show ¬ wis L t (sk L t i) (we L t i) wNom = true from h165), if_neg (show ¬ wis L t (sk L t i) (we L t i) wPrk = true from h183), if_neg (show ¬ wis L t (sk L t i) (we L t i) wLon = true from h201), if_pos (show wis L t (sk L t i) (we L t i) wPrc = true from h219)]
                    have eS : fnx 0 (ftR (prR L t (we L t i) v)) = fnx (fnx (0) (ftR (nmR L t (we L t i) 0 999))) (ftR (nmR L t j1 0 100)) := by
                      unfold prR
                      cases hx1 : nmR L t (we L t i) 0 999 with
                      | inl e =>
                        have ne := nm_ne e hx1
                        rw [bd_l, ft_l, ft_l, fnx_k ne]
                      | inr a1 =>
                        have k1 : j1 = a1.1 := by have := (s1 a1 rfl hx1).2.1; omega
                        subst k1
                        rw [bd_r, ft_r, fnx_z]
                        cases hx2 : nmR L t a1.1 0 100 with
                        | inl e =>
                          have ne := nm_ne e hx2
                          rw [bd_l, ft_l, ft_l]
                        | inr a2 =>
                          have k2 : j2 = a2.1 := by have := (s2 a2 (by rw [hx1]; rfl) hx2).2.1; omega
                          subst k2
                          rw [bd_r, ft_r, ft_r]
                    rw [fnx_0] at eS
                    have e202 : y 202 = y2 202 := hF 202 (by decide)
                    refine ⟨rfl, rfl, y, rfl, ⟨j2, l2, by rw [e202]; exact p2⟩, by rw [eP, eS, e202]; exact e2, fun c9 h9 h8 => (hF c9 h8).trans ((frn c9 h9).trans (F8 c9 h9)), fun c9 x9 x10 x11 => by rw [e202]; exact (grn c9 x9 x10 x11).trans (G8 c9 x9 x10), fun a8 h8 => ?_⟩
                    rw [eP] at h8
                    unfold prR at h8
                    obtain ⟨b1, hb1, h8⟩ := bd_i h8
                    obtain ⟨b2, hb2, h8⟩ := bd_i h8
                    obtain ⟨c1, c2, -⟩ := s1 b1 rfl hb1
                    have c3 : j1 = b1.1 := by omega
                    subst c3
                    obtain ⟨c4, c5, -⟩ := s2 b2 (by rw [hb1]; rfl) hb2
                    injection h8 with h8
                    subst h8
                    exact ⟨by rw [e202]; exact c5, by rw [← c1, ← c4]; exact hR⟩
                · have A7 : Y7 202 9 = (we L t i : Int) := by rw [a7, if_pos h201]
                  have vq : v 3 ≠ 16 := fun hh => nf6 ⟨h201, hh⟩
                  refine eg_al_n dX9_readsPart_204 rfl rfl ?_
                  refine eg_iconst dX9_readsPart_205 ?_
                  refine eg_iconst dX9_readsPart_206 ?_
                  refine eg_Vpv2 cs_X9_159 dX9_readsPart_207 (c_readsNomL T7 H7 ht wb.2 A7 Z7 (by omega)) (by first | exact er202 | exact er203 | exact er204 | exact er205 | exact er206 | exact er207 | exact er208 | exact er209 | exact er210 | exact er211 | exact er212 | exact er213 | exact er214 | exact er215) rfl (Nat.le_of_ble_eq_true rfl) (by decide) ?_
                  rintro y2 ⟨d1, d2, d3, d4, d5⟩
                  refine eg_goto 268 dX9_readsPart_210 rfl ?_
                  refine eg_return dX9_readsPart_268 rfl ?_
                  have eP : PT L t i v = noR L t (we L t i) v false true := by unfold PT; rw [if_neg (show ¬ wis L t (sk L t i) (we L t i) wSeg = true from h99), if_neg (show ¬ wis L t (sk L t i) (we L t i) wIn = true from h115), if_neg (show ¬ wis L t (sk L t i) (we L t i) wOut = true from h132), if_neg (show ¬ wis L t (sk L t i) (we L t i) wShp = true from h149), if_neg (show ¬ wis L t (sk L t i) (we L t i) wNom = true from h165), if_neg (show ¬ wis L t (sk L t i) (we L t i) wPrk = true from h183), if_pos (show wis L t (sk L t i) (we L t i) wLon = true from h201)]; unfold fuR; rw [if_neg (fun hh => vq (by have := of_decide_eq_true hh; omega))]
                  exact ⟨rfl, rfl, y2, rfl, d1, by rw [eP]; exact d2, fun c9 h9 h8 => (d3 c9 h9 h8).trans (F7 c9 h9), fun c9 x9 x10 x11 => (d4 c9 x9 x10 x11).trans (G7 c9 x9 x10), fun a8 h8 => by rw [eP] at h8; exact d5 a8 h8⟩
              · have A6 : Y6 202 9 = (we L t i : Int) := by rw [a6, if_pos h183]
                have vq : v 3 ≠ 16 := fun hh => nf5 ⟨h183, hh⟩
                refine eg_al_n dX9_readsPart_186 rfl rfl ?_
                refine eg_iconst dX9_readsPart_187 ?_
                refine eg_iconst dX9_readsPart_188 ?_
                refine eg_Vpv2 cs_X9_159 dX9_readsPart_189 (c_readsNomP T6 H6 ht wb.2 A6 Z6 (by omega)) (by first | exact er202 | exact er203 | exact er204 | exact er205 | exact er206 | exact er207 | exact er208 | exact er209 | exact er210 | exact er211 | exact er212 | exact er213 | exact er214 | exact er215) rfl (Nat.le_of_ble_eq_true rfl) (by decide) ?_
                rintro y2 ⟨d1, d2, d3, d4, d5⟩
                refine eg_goto 268 dX9_readsPart_192 rfl ?_
                refine eg_return dX9_readsPart_268 rfl ?_
                have eP : PT L t i v = noR L t (we L t i) v true false := by unfold PT; rw [if_neg (show ¬ wis L t (sk L t i) (we L t i) wSeg = true from h99), if_neg (show ¬ wis L t (sk L t i) (we L t i) wIn = true from h115), if_neg (show ¬ wis L t (sk L t i) (we L t i) wOut = true from h132), if_neg (show ¬ wis L t (sk L t i) (we L t i) wShp = true from h149), if_neg (show ¬ wis L t (sk L t i) (we L t i) wNom = true from h165), if_pos (show wis L t (sk L t i) (we L t i) wPrk = true from h183)]; unfold fuR; rw [if_neg (fun hh => vq (by have := of_decide_eq_true hh; omega))]
                exact ⟨rfl, rfl, y2, rfl, d1, by rw [eP]; exact d2, fun c9 h9 h8 => (d3 c9 h9 h8).trans (F6 c9 h9), fun c9 x9 x10 x11 => (d4 c9 x9 x10 x11).trans (G6 c9 x9 x10), fun a8 h8 => by rw [eP] at h8; exact d5 a8 h8⟩
            · have A5 : Y5 202 9 = (we L t i : Int) := by rw [a5, if_pos h165]
              have vq : v 3 ≠ 16 := fun hh => nf4 ⟨h165, hh⟩
              refine eg_al_n dX9_readsPart_168 rfl rfl ?_
              refine eg_iconst dX9_readsPart_169 ?_
              refine eg_iconst dX9_readsPart_170 ?_
              refine eg_Vpv2 cs_X9_159 dX9_readsPart_171 (c_readsNomA T5 H5 ht wb.2 A5 Z5 (by omega)) (by first | exact er202 | exact er203 | exact er204 | exact er205 | exact er206 | exact er207 | exact er208 | exact er209 | exact er210 | exact er211 | exact er212 | exact er213 | exact er214 | exact er215) rfl (Nat.le_of_ble_eq_true rfl) (by decide) ?_
              rintro y2 ⟨d1, d2, d3, d4, d5⟩
              refine eg_goto 268 dX9_readsPart_174 rfl ?_
              refine eg_return dX9_readsPart_268 rfl ?_
              have eP : PT L t i v = noR L t (we L t i) v true true := by unfold PT; rw [if_neg (show ¬ wis L t (sk L t i) (we L t i) wSeg = true from h99), if_neg (show ¬ wis L t (sk L t i) (we L t i) wIn = true from h115), if_neg (show ¬ wis L t (sk L t i) (we L t i) wOut = true from h132), if_neg (show ¬ wis L t (sk L t i) (we L t i) wShp = true from h149), if_pos (show wis L t (sk L t i) (we L t i) wNom = true from h165)]; unfold fuR; rw [if_neg (fun hh => vq (by have := of_decide_eq_true hh; omega))]
              exact ⟨rfl, rfl, y2, rfl, d1, by rw [eP]; exact d2, fun c9 h9 h8 => (d3 c9 h9 h8).trans (F5 c9 h9), fun c9 x9 x10 x11 => (d4 c9 x9 x10 x11).trans (G5 c9 x9 x10), fun a8 h8 => by rw [eP] at h8; exact d5 a8 h8⟩
          · have A4 : Y4 202 9 = (we L t i : Int) := by rw [a4, if_pos h149]
            have vq : v 2 ≠ 6 := fun hh => nf3 ⟨h149, hh⟩
            refine eg_al_n dX9_readsPart_152 rfl rfl ?_
            refine eg_Vpv0 cs_X9_156 dX9_readsPart_153 (c_readsShipper T4 H4 ht wb.2 A4 Z4 (by omega)) (by first | exact er202 | exact er203 | exact er204 | exact er205 | exact er206 | exact er207 | exact er208 | exact er209 | exact er210 | exact er211 | exact er212 | exact er213 | exact er214 | exact er215) rfl (Nat.le_of_ble_eq_true rfl) (by decide) ?_
            rintro y2 ⟨d1, d2, d3, d4, d5⟩
            refine eg_goto 268 dX9_readsPart_156 rfl ?_
            refine eg_return dX9_readsPart_268 rfl ?_
            have eP : PT L t i v = shR_ L t (we L t i) v := by unfold PT; rw [if_neg (show ¬ wis L t (sk L t i) (we L t i) wSeg = true from h99), if_neg (show ¬ wis L t (sk L t i) (we L t i) wIn = true from h115), if_neg (show ¬ wis L t (sk L t i) (we L t i) wOut = true from h132), if_pos (show wis L t (sk L t i) (we L t i) wShp = true from h149)]; unfold fuR; rw [if_neg (fun hh => vq (by have := of_decide_eq_true hh; omega))]
            exact ⟨rfl, rfl, y2, rfl, d1, by rw [eP]; exact d2, fun c9 h9 h8 => (d3 c9 h9 h8).trans (F4 c9 h9), fun c9 x9 x10 x11 => (d4 c9 x9 x10 x11).trans (G4 c9 x9 x10), fun a8 h8 => by rw [eP] at h8; exact d5 a8 h8⟩
        · have A3 : Y3 202 9 = (we L t i : Int) := by rw [a3, if_pos h132]
          have vq : v 1 ≠ 10 := fun hh => nf2 ⟨h132, hh⟩
          refine eg_al_n dX9_readsPart_135 rfl rfl ?_
          refine eg_iconst dX9_readsPart_136 ?_
          refine eg_Vpv1 cs_X9_152 dX9_readsPart_137 (c_readsPoint T3 H3 ht wb.2 A3 Z3 (by omega) (by omega)) (by first | exact er202 | exact er203 | exact er204 | exact er205 | exact er206 | exact er207 | exact er208 | exact er209 | exact er210 | exact er211 | exact er212 | exact er213 | exact er214 | exact er215) rfl (Nat.le_of_ble_eq_true rfl) (by decide) ?_
          rintro y2 ⟨d1, d2, d3, d4, d5⟩
          refine eg_goto 268 dX9_readsPart_140 rfl ?_
          refine eg_return dX9_readsPart_268 rfl ?_
          have eP : PT L t i v = ptR L t (we L t i) v 0 := by unfold PT; rw [if_neg (show ¬ wis L t (sk L t i) (we L t i) wSeg = true from h99), if_neg (show ¬ wis L t (sk L t i) (we L t i) wIn = true from h115), if_pos (show wis L t (sk L t i) (we L t i) wOut = true from h132)]; unfold fuR; rw [if_neg (fun hh => vq (by have := of_decide_eq_true hh; omega))]
          exact ⟨rfl, rfl, y2, rfl, d1, by rw [eP]; exact d2, fun c9 h9 h8 => (d3 c9 h9 h8).trans (F3 c9 h9), fun c9 x9 x10 x11 => (d4 c9 x9 x10 x11).trans (G3 c9 x9 x10), fun a8 h8 => by rw [eP] at h8; exact d5 a8 h8⟩
      · have A2 : Y2 202 9 = (we L t i : Int) := by rw [a2, if_pos h115]
        have vq : v 1 ≠ 10 := fun hh => nf1 ⟨h115, hh⟩
        refine eg_al_n dX9_readsPart_118 rfl rfl ?_
        refine eg_iconst dX9_readsPart_119 ?_
        refine eg_Vpv1 cs_X9_152 dX9_readsPart_120 (c_readsPoint T2 H2 ht wb.2 A2 Z2 (by omega) (by omega)) (by first | exact er202 | exact er203 | exact er204 | exact er205 | exact er206 | exact er207 | exact er208 | exact er209 | exact er210 | exact er211 | exact er212 | exact er213 | exact er214 | exact er215) rfl (Nat.le_of_ble_eq_true rfl) (by decide) ?_
        rintro y2 ⟨d1, d2, d3, d4, d5⟩
        refine eg_goto 268 dX9_readsPart_123 rfl ?_
        refine eg_return dX9_readsPart_268 rfl ?_
        have eP : PT L t i v = ptR L t (we L t i) v 1 := by unfold PT; rw [if_neg (show ¬ wis L t (sk L t i) (we L t i) wSeg = true from h99), if_pos (show wis L t (sk L t i) (we L t i) wIn = true from h115)]; unfold fuR; rw [if_neg (fun hh => vq (by have := of_decide_eq_true hh; omega))]
        exact ⟨rfl, rfl, y2, rfl, d1, by rw [eP]; exact d2, fun c9 h9 h8 => (d3 c9 h9 h8).trans (F2 c9 h9), fun c9 x9 x10 x11 => (d4 c9 x9 x10 x11).trans (G2 c9 x9 x10), fun a8 h8 => by rw [eP] at h8; exact d5 a8 h8⟩
    · have A1 : Y1 202 9 = (we L t i : Int) := by rw [a1, if_pos h99]
      refine eg_al_n dX9_readsPart_102 rfl rfl ?_
      refine eg_Vpv0 cs_X9_149 dX9_readsPart_103 (c_readsSegment T1 H1 ht wb.2 A1 Z1) (by first | exact er202 | exact er203 | exact er204 | exact er205 | exact er206 | exact er207 | exact er208 | exact er209 | exact er210 | exact er211 | exact er212 | exact er213 | exact er214 | exact er215) rfl (Nat.le_of_ble_eq_true rfl) (by decide) ?_
      rintro y2 ⟨d1, d2, d3, d4, d5⟩
      refine eg_goto 268 dX9_readsPart_106 rfl ?_
      refine eg_return dX9_readsPart_268 rfl ?_
      have eP : PT L t i v = sgR L t (we L t i) v := by unfold PT; rw [if_pos (show wis L t (sk L t i) (we L t i) wSeg = true from h99)]
      exact ⟨rfl, rfl, y2, rfl, d1, by rw [eP]; exact d2, fun c9 h9 h8 => (d3 c9 h9 h8).trans (F1 c9 h9), fun c9 x9 x10 x11 => (d4 c9 x9 x10 x11).trans (G1 c9 x9 x10), fun a8 h8 => by rw [eP] at h8; exact d5 a8 h8⟩
  refine eg_al_n dX9_readsPart_0 rfl rfl ?_
  refine eg_ldcS (i := 18) rfl dX9_readsPart_1 ?_
  refine eg_iconst dX9_readsPart_3 ?_
  refine eg_bipush dX9_readsPart_4 (by decide) ?_
  refine eg_Vpf3 cs_X9_130 dX9_readsPart_6 (c_isFullOf hT hR ht hi9 hat hF (by decide) (by decide) (by show 0 ≤ v 1 ∧ v 1 ≤ 100; omega) (by decide)) (by first | exact er202 | exact er203 | exact er204 | exact er205 | exact er206 | exact er207 | exact er208 | exact er209 | exact er210 | exact er211 | exact er212 | exact er213 | exact er214 | exact er215) rfl (Nat.le_of_ble_eq_true rfl) (by decide) ?_
  rintro Y1 ⟨k1, m1, a1, e1⟩
  have F1 : ∀ c, c ≠ 202 → Y1 c = z c := k1
  have G1 : ∀ j, j ≠ 9 → j ≠ 10 → Y1 202 j = z 202 j := m1
  have T1 : TM Y1 L t := hT.c (G1 8 (by decide) (by decide)) (F1 209 (by decide))
  have H1 : hr Y1 v := hr_c (F1 204 (by decide)) hR
  refine eg_bi_ne 36 dX9_readsPart_9 rfl (fun h9 => ?_) (fun h9 => ?_)
  · have hw9 : wis L t (sk L t i) (we L t i) wIn = true := h9.1
    have hv9 : v 1 = 10 := h9.2
    have eP : PT L t i v = .inl (8 * (sk L t i : Int) + 3) := by unfold PT; rw [if_neg (wis_n hw9 (show wSeg ≠ wIn by decide)), if_pos hw9]; unfold fuR; rw [if_pos (decide_eq_true (by omega))]
    exact J36 Y1 F1 G1 a1 (by rw [e1, if_pos h9]) eP
  · have Z1 : Y1 202 10 = mf 0 := by rw [e1, if_neg h9]
    refine eg_al_n dX9_readsPart_12 rfl rfl ?_
    refine eg_ldcS (i := 19) rfl dX9_readsPart_13 ?_
    refine eg_iconst dX9_readsPart_15 ?_
    refine eg_bipush dX9_readsPart_16 (by decide) ?_
    refine eg_Vpf3 cs_X9_130 dX9_readsPart_18 (c_isFullOfS T1 H1 ht hi9 a1 Z1 (by decide) (by decide) (by show 0 ≤ v 1 ∧ v 1 ≤ 100; omega) (by decide)) (by first | exact er202 | exact er203 | exact er204 | exact er205 | exact er206 | exact er207 | exact er208 | exact er209 | exact er210 | exact er211 | exact er212 | exact er213 | exact er214 | exact er215) rfl (Nat.le_of_ble_eq_true rfl) (by decide) ?_
    rintro Y2 ⟨k2, m2, a2, e2⟩
    have F2 : ∀ c, c ≠ 202 → Y2 c = z c := fun c9 h9 => (k2 c9 h9).trans (F1 c9 h9)
    have G2 : ∀ j, j ≠ 9 → j ≠ 10 → Y2 202 j = z 202 j := fun c9 x9 x10 => (m2 c9 x9 x10).trans (G1 c9 x9 x10)
    have T2 : TM Y2 L t := hT.c (G2 8 (by decide) (by decide)) (F2 209 (by decide))
    have H2 : hr Y2 v := hr_c (F2 204 (by decide)) hR
    refine eg_bi_ne 36 dX9_readsPart_21 rfl (fun h21 => ?_) (fun h21 => ?_)
    · have hw9 : wis L t (sk L t i) (we L t i) wOut = true := h21.1
      have hv9 : v 1 = 10 := h21.2
      have eP : PT L t i v = .inl (8 * (sk L t i : Int) + 3) := by unfold PT; rw [if_neg (wis_n hw9 (show wSeg ≠ wOut by decide)), if_neg (wis_n hw9 (show wIn ≠ wOut by decide)), if_pos hw9]; unfold fuR; rw [if_pos (decide_eq_true (by omega))]
      exact J36 Y2 F2 G2 a2 (by rw [e2, if_pos h21]) eP
    · have Z2 : Y2 202 10 = mf 0 := by rw [e2, if_neg h21]
      refine eg_al_n dX9_readsPart_24 rfl rfl ?_
      refine eg_ldcS (i := 20) rfl dX9_readsPart_25 ?_
      refine eg_iconst dX9_readsPart_27 ?_
      refine eg_bipush dX9_readsPart_28 (by decide) ?_
      refine eg_Vpf3 cs_X9_130 dX9_readsPart_30 (c_isFullOfS T2 H2 ht hi9 a2 Z2 (by decide) (by decide) (by show 0 ≤ v 2 ∧ v 2 ≤ 100; omega) (by decide)) (by first | exact er202 | exact er203 | exact er204 | exact er205 | exact er206 | exact er207 | exact er208 | exact er209 | exact er210 | exact er211 | exact er212 | exact er213 | exact er214 | exact er215) rfl (Nat.le_of_ble_eq_true rfl) (by decide) ?_
      rintro Y3 ⟨k3, m3, a3, e3⟩
      have F3 : ∀ c, c ≠ 202 → Y3 c = z c := fun c9 h9 => (k3 c9 h9).trans (F2 c9 h9)
      have G3 : ∀ j, j ≠ 9 → j ≠ 10 → Y3 202 j = z 202 j := fun c9 x9 x10 => (m3 c9 x9 x10).trans (G2 c9 x9 x10)
      have T3 : TM Y3 L t := hT.c (G3 8 (by decide) (by decide)) (F3 209 (by decide))
      have H3 : hr Y3 v := hr_c (F3 204 (by decide)) hR
      refine eg_bi_eq 40 dX9_readsPart_33 rfl (fun h33 => ?_) (fun h33 => ?_)
      · have Z3 : Y3 202 10 = mf 0 := by rw [e3, if_neg h33]
        refine eg_iconst dX9_readsPart_40 ?_
        refine eg_istore_n dX9_readsPart_41 rfl rfl rfl ?_
        refine eg_iload_n dX9_readsPart_42 rfl ?_
        refine eg_if_ne 82 dX9_readsPart_43 ⟨by omega, by omega⟩ rfl (fun h43 => absurd h43 (by omega)) (fun h43 => ?_)
        refine eg_al_n dX9_readsPart_46 rfl rfl ?_
        refine eg_ldcS (i := 21) rfl dX9_readsPart_47 ?_
        refine eg_iconst dX9_readsPart_49 ?_
        refine eg_bipush dX9_readsPart_50 (by decide) ?_
        refine eg_Vpf3 cs_X9_130 dX9_readsPart_52 (c_isFullOfS T3 H3 ht hi9 a3 Z3 (by decide) (by decide) (by show 0 ≤ v 3 ∧ v 3 ≤ 100; omega) (by decide)) (by first | exact er202 | exact er203 | exact er204 | exact er205 | exact er206 | exact er207 | exact er208 | exact er209 | exact er210 | exact er211 | exact er212 | exact er213 | exact er214 | exact er215) rfl (Nat.le_of_ble_eq_true rfl) (by decide) ?_
        rintro Y4 ⟨k4, m4, a4, e4⟩
        have F4 : ∀ c, c ≠ 202 → Y4 c = z c := fun c9 h9 => (k4 c9 h9).trans (F3 c9 h9)
        have G4 : ∀ j, j ≠ 9 → j ≠ 10 → Y4 202 j = z 202 j := fun c9 x9 x10 => (m4 c9 x9 x10).trans (G3 c9 x9 x10)
        have T4 : TM Y4 L t := hT.c (G4 8 (by decide) (by decide)) (F4 209 (by decide))
        have H4 : hr Y4 v := hr_c (F4 204 (by decide)) hR
        refine eg_bi_ne 82 dX9_readsPart_55 rfl (fun h55 => ?_) (fun h55 => ?_)
        · have hw9 : wis L t (sk L t i) (we L t i) wNom = true := h55.1
          have hv9 : v 3 = 16 := h55.2
          have eP : PT L t i v = .inl (8 * (sk L t i : Int) + 3) := by unfold PT; rw [if_neg (wis_n hw9 (show wSeg ≠ wNom by decide)), if_neg (wis_n hw9 (show wIn ≠ wNom by decide)), if_neg (wis_n hw9 (show wOut ≠ wNom by decide)), if_neg (wis_n hw9 (show wShp ≠ wNom by decide)), if_pos hw9]; unfold fuR; rw [if_pos (decide_eq_true (by omega))]
          exact J82 Y4 0 F4 G4 a4 (by rw [e4, if_pos h55]) eP
        · have Z4 : Y4 202 10 = mf 0 := by rw [e4, if_neg h55]
          refine eg_al_n dX9_readsPart_58 rfl rfl ?_
          refine eg_ldcS (i := 22) rfl dX9_readsPart_59 ?_
          refine eg_iconst dX9_readsPart_61 ?_
          refine eg_bipush dX9_readsPart_62 (by decide) ?_
          refine eg_Vpf3 cs_X9_130 dX9_readsPart_64 (c_isFullOfS T4 H4 ht hi9 a4 Z4 (by decide) (by decide) (by show 0 ≤ v 3 ∧ v 3 ≤ 100; omega) (by decide)) (by first | exact er202 | exact er203 | exact er204 | exact er205 | exact er206 | exact er207 | exact er208 | exact er209 | exact er210 | exact er211 | exact er212 | exact er213 | exact er214 | exact er215) rfl (Nat.le_of_ble_eq_true rfl) (by decide) ?_
          rintro Y5 ⟨k5, m5, a5, e5⟩
          have F5 : ∀ c, c ≠ 202 → Y5 c = z c := fun c9 h9 => (k5 c9 h9).trans (F4 c9 h9)
          have G5 : ∀ j, j ≠ 9 → j ≠ 10 → Y5 202 j = z 202 j := fun c9 x9 x10 => (m5 c9 x9 x10).trans (G4 c9 x9 x10)
          have T5 : TM Y5 L t := hT.c (G5 8 (by decide) (by decide)) (F5 209 (by decide))
          have H5 : hr Y5 v := hr_c (F5 204 (by decide)) hR
          refine eg_bi_ne 82 dX9_readsPart_67 rfl (fun h67 => ?_) (fun h67 => ?_)
          · have hw9 : wis L t (sk L t i) (we L t i) wPrk = true := h67.1
            have hv9 : v 3 = 16 := h67.2
            have eP : PT L t i v = .inl (8 * (sk L t i : Int) + 3) := by unfold PT; rw [if_neg (wis_n hw9 (show wSeg ≠ wPrk by decide)), if_neg (wis_n hw9 (show wIn ≠ wPrk by decide)), if_neg (wis_n hw9 (show wOut ≠ wPrk by decide)), if_neg (wis_n hw9 (show wShp ≠ wPrk by decide)), if_neg (wis_n hw9 (show wNom ≠ wPrk by decide)), if_pos hw9]; unfold fuR; rw [if_pos (decide_eq_true (by omega))]
            exact J82 Y5 0 F5 G5 a5 (by rw [e5, if_pos h67]) eP
          · have Z5 : Y5 202 10 = mf 0 := by rw [e5, if_neg h67]
            refine eg_al_n dX9_readsPart_70 rfl rfl ?_
            refine eg_ldcS (i := 23) rfl dX9_readsPart_71 ?_
            refine eg_iconst dX9_readsPart_73 ?_
            refine eg_bipush dX9_readsPart_74 (by decide) ?_
            refine eg_Vpf3 cs_X9_130 dX9_readsPart_76 (c_isFullOfS T5 H5 ht hi9 a5 Z5 (by decide) (by decide) (by show 0 ≤ v 3 ∧ v 3 ≤ 100; omega) (by decide)) (by first | exact er202 | exact er203 | exact er204 | exact er205 | exact er206 | exact er207 | exact er208 | exact er209 | exact er210 | exact er211 | exact er212 | exact er213 | exact er214 | exact er215) rfl (Nat.le_of_ble_eq_true rfl) (by decide) ?_
            rintro Y6 ⟨k6, m6, a6, e6⟩
            have F6 : ∀ c, c ≠ 202 → Y6 c = z c := fun c9 h9 => (k6 c9 h9).trans (F5 c9 h9)
            have G6 : ∀ j, j ≠ 9 → j ≠ 10 → Y6 202 j = z 202 j := fun c9 x9 x10 => (m6 c9 x9 x10).trans (G5 c9 x9 x10)
            have T6 : TM Y6 L t := hT.c (G6 8 (by decide) (by decide)) (F6 209 (by decide))
            have H6 : hr Y6 v := hr_c (F6 204 (by decide)) hR
            refine eg_bi_eq 86 dX9_readsPart_79 rfl (fun h79 => ?_) (fun h79 => ?_)
            · have Z6 : Y6 202 10 = mf 0 := by rw [e6, if_neg h79]
              refine eg_iconst dX9_readsPart_86 ?_
              refine eg_istore_n dX9_readsPart_87 rfl rfl rfl ?_
              refine eg_iload_n dX9_readsPart_88 rfl ?_
              refine eg_if_eq 93 dX9_readsPart_89 ⟨by omega, by omega⟩ rfl (fun h89 => ?_) (fun h89 => absurd h89 (by omega))
              exact J93 Y6 F6 G6 a6 Z6 h9 h21 h33 h55 h67 h79
            · have hw9 : wis L t (sk L t i) (we L t i) wLon = true := h79.1
              have hv9 : v 3 = 16 := h79.2
              have eP : PT L t i v = .inl (8 * (sk L t i : Int) + 3) := by unfold PT; rw [if_neg (wis_n hw9 (show wSeg ≠ wLon by decide)), if_neg (wis_n hw9 (show wIn ≠ wLon by decide)), if_neg (wis_n hw9 (show wOut ≠ wLon by decide)), if_neg (wis_n hw9 (show wShp ≠ wLon by decide)), if_neg (wis_n hw9 (show wNom ≠ wLon by decide)), if_neg (wis_n hw9 (show wPrk ≠ wLon by decide)), if_pos hw9]; unfold fuR; rw [if_pos (decide_eq_true (by omega))]
              exact J82 Y6 0 F6 G6 a6 (by rw [e6, if_pos h79]) eP
      · have hw9 : wis L t (sk L t i) (we L t i) wShp = true := h33.1
        have hv9 : v 2 = 6 := h33.2
        have eP : PT L t i v = .inl (8 * (sk L t i : Int) + 3) := by unfold PT; rw [if_neg (wis_n hw9 (show wSeg ≠ wShp by decide)), if_neg (wis_n hw9 (show wIn ≠ wShp by decide)), if_neg (wis_n hw9 (show wOut ≠ wShp by decide)), if_pos hw9]; unfold fuR; rw [if_pos (decide_eq_true (by omega))]
        exact J36 Y3 F3 G3 a3 (by rw [e3, if_pos h33]) eP
