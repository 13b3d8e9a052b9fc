theorem ov_s {v : eg_v} {c l : Int} {p : Int → Int} {i : Int} (h : 0 ≤ i) : ov v c l p (i + 1).toNat = if 0 < ov v c l p i.toNat ∧ qt v c l p i < p i then ov v c l p i.toNat - 1 else ov v c l p i.toNat := by
  obtain ⟨j, rfl⟩ : ∃ j : Nat, i = j := ⟨i.toNat, by omega⟩
  rw [show ((j : Int) + 1).toNat = j + 1 by omega, Int.toNat_natCast]
  rfl
set_option maxHeartbeats 1600000 in
theorem c_cutsAt {k : eg_K} {z : eg_Z} {X : eg_M} {n : Nat} {v : eg_v} (hN : nw z v) {B : Int} (hv : VV B v) {m C l : Int} {P Ct : Int → Int} (hm : isM v m) (hC : stM v m = C) (hk : okp v P) (hP : ∀ q : Int, 0 ≤ q → q < v 3 → z 211 q.toNat = P q) (hT : ∀ q : Int, 0 ≤ q → q < v 3 → z 214 q.toNat = Ct q) (hlz : z 210 m.toNat = l) (hl : 0 ≤ l ∧ l ≤ 19998) (hcb : ∀ q : Int, 0 ≤ q → q < v 3 → -2 ≤ Ct q ∧ Ct q ≤ 600) : eg_P k gX9_cutsAt 2 0 0 [vR k 202, vI m] n (enc k z X) (eg_p k none n X (fun z' => (∀ d, d ≠ 211 → d ≠ 214 → z' d = z d) ∧ ∀ q : Int, 0 ≤ q → q < v 3 → z' 211 q.toNat = sqP v C l P q ∧ z' 214 q.toNat = sqC v C l P Ct q)) := by
  refine eg_P.of (by decide) (Nat.le_of_ble_eq_true rfl) ?_
  show eg_E k gX9_cutsAt 2 0 0 n (enc k z X) [vR k 202, vI m, vU, vU, vU, vU, vU, vU] [] 0 _
  have q := hv.r.2
  have hm36 : 0 ≤ m ∧ m < 36 := by unfold isM at hm; omega
  have gE : ∀ i : Int, 0 ≤ i → i < v 3 → gbM v i m = gb v i C := fun i a b => by rw [gbM_e hv a b hm, hC]
  have tb := tg_b (c := C) hk
  have L3 : ¬ tg v C P ≤ l → ∀ (mm : Nat) (i : Int) (y : eg_Z) (w7 : Value), 0 ≤ i → i ≤ v 3 → (∀ d, d ≠ 211 → d ≠ 214 → y d = z d) → (∀ q : Int, 0 ≤ q → q < i → y 211 q.toNat = sqP v C l P q ∧ y 214 q.toNat = sqC v C l P Ct q) → (∀ q : Int, i ≤ q → q < v 3 → y 211 q.toNat = P q ∧ y 214 q.toNat = Ct q) → v 3 - i < (mm : Int) → eg_E k gX9_cutsAt 2 0 0 n (enc k y X) [vR k 202, vI m, vL (tg v C P), vU, vL (ov v C l P i.toNat), vU, vI i, w7] [] 127 (eg_p k none n X (fun z' => (∀ d, d ≠ 211 → d ≠ 214 → z' d = z d) ∧ ∀ q : Int, 0 ≤ q → q < v 3 → z' 211 q.toNat = sqP v C l P q ∧ z' 214 q.toNat = sqC v C l P Ct q)) := by
    intro ht mm
    induction mm with
    | zero => intro i y w7 h0 h1 hf ha hb hmm; exfalso; omega
    | succ mm ih =>
      intro i y w7 h0 h1 hf ha hb hmm
      have hNy : nw y v := nw_c (hf 203 (by decide) (by decide)) hN
      have sq0 := sqt (c := C) hk hl.1 (by omega)
      have o0 : 0 ≤ ov v C l P 0 := by show 0 ≤ l - _; omega
      have ob := ov_b o0 i.toNat
      have ob2 : ov v C l P 0 ≤ l := by
        have t0 : 0 ≤ sm (tgF v C (qt v C l P)) (v 3).toNat := (sm_b (K := 9999) (fun i a b => by have := qt_b hk hl.1 (show l < tg v C P by omega) (q := i) a (by omega); have := hk i a (by omega); unfold tgF; split <;> omega)).1
        show l - _ ≤ l; omega
      have es := ov_s (v := v) (c := C) (l := l) (p := P) h0
      have J235 : i < v 3 → ∀ y2 : eg_Z, (∀ d, d ≠ 211 → d ≠ 214 → y2 d = z d) → (∀ q : Int, 0 ≤ q → q < v 3 → y2 211 q.toNat = y 211 q.toNat) → (∀ q : Int, 0 ≤ q → q < v 3 → q ≠ i → y2 214 q.toNat = y 214 q.toNat) → y2 214 i.toNat = sqC v C l P Ct i → eg_E k gX9_cutsAt 2 0 0 n (enc k y2 X) [vR k 202, vI m, vL (tg v C P), vU, vL (ov v C l P (i + 1).toNat), vU, vI i, vI (sqP v C l P i)] [] 235 (eg_p k none n X (fun z' => (∀ d, d ≠ 211 → d ≠ 214 → z' d = z d) ∧ ∀ q : Int, 0 ≤ q → q < v 3 → z' 211 q.toNat = sqP v C l P q ∧ z' 214 q.toNat = sqC v C l P Ct q)) := by
        intro hi y2 g1 g2 g3 g4
        refine eg_al_n dX9_cutsAt_235 rfl rfl ?_
        refine eg_get fl_X9_37 dX9_cutsAt_236 (by first | exact er202 | exact er203 | exact er204 | exact er205 | exact er206 | exact er207 | exact er208 | exact er209 | exact er210 | exact er211 | exact er212 | exact er213 | exact er214 | exact er215) rfl ?_
        refine eg_iload dX9_cutsAt_239 rfl ?_
        refine eg_iload dX9_cutsAt_241 rfl ?_
        refine eg_iast dX9_cutsAt_243 (by first | exact er202 | exact er203 | exact er204 | exact er205 | exact er206 | exact er207 | exact er208 | exact er209 | exact er210 | exact er211 | exact er212 | exact er213 | exact er214 | exact er215) (by omega) (by omega) (by decide) ?_
        refine eg_eqM (es211) ?_
        refine eg_iinc dX9_cutsAt_244 rfl rfl rfl ?_
        refine eg_goto 127 dX9_cutsAt_247 rfl ?_
        refine ih (i + 1) _ _ (by omega) (by omega) (fun d d1 d2 => by rw [va_up_n _ _ d1]; exact g1 d d1 d2) (fun q9 a b => ?_) (fun q9 a b => ?_) (by omega)
        · rw [va_up_s, va_up_n _ _ (show (214 : Nat) ≠ 211 by decide)]
          by_cases e : q9 = i
          · subst e; rw [va_up_s]; exact ⟨rfl, g4⟩
          · rw [va_up_n _ _ (by omega), g2 q9 a (by omega), g3 q9 a (by omega) e]; exact ha q9 a (by omega)
        · rw [va_up_s, va_up_n _ _ (show (214 : Nat) ≠ 211 by decide), va_up_n _ _ (by omega), g2 q9 (by omega) b, g3 q9 (by omega) b (by omega)]; exact hb q9 (by omega) b
      have J199 : i < v 3 → eg_E k gX9_cutsAt 2 0 0 n (enc k y X) [vR k 202, vI m, vL (tg v C P), vU, vL (ov v C l P (i + 1).toNat), vU, vI i, vI (sqP v C l P i)] [] 199 (eg_p k none n X (fun z' => (∀ d, d ≠ 211 → d ≠ 214 → z' d = z d) ∧ ∀ q : Int, 0 ≤ q → q < v 3 → z' 211 q.toNat = sqP v C l P q ∧ z' 214 q.toNat = sqC v C l P Ct q)) := by
        intro hi
        have pb := hk i h0 hi
        have sb := sqP_b (c := C) hk hl.1 h0 hi
        have cb := hcb i h0 hi
        have hbi := hb i (by omega) hi
        refine eg_iload dX9_cutsAt_199 rfl ?_
        refine eg_al_n dX9_cutsAt_201 rfl rfl ?_
        refine eg_get fl_X9_37 dX9_cutsAt_202 (by first | exact er202 | exact er203 | exact er204 | exact er205 | exact er206 | exact er207 | exact er208 | exact er209 | exact er210 | exact er211 | exact er212 | exact er213 | exact er214 | exact er215) rfl ?_
        refine eg_iload dX9_cutsAt_205 rfl ?_
        refine eg_iald dX9_cutsAt_207 (by first | exact er202 | exact er203 | exact er204 | exact er205 | exact er206 | exact er207 | exact er208 | exact er209 | exact er210 | exact er211 | exact er212 | exact er213 | exact er214 | exact er215) (by omega) (by omega) (by decide) ?_
        refine eg_eqI hbi.1 ?_
        refine eg_icmp_ge 235 dX9_cutsAt_208 ⟨by omega, by omega⟩ ⟨by omega, by omega⟩ rfl (fun h208 => ?_) (fun h208 => ?_)
        · first | (refine J235 hi y hf (fun _ _ _ => rfl) (fun _ _ _ _ => rfl) ?_; rw [hbi.2]; unfold sqC; rw [if_neg (by omega)]) | (refine J235 hi _ (fun d d1 d2 => by rw [va_up_n _ _ d2]; exact hf d d1 d2) (fun q9 _ _ => by rw [va_up_n _ _ (by decide)]) (fun q9 a b e => by rw [va_up_s, va_up_n _ _ (by omega)]) ?_; rw [va_up_s, va_up_s]; unfold sqC; rw [if_pos (by omega)])
        · refine eg_al_n dX9_cutsAt_211 rfl rfl ?_
          refine eg_get fl_X9_46 dX9_cutsAt_212 (by first | exact er202 | exact er203 | exact er204 | exact er205 | exact er206 | exact er207 | exact er208 | exact er209 | exact er210 | exact er211 | exact er212 | exact er213 | exact er214 | exact er215) rfl ?_
          refine eg_iload dX9_cutsAt_215 rfl ?_
          refine eg_iald dX9_cutsAt_217 (by first | exact er202 | exact er203 | exact er204 | exact er205 | exact er206 | exact er207 | exact er208 | exact er209 | exact er210 | exact er211 | exact er212 | exact er213 | exact er214 | exact er215) (by omega) (by omega) (by decide) ?_
          refine eg_eqI hbi.2 ?_
          refine eg_bipush dX9_cutsAt_218 (by decide) ?_
          refine eg_icmp_ne 235 dX9_cutsAt_220 ⟨by omega, by omega⟩ ⟨by omega, by omega⟩ rfl (fun h220 => ?_) (fun h220 => ?_)
          · first | (refine J235 hi y hf (fun _ _ _ => rfl) (fun _ _ _ _ => rfl) ?_; rw [hbi.2]; unfold sqC; rw [if_neg (by omega)]) | (refine J235 hi _ (fun d d1 d2 => by rw [va_up_n _ _ d2]; exact hf d d1 d2) (fun q9 _ _ => by rw [va_up_n _ _ (by decide)]) (fun q9 a b e => by rw [va_up_s, va_up_n _ _ (by omega)]) ?_; rw [va_up_s, va_up_s]; unfold sqC; rw [if_pos (by omega)])
          · refine eg_al_n dX9_cutsAt_223 rfl rfl ?_
            refine eg_get fl_X9_46 dX9_cutsAt_224 (by first | exact er202 | exact er203 | exact er204 | exact er205 | exact er206 | exact er207 | exact er208 | exact er209 | exact er210 | exact er211 | exact er212 | exact er213 | exact er214 | exact er215) rfl ?_
            refine eg_iload dX9_cutsAt_227 rfl ?_
            refine eg_al_n dX9_cutsAt_229 rfl rfl ?_
            refine eg_iload_n dX9_cutsAt_230 rfl ?_
            refine eg_Vf1 cs_X9_264 dX9_cutsAt_231 (c_codeOf hNy hv hm36 (by unfold isM at hm; omega)) (by first | exact er202 | exact er203 | exact er204 | exact er205 | exact er206 | exact er207 | exact er208 | exact er209 | exact er210 | exact er211 | exact er212 | exact er213 | exact er214 | exact er215) rfl (Nat.le_of_ble_eq_true rfl) (by decide) ?_
            rw [hC]
            refine eg_iast dX9_cutsAt_234 (by first | exact er202 | exact er203 | exact er204 | exact er205 | exact er206 | exact er207 | exact er208 | exact er209 | exact er210 | exact er211 | exact er212 | exact er213 | exact er214 | exact er215) (by omega) (by omega) (by decide) ?_
            refine eg_eqM (es214) ?_
            first | (refine J235 hi y hf (fun _ _ _ => rfl) (fun _ _ _ _ => rfl) ?_; rw [hbi.2]; unfold sqC; rw [if_neg (by omega)]) | (refine J235 hi _ (fun d d1 d2 => by rw [va_up_n _ _ d2]; exact hf d d1 d2) (fun q9 _ _ => by rw [va_up_n _ _ (by decide)]) (fun q9 a b e => by rw [va_up_s, va_up_n _ _ (by omega)]) ?_; rw [va_up_s, va_up_s]; unfold sqC; rw [if_pos (by omega)])
      refine eg_iload dX9_cutsAt_127 rfl ?_
      refine eg_al_n dX9_cutsAt_129 rfl rfl ?_
      refine eg_iconst dX9_cutsAt_130 ?_
      refine eg_Vf1 cs_X9_179 dX9_cutsAt_131 (many_3 hNy) (by first | exact er202 | exact er203 | exact er204 | exact er205 | exact er206 | exact er207 | exact er208 | exact er209 | exact er210 | exact er211 | exact er212 | exact er213 | exact er214 | exact er215) rfl (Nat.le_of_ble_eq_true rfl) (by decide) ?_
      refine eg_icmp_ge 250 dX9_cutsAt_134 ⟨by omega, by omega⟩ ⟨by omega, by omega⟩ rfl (fun h134 => ?_) (fun h134 => ?_)
      · refine eg_return dX9_cutsAt_250 rfl ?_
        exact ⟨rfl, rfl, y, rfl, hf, fun q9 a b => ha q9 a (by omega)⟩
      · have hi : i < v 3 := by omega
        refine eg_al_n dX9_cutsAt_137 rfl rfl ?_
        refine eg_iload dX9_cutsAt_138 rfl ?_
        refine eg_iload_n dX9_cutsAt_140 rfl ?_
        refine eg_Vf2 cs_X9_261 dX9_cutsAt_141 (c_goesBy hNy hv (by omega) (by omega) hm36) (by first | exact er202 | exact er203 | exact er204 | exact er205 | exact er206 | exact er207 | exact er208 | exact er209 | exact er210 | exact er211 | exact er212 | exact er213 | exact er214 | exact er215) rfl (Nat.le_of_ble_eq_true rfl) (by decide) ?_
        refine eg_bi_ne 150 dX9_cutsAt_144 rfl (fun h144 => ?_) (fun h144 => ?_)
        · have hi : i < v 3 := by omega
          have pb := hk i h0 hi
          have hbi := hb i (by omega) hi
          have mb := mul_b pb.1 pb.2 hl.1 hl.2
          refine eg_al_n dX9_cutsAt_150 rfl rfl ?_
          refine eg_get fl_X9_37 dX9_cutsAt_151 (by first | exact er202 | exact er203 | exact er204 | exact er205 | exact er206 | exact er207 | exact er208 | exact er209 | exact er210 | exact er211 | exact er212 | exact er213 | exact er214 | exact er215) rfl ?_
          refine eg_iload dX9_cutsAt_154 rfl ?_
          refine eg_iald dX9_cutsAt_156 (by first | exact er202 | exact er203 | exact er204 | exact er205 | exact er206 | exact er207 | exact er208 | exact er209 | exact er210 | exact er211 | exact er212 | exact er213 | exact er214 | exact er215) (by omega) (by omega) (by decide) ?_
          refine eg_eqI hbi.1 ?_
          refine eg_i2l dX9_cutsAt_157 ⟨by omega, by omega⟩ ?_
          refine eg_al_n dX9_cutsAt_158 rfl rfl ?_
          refine eg_get fl_X9_33 dX9_cutsAt_159 (by first | exact er202 | exact er203 | exact er204 | exact er205 | exact er206 | exact er207 | exact er208 | exact er209 | exact er210 | exact er211 | exact er212 | exact er213 | exact er214 | exact er215) rfl ?_
          refine eg_iload_n dX9_cutsAt_162 rfl ?_
          refine eg_iald dX9_cutsAt_163 (by first | exact er202 | exact er203 | exact er204 | exact er205 | exact er206 | exact er207 | exact er208 | exact er209 | exact er210 | exact er211 | exact er212 | exact er213 | exact er214 | exact er215) (by omega) (by omega) (by decide) ?_
          refine eg_eqI (show y 210 m.toNat = l by rw [hf 210 (by decide) (by decide), hlz]) ?_
          refine eg_i2l dX9_cutsAt_164 ⟨by omega, by omega⟩ ?_
          refine eg_lmul dX9_cutsAt_165 ?_
          refine eg_lload_n dX9_cutsAt_166 rfl ?_
          refine eg_ldiv dX9_cutsAt_167 ⟨by omega, by omega⟩ ⟨by omega, by omega⟩ (by omega) (by omega) ?_
          have gt : gb v i C = true := by rw [← gE i h0 hi]; exact h144
          have eq9 : qt v C l P i = P i * l / tg v C P := by unfold qt; rw [if_pos gt]
          have qb := qt_b hk hl.1 (show l < tg v C P by omega) (q := i) h0 hi
          rw [eq9] at qb es
          have sqE : sqP v C l P i = if 0 < ov v C l P i.toNat ∧ P i * l / tg v C P < P i then P i * l / tg v C P + 1 else P i * l / tg v C P := by unfold sqP; rw [if_neg ht, eq9]
          refine eg_l2i dX9_cutsAt_168 ?_
          refine eg_istore dX9_cutsAt_169 rfl rfl rfl ?_
          refine eg_iload dX9_cutsAt_171 rfl ?_
          refine eg_al_n dX9_cutsAt_173 rfl rfl ?_
          refine eg_get fl_X9_37 dX9_cutsAt_174 (by first | exact er202 | exact er203 | exact er204 | exact er205 | exact er206 | exact er207 | exact er208 | exact er209 | exact er210 | exact er211 | exact er212 | exact er213 | exact er214 | exact er215) rfl ?_
          refine eg_iload dX9_cutsAt_177 rfl ?_
          refine eg_iald dX9_cutsAt_179 (by first | exact er202 | exact er203 | exact er204 | exact er205 | exact er206 | exact er207 | exact er208 | exact er209 | exact er210 | exact er211 | exact er212 | exact er213 | exact er214 | exact er215) (by omega) (by omega) (by decide) ?_
          refine eg_eqI hbi.1 ?_
          refine eg_icmp_ge 199 dX9_cutsAt_180 ⟨by omega, by omega⟩ ⟨by omega, by omega⟩ rfl (fun h180 => ?_) (fun h180 => ?_)
          · first | (rw [if_pos (by omega)] at es sqE; have := J199 hi; rw [es, sqE] at this; exact this) | (rw [if_neg (by omega)] at es sqE; have := J199 hi; rw [es, sqE] at this; exact this)
          · refine eg_lload dX9_cutsAt_183 rfl ?_
            refine eg_lk0 dX9_cutsAt_185 ?_
            refine eg_lc_le 199 dX9_cutsAt_186 dX9_cutsAt_187 ⟨by omega, by omega⟩ ⟨by omega, by omega⟩ rfl (fun h186 => ?_) (fun h186 => ?_)
            · first | (rw [if_pos (by omega)] at es sqE; have := J199 hi; rw [es, sqE] at this; exact this) | (rw [if_neg (by omega)] at es sqE; have := J199 hi; rw [es, sqE] at this; exact this)
            · refine eg_iinc dX9_cutsAt_190 rfl rfl rfl ?_
              refine eg_lload dX9_cutsAt_193 rfl ?_
              refine eg_lk1 dX9_cutsAt_195 ?_
              refine eg_lsub dX9_cutsAt_196 ?_
              refine eg_lstore dX9_cutsAt_197 rfl rfl rfl ?_
              first | (rw [if_pos (by omega)] at es sqE; have := J199 hi; rw [es, sqE] at this; exact this) | (rw [if_neg (by omega)] at es sqE; have := J199 hi; rw [es, sqE] at this; exact this)
        · have gf : gb v i C = false := by rw [← gE i h0 hi]; exact Bool.eq_false_iff.mpr h144
          refine eg_goto 244 dX9_cutsAt_147 rfl ?_
          refine eg_iinc dX9_cutsAt_244 rfl rfl rfl ?_
          refine eg_goto 127 dX9_cutsAt_247 rfl ?_
          have qf : qt v C l P i = P i := by unfold qt; rw [gf]; rfl
          rw [qf, if_neg (by omega)] at es
          have sf : sqP v C l P i = P i := by unfold sqP; rw [if_neg ht, qf, if_neg (by omega)]
          have := ih (i + 1) y w7 (by omega) (by omega) hf (fun q9 a b => ?_) (fun q9 a b => hb q9 (by omega) b) (by omega)
          · rw [es] at this; exact this
          · by_cases e : q9 = i
            · subst e; have := hb q9 (by omega) hi; rw [this.1, this.2, sf]; unfold sqC; rw [sf, if_neg (by omega)]; exact ⟨rfl, rfl⟩
            · exact ha q9 a (by omega)
  have L2 : ¬ tg v C P ≤ l → ∀ (mm : Nat) (i : Int) (w7 : Value), 0 ≤ i → i ≤ v 3 → v 3 - i < (mm : Int) → eg_E k gX9_cutsAt 2 0 0 n (enc k z X) [vR k 202, vI m, vL (tg v C P), vU, vL (l - sm (tgF v C (qt v C l P)) i.toNat), vU, vI i, w7] [] 71 (eg_p k none n X (fun z' => (∀ d, d ≠ 211 → d ≠ 214 → z' d = z d) ∧ ∀ q : Int, 0 ≤ q → q < v 3 → z' 211 q.toNat = sqP v C l P q ∧ z' 214 q.toNat = sqC v C l P Ct q)) := by
    intro ht mm
    induction mm with
    | zero => intro i w7 h0 h1 hmm; exfalso; omega
    | succ mm ih =>
      intro i w7 h0 h1 hmm
      refine eg_iload dX9_cutsAt_71 rfl ?_
      refine eg_al_n dX9_cutsAt_73 rfl rfl ?_
      refine eg_iconst dX9_cutsAt_74 ?_
      refine eg_Vf1 cs_X9_179 dX9_cutsAt_75 (many_3 hN) (by first | exact er202 | exact er203 | exact er204 | exact er205 | exact er206 | exact er207 | exact er208 | exact er209 | exact er210 | exact er211 | exact er212 | exact er213 | exact er214 | exact er215) rfl (Nat.le_of_ble_eq_true rfl) (by decide) ?_
      refine eg_icmp_ge 124 dX9_cutsAt_78 ⟨by omega, by omega⟩ ⟨by omega, by omega⟩ rfl (fun h78 => ?_) (fun h78 => ?_)
      · refine eg_iconst dX9_cutsAt_124 ?_
        refine eg_istore dX9_cutsAt_125 rfl rfl rfl ?_
        have e : i = v 3 := by omega
        subst e
        exact L3 ht 17 0 z _ (by omega) (by omega) (fun _ _ _ => rfl) (fun q9 a b => by omega) (fun q9 a b => ⟨hP q9 a b, hT q9 a b⟩) (by omega)
      · have hi : i < v 3 := by omega
        refine eg_lload dX9_cutsAt_81 rfl ?_
        refine eg_al_n dX9_cutsAt_83 rfl rfl ?_
        refine eg_iload dX9_cutsAt_84 rfl ?_
        refine eg_iload_n dX9_cutsAt_86 rfl ?_
        refine eg_Vf2 cs_X9_261 dX9_cutsAt_87 (c_goesBy hN hv (by omega) (by omega) hm36) (by first | exact er202 | exact er203 | exact er204 | exact er205 | exact er206 | exact er207 | exact er208 | exact er209 | exact er210 | exact er211 | exact er212 | exact er213 | exact er214 | exact er215) rfl (Nat.le_of_ble_eq_true rfl) (by decide) ?_
        refine eg_bi_eq 114 dX9_cutsAt_90 rfl (fun h90 => ?_) (fun h90 => ?_)
        · refine eg_lk0 dX9_cutsAt_114 ?_
          refine eg_lsub dX9_cutsAt_115 ?_
          refine eg_eqL (y := l - sm (tgF v C (qt v C l P)) (i + 1).toNat) (by rw [sm_s _ h0]; unfold tgF qt; rw [← gE i h0 hi]; first | (rw [if_pos h90, if_pos h90]; omega) | (rw [if_neg h90]; show _ - (0 : Int) = _; omega)) ?_
          refine eg_lstore dX9_cutsAt_116 rfl rfl rfl ?_
          refine eg_iinc dX9_cutsAt_118 rfl rfl rfl ?_
          refine eg_goto 71 dX9_cutsAt_121 rfl ?_
          exact ih (i + 1) _ (by omega) (by omega) (by omega)
        · have pb := hk i h0 hi
          have mb := mul_b pb.1 pb.2 hl.1 hl.2
          refine eg_al_n dX9_cutsAt_93 rfl rfl ?_
          refine eg_get fl_X9_37 dX9_cutsAt_94 (by first | exact er202 | exact er203 | exact er204 | exact er205 | exact er206 | exact er207 | exact er208 | exact er209 | exact er210 | exact er211 | exact er212 | exact er213 | exact er214 | exact er215) rfl ?_
          refine eg_iload dX9_cutsAt_97 rfl ?_
          refine eg_iald dX9_cutsAt_99 (by first | exact er202 | exact er203 | exact er204 | exact er205 | exact er206 | exact er207 | exact er208 | exact er209 | exact er210 | exact er211 | exact er212 | exact er213 | exact er214 | exact er215) (by omega) (by omega) (by decide) ?_
          refine eg_eqI (hP i h0 hi) ?_
          refine eg_i2l dX9_cutsAt_100 ⟨by omega, by omega⟩ ?_
          refine eg_al_n dX9_cutsAt_101 rfl rfl ?_
          refine eg_get fl_X9_33 dX9_cutsAt_102 (by first | exact er202 | exact er203 | exact er204 | exact er205 | exact er206 | exact er207 | exact er208 | exact er209 | exact er210 | exact er211 | exact er212 | exact er213 | exact er214 | exact er215) rfl ?_
          refine eg_iload_n dX9_cutsAt_105 rfl ?_
          refine eg_iald dX9_cutsAt_106 (by first | exact er202 | exact er203 | exact er204 | exact er205 | exact er206 | exact er207 | exact er208 | exact er209 | exact er210 | exact er211 | exact er212 | exact er213 | exact er214 | exact er215) (by omega) (by omega) (by decide) ?_
          refine eg_eqI hlz ?_
          refine eg_i2l dX9_cutsAt_107 ⟨by omega, by omega⟩ ?_
          refine eg_lmul dX9_cutsAt_108 ?_
          refine eg_lload_n dX9_cutsAt_109 rfl ?_
          refine eg_ldiv dX9_cutsAt_110 ⟨by omega, by omega⟩ ⟨by omega, by omega⟩ (by omega) (by omega) ?_
          refine eg_goto 115 dX9_cutsAt_111 rfl ?_
          refine eg_lsub dX9_cutsAt_115 ?_
          refine eg_eqL (y := l - sm (tgF v C (qt v C l P)) (i + 1).toNat) (by rw [sm_s _ h0]; unfold tgF qt; rw [← gE i h0 hi]; first | (rw [if_pos h90, if_pos h90]; omega) | (rw [if_neg h90]; show _ - (0 : Int) = _; omega)) ?_
          refine eg_lstore dX9_cutsAt_116 rfl rfl rfl ?_
          refine eg_iinc dX9_cutsAt_118 rfl rfl rfl ?_
          refine eg_goto 71 dX9_cutsAt_121 rfl ?_
          exact ih (i + 1) _ (by omega) (by omega) (by omega)
  have L1 : ∀ (mm : Nat) (i : Int), 0 ≤ i → i ≤ v 3 → v 3 - i < (mm : Int) → eg_E k gX9_cutsAt 2 0 0 n (enc k z X) [vR k 202, vI m, vL (sm (tgF v C P) i.toNat), vU, vI i, vU, vU, vU] [] 5 (eg_p k none n X (fun z' => (∀ d, d ≠ 211 → d ≠ 214 → z' d = z d) ∧ ∀ q : Int, 0 ≤ q → q < v 3 → z' 211 q.toNat = sqP v C l P q ∧ z' 214 q.toNat = sqC v C l P Ct q)) := by
    intro mm
    induction mm with
    | zero => intro i h0 h1 hmm; exfalso; omega
    | succ mm ih =>
      intro i h0 h1 hmm
      refine eg_iload dX9_cutsAt_5 rfl ?_
      refine eg_al_n dX9_cutsAt_7 rfl rfl ?_
      refine eg_iconst dX9_cutsAt_8 ?_
      refine eg_Vf1 cs_X9_179 dX9_cutsAt_9 (many_3 hN) (by first | exact er202 | exact er203 | exact er204 | exact er205 | exact er206 | exact er207 | exact er208 | exact er209 | exact er210 | exact er211 | exact er212 | exact er213 | exact er214 | exact er215) rfl (Nat.le_of_ble_eq_true rfl) (by decide) ?_
      refine eg_icmp_ge 46 dX9_cutsAt_12 ⟨by omega, by omega⟩ ⟨by omega, by omega⟩ rfl (fun h12 => ?_) (fun h12 => ?_)
      · have e : i = v 3 := by omega
        subst e
        rw [show sm (tgF v C P) (v 3).toNat = tg v C P from rfl]
        refine eg_lload_n dX9_cutsAt_46 rfl ?_
        refine eg_al_n dX9_cutsAt_47 rfl rfl ?_
        refine eg_get fl_X9_33 dX9_cutsAt_48 (by first | exact er202 | exact er203 | exact er204 | exact er205 | exact er206 | exact er207 | exact er208 | exact er209 | exact er210 | exact er211 | exact er212 | exact er213 | exact er214 | exact er215) rfl ?_
        refine eg_iload_n dX9_cutsAt_51 rfl ?_
        refine eg_iald dX9_cutsAt_52 (by first | exact er202 | exact er203 | exact er204 | exact er205 | exact er206 | exact er207 | exact er208 | exact er209 | exact er210 | exact er211 | exact er212 | exact er213 | exact er214 | exact er215) (by omega) (by omega) (by decide) ?_
        refine eg_eqI hlz ?_
        refine eg_i2l dX9_cutsAt_53 ⟨by omega, by omega⟩ ?_
        refine eg_lc_gt 59 dX9_cutsAt_54 dX9_cutsAt_55 ⟨by omega, by omega⟩ ⟨by omega, by omega⟩ rfl (fun h54 => ?_) (fun h54 => ?_)
        · refine eg_al_n dX9_cutsAt_59 rfl rfl ?_
          refine eg_get fl_X9_33 dX9_cutsAt_60 (by first | exact er202 | exact er203 | exact er204 | exact er205 | exact er206 | exact er207 | exact er208 | exact er209 | exact er210 | exact er211 | exact er212 | exact er213 | exact er214 | exact er215) rfl ?_
          refine eg_iload_n dX9_cutsAt_63 rfl ?_
          refine eg_iald dX9_cutsAt_64 (by first | exact er202 | exact er203 | exact er204 | exact er205 | exact er206 | exact er207 | exact er208 | exact er209 | exact er210 | exact er211 | exact er212 | exact er213 | exact er214 | exact er215) (by omega) (by omega) (by decide) ?_
          refine eg_eqI hlz ?_
          refine eg_i2l dX9_cutsAt_65 ⟨by omega, by omega⟩ ?_
          refine eg_lstore dX9_cutsAt_66 rfl rfl rfl ?_
          refine eg_iconst dX9_cutsAt_68 ?_
          refine eg_istore dX9_cutsAt_69 rfl rfl rfl ?_
          have := L2 (by omega) 17 0 vU (by omega) (by omega) (by omega)
          rw [show l - sm (tgF v C (qt v C l P)) (0 : Int).toNat = l from Int.sub_zero l] at this
          exact this
        · refine eg_return dX9_cutsAt_58 rfl ?_
          refine ⟨rfl, rfl, z, rfl, fun _ _ _ => rfl, fun q9 a b => ?_⟩
          have sf : sqP v C l P q9 = P q9 := by unfold sqP; rw [if_pos (by omega)]
          rw [sf, hP q9 a b, hT q9 a b]
          unfold sqC
          rw [sf, if_neg (by omega)]
          exact ⟨rfl, rfl⟩
      · have hi : i < v 3 := by omega
        refine eg_lload_n dX9_cutsAt_15 rfl ?_
        refine eg_al_n dX9_cutsAt_16 rfl rfl ?_
        refine eg_iload dX9_cutsAt_17 rfl ?_
        refine eg_iload_n dX9_cutsAt_19 rfl ?_
        refine eg_Vf2 cs_X9_261 dX9_cutsAt_20 (c_goesBy hN hv (by omega) (by omega) hm36) (by first | exact er202 | exact er203 | exact er204 | exact er205 | exact er206 | exact er207 | exact er208 | exact er209 | exact er210 | exact er211 | exact er212 | exact er213 | exact er214 | exact er215) rfl (Nat.le_of_ble_eq_true rfl) (by decide) ?_
        refine eg_bi_eq 37 dX9_cutsAt_23 rfl (fun h23 => ?_) (fun h23 => ?_)
        · refine eg_lk0 dX9_cutsAt_37 ?_
          refine eg_ladd dX9_cutsAt_38 ?_
          refine eg_eqL (y := sm (tgF v C P) (i + 1).toNat) (by rw [sm_s _ h0]; unfold tgF; rw [← gE i h0 hi]; first | rw [if_pos h23] | (rw [if_neg h23]; rfl) | rw [if_neg h23]) ?_
          refine eg_lstore_n dX9_cutsAt_39 rfl rfl rfl ?_
          refine eg_iinc dX9_cutsAt_40 rfl rfl rfl ?_
          refine eg_goto 5 dX9_cutsAt_43 rfl ?_
          exact ih (i + 1) (by omega) (by omega) (by omega)
        · refine eg_al_n dX9_cutsAt_26 rfl rfl ?_
          refine eg_get fl_X9_37 dX9_cutsAt_27 (by first | exact er202 | exact er203 | exact er204 | exact er205 | exact er206 | exact er207 | exact er208 | exact er209 | exact er210 | exact er211 | exact er212 | exact er213 | exact er214 | exact er215) rfl ?_
          refine eg_iload dX9_cutsAt_30 rfl ?_
          refine eg_iald dX9_cutsAt_32 (by first | exact er202 | exact er203 | exact er204 | exact er205 | exact er206 | exact er207 | exact er208 | exact er209 | exact er210 | exact er211 | exact er212 | exact er213 | exact er214 | exact er215) (by omega) (by omega) (by decide) ?_
          refine eg_eqI (hP i h0 hi) ?_
          have pb := hk i h0 hi
          refine eg_i2l dX9_cutsAt_33 ⟨by omega, by omega⟩ ?_
          refine eg_goto 38 dX9_cutsAt_34 rfl ?_
          refine eg_ladd dX9_cutsAt_38 ?_
          refine eg_eqL (y := sm (tgF v C P) (i + 1).toNat) (by rw [sm_s _ h0]; unfold tgF; rw [← gE i h0 hi]; first | rw [if_pos h23] | (rw [if_neg h23]; rfl) | rw [if_neg h23]) ?_
          refine eg_lstore_n dX9_cutsAt_39 rfl rfl rfl ?_
          refine eg_iinc dX9_cutsAt_40 rfl rfl rfl ?_
          refine eg_goto 5 dX9_cutsAt_43 rfl ?_
          exact ih (i + 1) (by omega) (by omega) (by omega)
  refine eg_lk0 dX9_cutsAt_0 ?_
  refine eg_lstore_n dX9_cutsAt_1 rfl rfl rfl ?_
  refine eg_iconst dX9_cutsAt_2 ?_
  refine eg_istore dX9_cutsAt_3 rfl rfl rfl ?_
  exact L1 17 0 (by omega) (by omega) (by omega)
