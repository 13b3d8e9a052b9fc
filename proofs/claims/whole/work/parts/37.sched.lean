/-- the parts of a class: 0 FIRM, then by rank -/
def pC (v : eg_v) : Nat → Int → Int
  | 0 => fa v
  | j + 1 => pr v ((j + 1 : Nat) : Int)
/-- what is left, scheduled, and where it was cut, behind j classes -/
def LL (v : eg_v) : Nat → Int → Int
  | 0 => l0 v
  | j + 1 => fun c => LL v j c - tg v c (pz v (LL v j) (pC v j) 46)
def SS (v : eg_v) : Nat → Int → Int
  | 0 => fun _ => 0
  | j + 1 => fun q => SS v j q + pz v (LL v j) (pC v j) 46 q
def CC (v : eg_v) : Nat → Int → Int
  | 0 => fun _ => -2
  | j + 1 => cz v (LL v j) (pC v j) (CC v j) 46
theorem pC_ok {v : eg_v} {B : Int} (hv : VV B v) : ∀ j : Nat, okp v (pC v j)
  | 0 => fa_ok hv
  | j + 1 => pr_b hv
theorem LL_b {v : eg_v} {B : Int} (hv : VV B v) (hk : PK v) : ∀ (j : Nat) (c : Nat), c < 46 → 0 ≤ LL v j c ∧ LL v j c ≤ 19998
  | 0, c, hc => l0_b hv hk ⟨by omega, by omega⟩
  | j + 1, c, hc => by
    have a := LL_b hv hk j
    have h1 := pz_l (pC_ok hv j) (fun d hd => (a d hd).1) hc
    have h2 := (tg_b (c := c) (pz_b (pC_ok hv j) (fun d hd => (a d hd).1) 46 (by omega)).1).1
    have h3 := a c hc
    show 0 ≤ LL v j c - tg v c (pz v (LL v j) (pC v j) 46) ∧ LL v j c - tg v c (pz v (LL v j) (pC v j) 46) ≤ 19998
    omega
theorem CC_b {v : eg_v} : ∀ (j : Nat) (q : Int), 0 ≤ q → q < v 3 → -2 ≤ CC v j q ∧ CC v j q ≤ 600
  | 0, q, _, _ => ⟨Int.le_refl _, by show (-2 : Int) ≤ 600; decide⟩
  | j + 1, q, h0, h1 => cz_b (CC_b j) 46 (by omega) q h0 h1
theorem z_pz {v : eg_v} {l p : Int → Int} (h : agr v p (fun _ => 0)) (hl : ∀ c : Nat, c < 46 → 0 ≤ l c) : ∀ m : Nat, m ≤ 46 → agr v (pz v l p m) (fun _ => 0)
  | 0, _ => h
  | m + 1, hm => fun q h0 h1 => by
    have a := z_pz h hl m (by omega)
    have e : tg v m (pz v l p m) = 0 := by
      rw [tg_c a]
      have := tg_b (v := v) (c := m) (p := fun _ => 0) (fun _ _ _ => ⟨Int.le_refl _, by show (0 : Int) ≤ 9999; decide⟩)
      have h2 : tg v m (fun _ => 0) ≤ 0 := by
        have e1 : ∀ n, sm (tgF v m (fun _ => 0)) n = 0 := by
          intro n
          induction n with
          | zero => rfl
          | succ n ih => show sm (tgF v m (fun _ => 0)) n + tgF v m (fun _ => 0) n = 0; rw [ih]; unfold tgF; split <;> rfl
        show sm (tgF v m (fun _ => 0)) _ ≤ 0
        rw [e1]
        exact Int.le_refl _
      omega
    show sqP v m (l m) (pz v l p m) q = 0
    unfold sqP
    rw [if_pos (by rw [e]; exact hl m (by omega))]
    exact a q h0 h1
theorem z_tg {v : eg_v} {c : Int} {p : Int → Int} (h : agr v p (fun _ => 0)) : tg v c p = 0 := by
  rw [tg_c h]
  have e1 : ∀ n, sm (tgF v c (fun _ => 0)) n = 0 := by
    intro n
    induction n with
    | zero => rfl
    | succ n ih => show sm (tgF v c (fun _ => 0)) n + tgF v c (fun _ => 0) n = 0; rw [ih]; unfold tgF; split <;> rfl
  exact e1 _
theorem z_cz {v : eg_v} {l p ct : Int → Int} (h : agr v p (fun _ => 0)) (hl : ∀ c : Nat, c < 46 → 0 ≤ l c) : ∀ m : Nat, m ≤ 46 → agr v (cz v l p ct m) ct
  | 0, _ => fun _ _ _ => rfl
  | m + 1, hm => fun q h0 h1 => by
    have a : pz v l p m q = 0 := z_pz h hl m (by omega) q h0 h1
    have b := z_pz h hl (m + 1) hm q h0 h1
    have b : sqP v m (l m) (pz v l p m) q = 0 := b
    show sqC v m (l m) (pz v l p m) (cz v l p ct m) q = ct q
    unfold sqC
    rw [b, a, if_neg (by omega)]
    exact z_cz h hl m (by omega) q h0 h1
/-- the schedule's cells behind j classes -/
def SJ (v : eg_v) (j : Nat) (y : eg_Z) : Prop := y 25 8 = v 3 ∧ (∀ c : Nat, c < 46 → y 29 c = LL v j c) ∧ (∀ q : Int, 0 ≤ q → q < v 3 → y 26 q.toNat = SS v j q ∧ y 28 q.toNat = CC v j q) ∧ ∀ c : Nat, c < 46 → y 30 c = (gm v c (v 3).toNat : Int)
theorem SJ.skip {v : eg_v} {B : Int} (hv : VV B v) (hk : PK v) {j : Nat} {y : eg_Z} (h : SJ v j y) (hz : agr v (pC v j) (fun _ => 0)) : SJ v (j + 1) y := by
  obtain ⟨h1, h2, h3, h4⟩ := h
  have hl : ∀ c : Nat, c < 46 → 0 ≤ LL v j c := fun c hc => (LL_b hv hk j c hc).1
  have a := z_pz hz hl 46 (by omega)
  refine ⟨h1, fun c hc => ?_, fun q g0 g1 => ⟨?_, ?_⟩, h4⟩
  · show _ = LL v j c - tg v c (pz v (LL v j) (pC v j) 46)
    rw [z_tg a, h2 c hc]; omega
  · show _ = SS v j q + pz v (LL v j) (pC v j) 46 q
    have a9 : pz v (LL v j) (pC v j) 46 q = 0 := a q g0 g1
    rw [a9, (h3 q g0 g1).1]; omega
  · show _ = cz v (LL v j) (pC v j) (CC v j) 46 q
    rw [z_cz hz hl 46 (by omega) q g0 g1]
    exact (h3 q g0 g1).2
theorem serveJ {k : eg_K} {z : eg_Z} {X : eg_M} {n : Nat} {v : eg_v} {B : Int} (hv : VV B v) (hk : PK v) {j : Nat} (h : SJ v j z) (hq : ∀ q : Int, 0 ≤ q → q < v 3 → z 32 q.toNat = pC v j q) : eg_P k gX4_serve 2 0 0 [vR k 25] n (enc k z X) (eg_p k none n X (fun z' => (∀ d, d ≠ 26 → d ≠ 28 → d ≠ 29 → d ≠ 32 → d ≠ 33 → z' d = z d) ∧ SJ v (j + 1) z')) := by
  obtain ⟨h1, h2, h3, h4⟩ := h
  have e : agr v (fun q : Int => z 32 q.toNat) (pC v j) := hq
  have hl : ∀ c : Nat, c < 46 → 0 ≤ z 29 c ∧ z 29 c ≤ 19998 := fun c hc => by rw [h2 c hc]; exact LL_b hv hk j c hc
  have s := c_X4_serve (k := k) (X := X) (n := n) hv h1 (okp_c (pC_ok hv j) e) h4 hl (fun q g0 g1 => by rw [(h3 q g0 g1).2]; exact CC_b j q g0 g1)
  refine s.weak (fun a b c ⟨e1, e2, z', e3, f1, f2, f3⟩ => ⟨e1, e2, z', e3, f1, ?_⟩)
  have el : ∀ c : Nat, c < 46 → (fun c : Int => z 29 c.toNat) c = LL v j c := fun c hc => h2 c hc
  have ep := pz_c (l := fun c : Int => z 29 c.toNat) (l' := LL v j) e el 46 (by omega)
  have ec := cz_c (l := fun c : Int => z 29 c.toNat) (l' := LL v j) (ct := fun q : Int => z 28 q.toNat) (ct' := CC v j) e (fun q g0 g1 => (h3 q g0 g1).2) el 46 (by omega)
  refine ⟨by rw [f1 _ (by decide) (by decide) (by decide) (by decide) (by decide)]; exact h1, fun c hc => ?_, fun q g0 g1 => ⟨?_, ?_⟩, fun c hc => by rw [f1 _ (by decide) (by decide) (by decide) (by decide) (by decide)]; exact h4 c hc⟩
  · rw [f2 c hc, tg_c ep, h2 c hc]; rfl
  · rw [(f3 q g0 g1).2.2, ep q g0 g1, (h3 q g0 g1).1]; rfl
  · rw [(f3 q g0 g1).2.1, ec q g0 g1]; rfl
theorem c_X4_make {k : eg_K} {z : eg_Z} {X : eg_M} {n b : Nat} {v : eg_v} {B : Int} (hb : isB b = true) (hp : hP z b v) (hv : VV B v) (hk : PK v) : eg_P k gX4_make 4 0 0 [vR k 25, vR k b] n (enc k z X) (eg_p k none n X (fun z' => MdS z z' ∧ SJ v 10 z' ∧ ∀ q : Int, 0 ≤ q → q < v 3 → z' 27 q.toNat = SS v 1 q)) := by
  refine eg_P.of (by decide) (Nat.le_of_ble_eq_true rfl) ?_
  show eg_E k gX4_make 4 0 0 n (enc k z X) [vR k 25, vR k b, vU] [] 0 _
  have q := hv.r.2
  have LR : ∀ (m : Nat) (j : Nat) (y : eg_Z), 1 ≤ j → j ≤ 10 → MdS z y → SJ v j y → (∀ q : Int, 0 ≤ q → q < v 3 → y 31 q.toNat = fa v q) → (∀ q : Int, 0 ≤ q → q < v 3 → y 27 q.toNat = SS v 1 q) → 10 - j < m → eg_E k gX4_make 4 0 0 n (enc k y X) [vR k 25, vR k b, vI (j : Int)] [] 59 (eg_p k none n X (fun z' => MdS z z' ∧ SJ v 10 z' ∧ ∀ q : Int, 0 ≤ q → q < v 3 → z' 27 q.toNat = SS v 1 q)) := by
    intro m
    induction m with
    | zero => intro j y h0 h1 hM hS hF h27 hmm; exfalso; omega
    | succ m ih =>
      intro j y h0 h1 hM hS hF h27 hmm
      have hpy := hM.hP hb hp
      refine eg_iload_n dX4_make_59 rfl ?_
      refine eg_bipush dX4_make_60 (by decide) ?_
      refine eg_icmp_gt 84 dX4_make_62 ⟨by omega, by omega⟩ ⟨by omega, by omega⟩ rfl (fun h62 => ?_) (fun h62 => ?_)
      · refine eg_return dX4_make_84 rfl ?_
        have e9 : j = 10 := by omega
        subst e9
        exact ⟨rfl, rfl, y, rfl, hM, hS, h27⟩
      · have hpj : pC v j = pr v (j : Int) := by obtain ⟨i, rfl⟩ : ∃ i, j = i + 1 := ⟨j - 1, by omega⟩; rfl
        refine eg_al_n dX4_make_65 rfl rfl ?_
        refine eg_al_n dX4_make_66 rfl rfl ?_
        refine eg_iload_n dX4_make_67 rfl ?_
        refine eg_Vpf2 cs_X4_56 dX4_make_68 (c_X4_askRank hb hpy hv (r := (j : Int)) ⟨by omega, by omega⟩ hS.1 hF) (by first | exact er25 | exact er26 | exact er27 | exact er28 | exact er29 | exact er30 | exact er31 | exact er32 | exact er33 | exact ep0 hb | exact ep1 hb | exact ep3 hb | exact ep5 hb | exact ep7 hb) rfl (Nat.le_of_ble_eq_true rfl) (by decide) ?_
        rintro y1 ⟨n1, k1⟩
        have hM1 : MdS z y1 := hM.tr (fun c hc => n1 c (by omega))
        have hS1 : SJ v j y1 := ⟨by rw [n1 _ (by decide)]; exact hS.1, fun c hc => by rw [n1 _ (by decide)]; exact hS.2.1 c hc, fun q9 g0 g1 => by rw [n1 _ (by decide), n1 _ (by decide)]; exact hS.2.2.1 q9 g0 g1, fun c hc => by rw [n1 _ (by decide)]; exact hS.2.2.2 c hc⟩
        refine eg_bi_eq 78 dX4_make_71 rfl (fun h71 => ?_) (fun h71 => ?_)
        · refine eg_iinc dX4_make_78 rfl rfl rfl ?_
          refine eg_goto 59 dX4_make_81 rfl ?_
          have hz : agr v (pC v j) (fun _ => 0) := fun q9 g0 g1 => by
            have b1 := pC_ok hv j q9 g0 g1
            have b2 := anyF_f (p := pr v (j : Int)) (m := (v 3).toNat) (by simpa using h71) q9 g0 (by omega)
            rw [hpj] at b1 ⊢
            show pr v (j : Int) q9 = 0
            omega
          have := ih (j + 1) y1 (by omega) (by omega) hM1 (hS1.skip hv hk hz) (fun q9 g0 g1 => by rw [n1 _ (by decide)]; exact hF q9 g0 g1) (fun q9 g0 g1 => by rw [n1 _ (by decide)]; exact h27 q9 g0 g1) (by omega)
          exact this
        · refine eg_al_n dX4_make_74 rfl rfl ?_
          refine eg_Vpv0 cs_X4_47 dX4_make_75 (serveJ hv hk hS1 (fun q9 g0 g1 => by rw [k1 q9 g0 g1, hpj])) (by first | exact er25 | exact er26 | exact er27 | exact er28 | exact er29 | exact er30 | exact er31 | exact er32 | exact er33 | exact ep0 hb | exact ep1 hb | exact ep3 hb | exact ep5 hb | exact ep7 hb) rfl (Nat.le_of_ble_eq_true rfl) (by decide) ?_
          rintro y2 ⟨n2, hS2⟩
          refine eg_iinc dX4_make_78 rfl rfl rfl ?_
          refine eg_goto 59 dX4_make_81 rfl ?_
          have := ih (j + 1) y2 (by omega) (by omega) (hM1.tr (fun c hc => n2 c (by omega) (by omega) (by omega) (by omega) (by omega))) hS2 (fun q9 g0 g1 => by rw [n2 _ (by decide) (by decide) (by decide) (by decide) (by decide), n1 _ (by decide)]; exact hF q9 g0 g1) (fun q9 g0 g1 => by rw [n2 _ (by decide) (by decide) (by decide) (by decide) (by decide), n1 _ (by decide)]; exact h27 q9 g0 g1) (by omega)
          exact this
  have LP : ∀ (m : Nat) (i : Int) (y : eg_Z), 0 ≤ i → i ≤ v 3 → MdS z y → SJ v 0 y → (∀ q : Int, 0 ≤ q → q < v 3 → y 31 q.toNat = fa v q) → (∀ q : Int, 0 ≤ q → q < i → y 32 q.toNat = fa v q) → v 3 - i < (m : Int) → eg_E k gX4_make 4 0 0 n (enc k y X) [vR k 25, vR k b, vI i] [] 12 (eg_p k none n X (fun z' => MdS z z' ∧ SJ v 10 z' ∧ ∀ q : Int, 0 ≤ q → q < v 3 → z' 27 q.toNat = SS v 1 q)) := by
    intro m
    induction m with
    | zero => intro i y h0 h1 hM hS hF hi hmm; exfalso; omega
    | succ m ih =>
      intro i y h0 h1 hM hS hF hi hmm
      refine eg_iload_n dX4_make_12 rfl ?_
      refine eg_al_n dX4_make_13 rfl rfl ?_
      refine eg_get fl_X4_36 dX4_make_14 (by first | exact er25 | exact er26 | exact er27 | exact er28 | exact er29 | exact er30 | exact er31 | exact er32 | exact er33 | exact ep0 hb | exact ep1 hb | exact ep3 hb | exact ep5 hb | exact ep7 hb) rfl ?_
      rw [hS.1]
      refine eg_icmp_ge 38 dX4_make_17 ⟨by omega, by omega⟩ ⟨by omega, by omega⟩ rfl (fun h17 => ?_) (fun h17 => ?_)
      · refine eg_al_n dX4_make_38 rfl rfl ?_
        refine eg_Vpv0 cs_X4_47 dX4_make_39 (serveJ hv hk hS (fun q9 g0 g1 => hi q9 g0 (by omega))) (by first | exact er25 | exact er26 | exact er27 | exact er28 | exact er29 | exact er30 | exact er31 | exact er32 | exact er33 | exact ep0 hb | exact ep1 hb | exact ep3 hb | exact ep5 hb | exact ep7 hb) rfl (Nat.le_of_ble_eq_true rfl) (by decide) ?_
        rintro y2 ⟨n2, hS2⟩
        refine eg_al_n dX4_make_42 rfl rfl ?_
        refine eg_get fl_X4_11 dX4_make_43 (by first | exact er25 | exact er26 | exact er27 | exact er28 | exact er29 | exact er30 | exact er31 | exact er32 | exact er33 | exact ep0 hb | exact ep1 hb | exact ep3 hb | exact ep5 hb | exact ep7 hb) rfl ?_
        refine eg_iconst dX4_make_46 ?_
        refine eg_al_n dX4_make_47 rfl rfl ?_
        refine eg_get fl_X4_15 dX4_make_48 (by first | exact er25 | exact er26 | exact er27 | exact er28 | exact er29 | exact er30 | exact er31 | exact er32 | exact er33 | exact ep0 hb | exact ep1 hb | exact ep3 hb | exact ep5 hb | exact ep7 hb) rfl ?_
        refine eg_iconst dX4_make_51 ?_
        refine eg_bipush dX4_make_52 (by decide) ?_
        refine eg_acI (SP := 0) (DP := 0) (N := 16) ac_X4_50 ac_nat dX4_make_54 er26 er27 rfl rfl rfl (by decide) (by decide) (by decide) (by decide) (Nat.le_of_ble_eq_true rfl) (by decide) ?_
        refine eg_eqM es27 ?_
        generalize w2 : va_up y2 27 _ = y3
        have n3 : ∀ d, d ≠ 27 → y3 d = y2 d := fun d hd => by rw [← w2, va_up_n _ _ hd]
        have hM2 : MdS z y2 := hM.tr (fun c hc => n2 c (by omega) (by omega) (by omega) (by omega) (by omega))
        refine eg_iconst dX4_make_57 ?_
        refine eg_istore_n dX4_make_58 rfl rfl rfl ?_
        refine LR 10 1 y3 (by omega) (by omega) (hM2.tr (fun c hc => n3 c (by omega))) ⟨by rw [n3 _ (by decide)]; exact hS2.1, fun c hc => by rw [n3 _ (by decide)]; exact hS2.2.1 c hc, fun q9 g0 g1 => by rw [n3 _ (by decide), n3 _ (by decide)]; exact hS2.2.2.1 q9 g0 g1, fun c hc => by rw [n3 _ (by decide)]; exact hS2.2.2.2 c hc⟩ (fun q9 g0 g1 => by rw [n3 _ (by decide), n2 _ (by decide) (by decide) (by decide) (by decide) (by decide)]; exact hF q9 g0 g1) (fun q9 g0 g1 => ?_) (by omega)
        rw [← w2, va_up_s]
        unfold va_cpy
        rw [if_pos (by omega), ← (hS2.2.2.1 q9 g0 g1).1]
        congr 1; omega
      · refine eg_al_n dX4_make_20 rfl rfl ?_
        refine eg_get fl_X4_30 dX4_make_21 (by first | exact er25 | exact er26 | exact er27 | exact er28 | exact er29 | exact er30 | exact er31 | exact er32 | exact er33 | exact ep0 hb | exact ep1 hb | exact ep3 hb | exact ep5 hb | exact ep7 hb) rfl ?_
        refine eg_iload_n dX4_make_24 rfl ?_
        refine eg_al_n dX4_make_25 rfl rfl ?_
        refine eg_get fl_X4_27 dX4_make_26 (by first | exact er25 | exact er26 | exact er27 | exact er28 | exact er29 | exact er30 | exact er31 | exact er32 | exact er33 | exact ep0 hb | exact ep1 hb | exact ep3 hb | exact ep5 hb | exact ep7 hb) rfl ?_
        refine eg_iload_n dX4_make_29 rfl ?_
        refine eg_iald dX4_make_30 (by first | exact er25 | exact er26 | exact er27 | exact er28 | exact er29 | exact er30 | exact er31 | exact er32 | exact er33 | exact ep0 hb | exact ep1 hb | exact ep3 hb | exact ep5 hb | exact ep7 hb) (by omega) (by omega) (by decide) ?_
        rw [hF i h0 h17]
        refine eg_iast dX4_make_31 (by first | exact er25 | exact er26 | exact er27 | exact er28 | exact er29 | exact er30 | exact er31 | exact er32 | exact er33 | exact ep0 hb | exact ep1 hb | exact ep3 hb | exact ep5 hb | exact ep7 hb) (by omega) (by omega) (by decide) ?_
        refine eg_eqM (es32) ?_
        generalize w1 : va_up y 32 _ = y1
        have n1 : ∀ d, d ≠ 32 → y1 d = y d := fun d hd => by rw [← w1, va_up_n _ _ hd]
        refine eg_iinc dX4_make_32 rfl rfl rfl ?_
        refine eg_goto 12 dX4_make_35 rfl ?_
        refine ih (i + 1) y1 (by omega) (by omega) (hM.tr (fun c hc => n1 c (by omega))) ⟨by rw [n1 _ (by decide)]; exact hS.1, fun c hc => by rw [n1 _ (by decide)]; exact hS.2.1 c hc, fun q9 g0 g1 => by rw [n1 _ (by decide), n1 _ (by decide)]; exact hS.2.2.1 q9 g0 g1, fun c hc => by rw [n1 _ (by decide)]; exact hS.2.2.2 c hc⟩ (fun q9 g0 g1 => by rw [n1 _ (by decide)]; exact hF q9 g0 g1) (fun q9 g0 g1 => ?_) (by omega)
        rw [← w1, va_up_s]
        by_cases hq : q9 = i
        · subst hq; rw [va_up_s]
        · rw [va_up_n _ _ (by omega)]; exact hi q9 g0 (by omega)
  refine eg_al_n dX4_make_0 rfl rfl ?_
  refine eg_al_n dX4_make_1 rfl rfl ?_
  refine eg_Vpv1 cs_X4_40 dX4_make_2 (c_X4_start hb hp hv) (by first | exact er25 | exact er26 | exact er27 | exact er28 | exact er29 | exact er30 | exact er31 | exact er32 | exact er33 | exact ep0 hb | exact ep1 hb | exact ep3 hb | exact ep5 hb | exact ep7 hb) rfl (Nat.le_of_ble_eq_true rfl) (by decide) ?_
  rintro y0 ⟨hM0, a25, a26, a28, a29, a30⟩
  have hp0 := hM0.hP hb hp
  refine eg_al_n dX4_make_5 rfl rfl ?_
  refine eg_al_n dX4_make_6 rfl rfl ?_
  refine eg_Vpv1 cs_X4_44 dX4_make_7 (c_X4_shareFirm hb hp0 hv a25) (by first | exact er25 | exact er26 | exact er27 | exact er28 | exact er29 | exact er30 | exact er31 | exact er32 | exact er33 | exact ep0 hb | exact ep1 hb | exact ep3 hb | exact ep5 hb | exact ep7 hb) rfl (Nat.le_of_ble_eq_true rfl) (by decide) ?_
  rintro y1 ⟨n1, k1⟩
  refine eg_iconst dX4_make_10 ?_
  refine eg_istore_n dX4_make_11 rfl rfl rfl ?_
  exact LP 17 0 y1 (by omega) (by omega) (hM0.tr (fun c hc => n1 c (by omega))) ⟨by rw [n1 _ (by decide)]; exact a25, fun c hc => by rw [n1 _ (by decide)]; exact a29 c hc, fun q9 g0 g1 => by rw [n1 _ (by decide), n1 _ (by decide)]; exact ⟨a26 _ (by omega), a28 _ (by omega)⟩, fun c hc => by rw [n1 _ (by decide)]; exact a30 c hc⟩ k1 (fun q9 g0 g1 => absurd g1 (by omega)) (by omega)
def fairS (v : eg_v) : Int → Int := pz v (l0 v) (fun q => gN v q 3) 46
theorem gN3_ok {v : eg_v} {B : Int} (hv : VV B v) : okp v (fun q => gN v q 3) := fun q h0 h1 => (hv.N h0 h1).2.2.2.2
theorem c_X4_makeOfOneClass {k : eg_K} {z : eg_Z} {X : eg_M} {n b : Nat} {v : eg_v} {B : Int} (hb : isB b = true) (hp : hP z b v) (hv : VV B v) (hk : PK v) : eg_P k gX4_makeOfOneClass 4 0 0 [vR k 25, vR k b] n (enc k z X) (eg_p k none n X (fun z' => MdS z z' ∧ ∀ q : Int, 0 ≤ q → q < v 3 → z' 26 q.toNat = fairS v q)) := by
  refine eg_P.of (by decide) (Nat.le_of_ble_eq_true rfl) ?_
  show eg_E k gX4_makeOfOneClass 4 0 0 n (enc k z X) [vR k 25, vR k b, vU] [] 0 _
  have q := hv.r.2
  have LP : ∀ (m : Nat) (i : Int) (y : eg_Z), 0 ≤ i → i ≤ v 3 → MdS z y → SJ v 0 y → (∀ q : Int, 0 ≤ q → q < i → y 32 q.toNat = gN v q 3) → v 3 - i < (m : Int) → eg_E k gX4_makeOfOneClass 4 0 0 n (enc k y X) [vR k 25, vR k b, vI i] [] 7 (eg_p k none n X (fun z' => MdS z z' ∧ ∀ q : Int, 0 ≤ q → q < v 3 → z' 26 q.toNat = fairS v q)) := by
    intro m
    induction m with
    | zero => intro i y h0 h1 hM hS hi hmm; exfalso; omega
    | succ m ih =>
      intro i y h0 h1 hM hS hi hmm
      have hpy := hM.hP hb hp
      refine eg_iload_n dX4_makeOfOneClass_7 rfl ?_
      refine eg_al_n dX4_makeOfOneClass_8 rfl rfl ?_
      refine eg_get fl_X4_36 dX4_makeOfOneClass_9 (by first | exact er25 | exact er26 | exact er27 | exact er28 | exact er29 | exact er30 | exact er31 | exact er32 | exact er33 | exact ep0 hb | exact ep1 hb | exact ep3 hb | exact ep5 hb | exact ep7 hb) rfl ?_
      rw [hS.1]
      refine eg_icmp_ge 36 dX4_makeOfOneClass_12 ⟨by omega, by omega⟩ ⟨by omega, by omega⟩ rfl (fun h12 => ?_) (fun h12 => ?_)
      · refine eg_al_n dX4_makeOfOneClass_36 rfl rfl ?_
        refine eg_Vpv0 cs_X4_47 dX4_makeOfOneClass_37 (c_X4_serve hv hS.1 (okp_c (gN3_ok hv) (fun q9 g0 g1 => hi q9 g0 (by omega))) hS.2.2.2 (fun c hc => by rw [hS.2.1 c hc]; exact LL_b hv hk 0 c hc) (fun q9 g0 g1 => by rw [(hS.2.2.1 q9 g0 g1).2]; exact CC_b 0 q9 g0 g1)) (by first | exact er25 | exact er26 | exact er27 | exact er28 | exact er29 | exact er30 | exact er31 | exact er32 | exact er33 | exact ep0 hb | exact ep1 hb | exact ep3 hb | exact ep5 hb | exact ep7 hb) rfl (Nat.le_of_ble_eq_true rfl) (by decide) ?_
        rintro y2 ⟨n2, f2, f3⟩
        refine eg_return dX4_makeOfOneClass_40 rfl ?_
        refine ⟨rfl, rfl, y2, rfl, hM.tr (fun c hc => n2 c (by omega) (by omega) (by omega) (by omega) (by omega)), fun q9 g0 g1 => ?_⟩
        have e : agr v (fun q : Int => y 32 q.toNat) (fun q => gN v q 3) := fun q9 g0 g1 => hi q9 g0 (by omega)
        have el : ∀ c : Nat, c < 46 → (fun c : Int => y 29 c.toNat) c = l0 v c := fun c hc => hS.2.1 c hc
        rw [(f3 q9 g0 g1).2.2, pz_c (l := fun c : Int => y 29 c.toNat) (l' := l0 v) e el 46 (by omega) q9 g0 g1, (hS.2.2.1 q9 g0 g1).1]
        show 0 + _ = _
        rw [Int.zero_add]
        rfl
      · refine eg_al_n dX4_makeOfOneClass_15 rfl rfl ?_
        refine eg_get fl_X4_30 dX4_makeOfOneClass_16 (by first | exact er25 | exact er26 | exact er27 | exact er28 | exact er29 | exact er30 | exact er31 | exact er32 | exact er33 | exact ep0 hb | exact ep1 hb | exact ep3 hb | exact ep5 hb | exact ep7 hb) rfl ?_
        refine eg_iload_n dX4_makeOfOneClass_19 rfl ?_
        refine eg_al_n dX4_makeOfOneClass_20 rfl rfl ?_
        refine eg_get fl_X4_60 dX4_makeOfOneClass_21 (by first | exact er25 | exact er26 | exact er27 | exact er28 | exact er29 | exact er30 | exact er31 | exact er32 | exact er33 | exact ep0 hb | exact ep1 hb | exact ep3 hb | exact ep5 hb | exact ep7 hb) rfl ?_
        refine eg_iload_n dX4_makeOfOneClass_24 rfl ?_
        refine eg_iconst dX4_makeOfOneClass_25 ?_
        refine eg_Vf2 cs_X4_66 dX4_makeOfOneClass_26 (nm_at hb hpy hv h0 h12 (by omega) (by omega)) (by first | exact er25 | exact er26 | exact er27 | exact er28 | exact er29 | exact er30 | exact er31 | exact er32 | exact er33 | exact ep0 hb | exact ep1 hb | exact ep3 hb | exact ep5 hb | exact ep7 hb) rfl (Nat.le_of_ble_eq_true rfl) (by decide) ?_
        refine eg_iast dX4_makeOfOneClass_29 (by first | exact er25 | exact er26 | exact er27 | exact er28 | exact er29 | exact er30 | exact er31 | exact er32 | exact er33 | exact ep0 hb | exact ep1 hb | exact ep3 hb | exact ep5 hb | exact ep7 hb) (by omega) (by omega) (by decide) ?_
        refine eg_eqM (es32) ?_
        generalize w1 : va_up y 32 _ = y1
        have n1 : ∀ d, d ≠ 32 → y1 d = y d := fun d hd => by rw [← w1, va_up_n _ _ hd]
        refine eg_iinc dX4_makeOfOneClass_30 rfl rfl rfl ?_
        refine eg_goto 7 dX4_makeOfOneClass_33 rfl ?_
        refine ih (i + 1) y1 (by omega) (by omega) (hM.tr (fun c hc => n1 c (by omega))) ⟨by rw [n1 _ (by decide)]; exact hS.1, fun c hc => by rw [n1 _ (by decide)]; exact hS.2.1 c hc, fun q9 g0 g1 => by rw [n1 _ (by decide), n1 _ (by decide)]; exact hS.2.2.1 q9 g0 g1, fun c hc => by rw [n1 _ (by decide)]; exact hS.2.2.2 c hc⟩ (fun q9 g0 g1 => ?_) (by omega)
        rw [← w1, va_up_s]
        by_cases hq : q9 = i
        · subst hq; rw [va_up_s]
        · rw [va_up_n _ _ (by omega)]; exact hi q9 g0 (by omega)
  refine eg_al_n dX4_makeOfOneClass_0 rfl rfl ?_
  refine eg_al_n dX4_makeOfOneClass_1 rfl rfl ?_
  refine eg_Vpv1 cs_X4_40 dX4_makeOfOneClass_2 (c_X4_start hb hp hv) (by first | exact er25 | exact er26 | exact er27 | exact er28 | exact er29 | exact er30 | exact er31 | exact er32 | exact er33 | exact ep0 hb | exact ep1 hb | exact ep3 hb | exact ep5 hb | exact ep7 hb) rfl (Nat.le_of_ble_eq_true rfl) (by decide) ?_
  rintro y0 ⟨hM0, a25, a26, a28, a29, a30⟩
  refine eg_iconst dX4_makeOfOneClass_5 ?_
  refine eg_istore_n dX4_makeOfOneClass_6 rfl rfl rfl ?_
  exact LP 17 0 y0 (by omega) (by omega) hM0 ⟨a25, a29, fun q9 g0 g1 => ⟨a26 _ (by omega), a28 _ (by omega)⟩, a30⟩ (fun q9 g0 g1 => absurd g1 (by omega)) (by omega)
