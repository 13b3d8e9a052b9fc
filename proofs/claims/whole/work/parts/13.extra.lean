theorem eg_acI {k : eg_K} {g : eg_G} {d bc bs n : Nat} {M : eg_M} {ls st : List Value} {pc : Nat} {Q : eg_Q} {idx i0 i1 n0 n1 SP DP N : Nat} {f f1 : Nat → Int} {sp dp nn : Int} (hlk : Cond.methodLink g.1.cls idx arraycopyName ∈ eg_T) (hw : Cond.native arraycopyName ∈ eg_T ∧ Cond.static arraycopyName ∈ eg_T ∧ Cond.initialized "java/lang/System" ∈ eg_T) (hd : decode g.2.1 pc = .ok (.invokestatic idx, 3)) (h0 : M i0 = some (aI k n0 f)) (h1 : M i1 = some (aI k n1 f1)) (hsp : sp = (SP : Int)) (hdp : dp = (DP : Int)) (hnn : nn = (N : Int)) (h4 : SP + N ≤ n0) (h5 : DP + N ≤ n1) (hb0 : n0 ≤ 65536) (hb1 : n1 ≤ 65536) (hst : (st.map fun v => v.category).sum ≤ 8) (hdd : 1 ≤ d) (h : eg_E k g d bc bs n (va_up M i1 (some (aI k n1 (va_cpy f f1 SP DP N)))) ls (st) (pc + 3) Q) : eg_E k g d bc bs n (M) ls (vI nn :: vI dp :: vR k i1 :: vI sp :: vR k i0 :: st) (pc) Q := by
  intro p e R s m args below meth c H locs cells slots sl Z C hW hz hl hL hc hs hR
  subst hsp; subst hdp; subst hnn
  have hts := C.2.2.2.2.2.1
  have hK := C.2.2.2.2.2.2.1.1
  have g1 := C.2.2.2.2.2.2.2.2.1
  have g2 := C.2.2.2.2.2.2.2.2.2
  have ns : (Int32.ofInt (SP : Int)).toInt = (SP : Int) := i_to ⟨by omega, by omega⟩
  have nd : (Int32.ofInt (DP : Int)).toInt = (DP : Int) := i_to ⟨by omega, by omega⟩
  have nN : (Int32.ofInt (N : Int)).toInt = (N : Int) := i_to ⟨by omega, by omega⟩
  have cs : (Int32.ofInt (SP : Int)).toNatClampNeg = SP := by show (Int32.ofInt (SP : Int)).toInt.toNat = SP; rw [ns]; omega
  have cd : (Int32.ofInt (DP : Int)).toNatClampNeg = DP := by show (Int32.ofInt (DP : Int)).toInt.toNat = DP; rw [nd]; omega
  have cn : (Int32.ofInt (N : Int)).toNatClampNeg = N := by show (Int32.ofInt (N : Int)).toInt.toNat = N; rw [nN]; omega
  have pos : ∀ z : Nat, z ≤ 65536 → ¬ Int32.ofInt (z : Int) < 0 := fun z hz q => by
    rw [show (0 : Int32) = Int32.ofInt 0 from rfl, i_lt ⟨by omega, by omega⟩ iR0] at q
    omega
  have hc0 : H[eg_B k + i0]? = some (arrV (eg_A k 0) n0 (fun j => .int (Int32.ofInt (f j)))) := at_aI.mp (hW.2.2 i0 _ h0)
  have hc1 : H[eg_B k + i1]? = some (arrV (eg_A k 0) n1 (fun j => .int (Int32.ofInt (f1 j)))) := at_aI.mp (hW.2.2 i1 _ h1)
  obtain ⟨-, k0, hk0, cm0, hkk0⟩ := (hK.2 0 _ rfl).1 n0 (fun j => .int (Int32.ofInt (f j)))
  have hroom : 2 * 0 + (st.map fun v => v.category).sum + (nativeFrameWords "java/lang/System" "arraycopy" 5 + 11) ≤ R.locals := by
    have e4 : nativeFrameWords "java/lang/System" "arraycopy" 5 + 11 ≤ 60 := by decide +kernel
    omega
  intro T hT X
  obtain ⟨vm', X', step⟩ := X.arraycopy C.1 C.2.2.2.2.1 (hts _ hlk) (hts _ hw.1) (hts _ hw.2.1) (hts _ hw.2.2) (src := eg_B k + i0) (dst := eg_B k + i1) (cs := arrV (eg_A k 0) n0 (fun j => .int (Int32.ofInt (f j)))) (cd := arrV (eg_A k 0) n1 (fun j => .int (Int32.ofInt (f1 j)))) (srcPos := Int32.ofInt (SP : Int)) (destPos := Int32.ofInt (DP : Int)) (n := Int32.ofInt (N : Int)) (by rw [hT]; exact hc0) (by rw [hT]; exact hc1)
    (fun _ h => by cases h) (fun _ h => by cases h) (fun h => by cases h) (fun h => by cases h) hk0 hk0 hkk0 hkk0 (by simp [refKind]) (pos SP (by omega)) (pos DP (by omega)) (pos N (by omega))
    (by rw [ns, nN, arrV_size]; omega)
    (by rw [nd, nN, arrV_size]; omega)
    (fun vm₁ _ i hi => by
      rw [cn] at hi
      have e : (arrV (eg_A k 0) n0 (fun j => .int (Int32.ofInt (f j)))).slots.getD ((Int32.ofInt (SP : Int)).toNatClampNeg + i) .null = .int (Int32.ofInt (f (SP + i))) := by
        rw [cs, Array.getD_eq_getD_getElem?, arrV_read _ _ (by omega)]
        rfl
      refine ⟨?_, ?_⟩
      · rw [e]
        rfl
      · rw [e]
        exact trivial)
    (g := F0 m pc sl (.int (Int32.ofInt (N : Int)) :: .int (Int32.ofInt (DP : Int)) :: .ref (eg_B k + i1) :: .int (Int32.ofInt (SP : Int)) :: .ref (eg_B k + i0) :: st)) rfl (by rw [hL.2.1]; exact C.2.2.1.symm) (rest := st) rfl (by rw [C.2.1]; exact hd) (by omega) hroom
  have e1 : copied (arrV (eg_A k 0) n0 (fun j => .int (Int32.ofInt (f j)))) (arrV (eg_A k 0) n1 (fun j => .int (Int32.ofInt (f1 j)))) (Int32.ofInt (SP : Int)) (Int32.ofInt (DP : Int)) (Int32.ofInt (N : Int)) = arrV (eg_A k 0) n1 (fun j => .int (Int32.ofInt (va_cpy f f1 SP DP N j))) := by
    have e2 := va_copied (fun z => .int z) (eg_A k 0) (eg_A k 0) (n0 := n0) (n1 := n1) (sp := SP) (dp := DP) (n := N) (fun j => Int32.ofInt (f j)) (fun j => Int32.ofInt (f1 j)) h4
    have e3 : ∀ j, va_cpy (fun j => Int32.ofInt (f j)) (fun j => Int32.ofInt (f1 j)) SP DP N j = Int32.ofInt (va_cpy f f1 SP DP N j) := fun j => by unfold va_cpy; split <;> rfl
    simp only [e3] at e2
    unfold copied
    rw [cs, cd, cn]
    exact e2
  rw [e1] at X' step
  generalize hcell : arrV (eg_A k 0) n1 (fun j => .int (Int32.ofInt (va_cpy f f1 SP DP N j))) = cell at X' step
  have hlt : eg_B k + i1 < H.size := (Array.getElem?_eq_some_iff.mp hc1).1
  have hheap : ((T.setVm vm').setCell (eg_B k + i1) cell).heap = H.setIfInBounds (eg_B k + i1) cell := by rw [← hT]; rfl
  obtain ⟨t, a1, b1⟩ := h p e R s m args below meth c (H.setIfInBounds (eg_B k + i1) cell) _ cells slots sl Z C (hW.set (by simp) (fun q hq => by simp [Array.getElem?_setIfInBounds, Ne.symm hq]) (at_aI.mpr (by rw [hcell]; simp [Array.getElem?_setIfInBounds, hlt]))) (by simpa using hz) (fun q hq => by
      rcases List.mem_append.mp hq with h9 | h9
      · exact hl q h9
      · obtain ⟨z, -, hz9⟩ := List.mem_map.mp h9
        rw [← hz9]
        exact Nat.le_add_right _ _) hL hc hs hR _ hheap X'
  exact ⟨t, step t a1, b1⟩
theorem eg_acL {k : eg_K} {g : eg_G} {d bc bs n : Nat} {M : eg_M} {ls st : List Value} {pc : Nat} {Q : eg_Q} {idx i0 i1 n0 n1 SP DP N : Nat} {f f1 : Nat → Int} {sp dp nn : Int} (hlk : Cond.methodLink g.1.cls idx arraycopyName ∈ eg_T) (hw : Cond.native arraycopyName ∈ eg_T ∧ Cond.static arraycopyName ∈ eg_T ∧ Cond.initialized "java/lang/System" ∈ eg_T) (hd : decode g.2.1 pc = .ok (.invokestatic idx, 3)) (h0 : M i0 = some (aL k n0 f)) (h1 : M i1 = some (aL k n1 f1)) (hsp : sp = (SP : Int)) (hdp : dp = (DP : Int)) (hnn : nn = (N : Int)) (h4 : SP + N ≤ n0) (h5 : DP + N ≤ n1) (hb0 : n0 ≤ 65536) (hb1 : n1 ≤ 65536) (hst : (st.map fun v => v.category).sum ≤ 8) (hdd : 1 ≤ d) (h : eg_E k g d bc bs n (va_up M i1 (some (aL k n1 (va_cpy f f1 SP DP N)))) ls (st) (pc + 3) Q) : eg_E k g d bc bs n (M) ls (vI nn :: vI dp :: vR k i1 :: vI sp :: vR k i0 :: st) (pc) Q := by
  intro p e R s m args below meth c H locs cells slots sl Z C hW hz hl hL hc hs hR
  subst hsp; subst hdp; subst hnn
  have hts := C.2.2.2.2.2.1
  have hK := C.2.2.2.2.2.2.1.1
  have g1 := C.2.2.2.2.2.2.2.2.1
  have g2 := C.2.2.2.2.2.2.2.2.2
  have ns : (Int32.ofInt (SP : Int)).toInt = (SP : Int) := i_to ⟨by omega, by omega⟩
  have nd : (Int32.ofInt (DP : Int)).toInt = (DP : Int) := i_to ⟨by omega, by omega⟩
  have nN : (Int32.ofInt (N : Int)).toInt = (N : Int) := i_to ⟨by omega, by omega⟩
  have cs : (Int32.ofInt (SP : Int)).toNatClampNeg = SP := by show (Int32.ofInt (SP : Int)).toInt.toNat = SP; rw [ns]; omega
  have cd : (Int32.ofInt (DP : Int)).toNatClampNeg = DP := by show (Int32.ofInt (DP : Int)).toInt.toNat = DP; rw [nd]; omega
  have cn : (Int32.ofInt (N : Int)).toNatClampNeg = N := by show (Int32.ofInt (N : Int)).toInt.toNat = N; rw [nN]; omega
  have pos : ∀ z : Nat, z ≤ 65536 → ¬ Int32.ofInt (z : Int) < 0 := fun z hz q => by
    rw [show (0 : Int32) = Int32.ofInt 0 from rfl, i_lt ⟨by omega, by omega⟩ iR0] at q
    omega
  have hc0 : H[eg_B k + i0]? = some (arrV (eg_A k 1) n0 (fun j => .long (Int64.ofInt (f j)))) := at_aL.mp (hW.2.2 i0 _ h0)
  have hc1 : H[eg_B k + i1]? = some (arrV (eg_A k 1) n1 (fun j => .long (Int64.ofInt (f1 j)))) := at_aL.mp (hW.2.2 i1 _ h1)
  obtain ⟨-, k0, hk0, cm0, hkk0⟩ := (hK.2 1 _ rfl).1 n0 (fun j => .long (Int64.ofInt (f j)))
  have hroom : 2 * 0 + (st.map fun v => v.category).sum + (nativeFrameWords "java/lang/System" "arraycopy" 5 + 11) ≤ R.locals := by
    have e4 : nativeFrameWords "java/lang/System" "arraycopy" 5 + 11 ≤ 60 := by decide +kernel
    omega
  intro T hT X
  obtain ⟨vm', X', step⟩ := X.arraycopy C.1 C.2.2.2.2.1 (hts _ hlk) (hts _ hw.1) (hts _ hw.2.1) (hts _ hw.2.2) (src := eg_B k + i0) (dst := eg_B k + i1) (cs := arrV (eg_A k 1) n0 (fun j => .long (Int64.ofInt (f j)))) (cd := arrV (eg_A k 1) n1 (fun j => .long (Int64.ofInt (f1 j)))) (srcPos := Int32.ofInt (SP : Int)) (destPos := Int32.ofInt (DP : Int)) (n := Int32.ofInt (N : Int)) (by rw [hT]; exact hc0) (by rw [hT]; exact hc1)
    (fun _ h => by cases h) (fun _ h => by cases h) (fun h => by cases h) (fun h => by cases h) hk0 hk0 hkk0 hkk0 (by simp [refKind]) (pos SP (by omega)) (pos DP (by omega)) (pos N (by omega))
    (by rw [ns, nN, arrV_size]; omega)
    (by rw [nd, nN, arrV_size]; omega)
    (fun vm₁ _ i hi => by
      rw [cn] at hi
      have e : (arrV (eg_A k 1) n0 (fun j => .long (Int64.ofInt (f j)))).slots.getD ((Int32.ofInt (SP : Int)).toNatClampNeg + i) .null = .long (Int64.ofInt (f (SP + i))) := by
        rw [cs, Array.getD_eq_getD_getElem?, arrV_read _ _ (by omega)]
        rfl
      refine ⟨?_, ?_⟩
      · rw [e]
        rfl
      · rw [e]
        exact trivial)
    (g := F0 m pc sl (.int (Int32.ofInt (N : Int)) :: .int (Int32.ofInt (DP : Int)) :: .ref (eg_B k + i1) :: .int (Int32.ofInt (SP : Int)) :: .ref (eg_B k + i0) :: st)) rfl (by rw [hL.2.1]; exact C.2.2.1.symm) (rest := st) rfl (by rw [C.2.1]; exact hd) (by omega) hroom
  have e1 : copied (arrV (eg_A k 1) n0 (fun j => .long (Int64.ofInt (f j)))) (arrV (eg_A k 1) n1 (fun j => .long (Int64.ofInt (f1 j)))) (Int32.ofInt (SP : Int)) (Int32.ofInt (DP : Int)) (Int32.ofInt (N : Int)) = arrV (eg_A k 1) n1 (fun j => .long (Int64.ofInt (va_cpy f f1 SP DP N j))) := by
    have e2 := va_copied (fun z => .long z) (eg_A k 1) (eg_A k 1) (n0 := n0) (n1 := n1) (sp := SP) (dp := DP) (n := N) (fun j => Int64.ofInt (f j)) (fun j => Int64.ofInt (f1 j)) h4
    have e3 : ∀ j, va_cpy (fun j => Int64.ofInt (f j)) (fun j => Int64.ofInt (f1 j)) SP DP N j = Int64.ofInt (va_cpy f f1 SP DP N j) := fun j => by unfold va_cpy; split <;> rfl
    simp only [e3] at e2
    unfold copied
    rw [cs, cd, cn]
    exact e2
  rw [e1] at X' step
  generalize hcell : arrV (eg_A k 1) n1 (fun j => .long (Int64.ofInt (va_cpy f f1 SP DP N j))) = cell at X' step
  have hlt : eg_B k + i1 < H.size := (Array.getElem?_eq_some_iff.mp hc1).1
  have hheap : ((T.setVm vm').setCell (eg_B k + i1) cell).heap = H.setIfInBounds (eg_B k + i1) cell := by rw [← hT]; rfl
  obtain ⟨t, a1, b1⟩ := h p e R s m args below meth c (H.setIfInBounds (eg_B k + i1) cell) _ cells slots sl Z C (hW.set (by simp) (fun q hq => by simp [Array.getElem?_setIfInBounds, Ne.symm hq]) (at_aL.mpr (by rw [hcell]; simp [Array.getElem?_setIfInBounds, hlt]))) (by simpa using hz) (fun q hq => by
      rcases List.mem_append.mp hq with h9 | h9
      · exact hl q h9
      · obtain ⟨z, -, hz9⟩ := List.mem_map.mp h9
        rw [← hz9]
        exact Nat.le_add_right _ _) hL hc hs hR _ hheap X'
  exact ⟨t, step t a1, b1⟩
theorem eg_acB {k : eg_K} {g : eg_G} {d bc bs n : Nat} {M : eg_M} {ls st : List Value} {pc : Nat} {Q : eg_Q} {idx i0 i1 n0 n1 SP DP N : Nat} {f f1 : Nat → Int} {sp dp nn : Int} (hlk : Cond.methodLink g.1.cls idx arraycopyName ∈ eg_T) (hw : Cond.native arraycopyName ∈ eg_T ∧ Cond.static arraycopyName ∈ eg_T ∧ Cond.initialized "java/lang/System" ∈ eg_T) (hd : decode g.2.1 pc = .ok (.invokestatic idx, 3)) (h0 : M i0 = some (aB k n0 f)) (h1 : M i1 = some (aB k n1 f1)) (hsp : sp = (SP : Int)) (hdp : dp = (DP : Int)) (hnn : nn = (N : Int)) (h4 : SP + N ≤ n0) (h5 : DP + N ≤ n1) (hb0 : n0 ≤ 65536) (hb1 : n1 ≤ 65536) (hfit : ∀ j, j < N → fits .byte (.int (Int32.ofInt (f (SP + j)))) = true) (hst : (st.map fun v => v.category).sum ≤ 8) (hdd : 1 ≤ d) (h : eg_E k g d bc bs n (va_up M i1 (some (aB k n1 (va_cpy f f1 SP DP N)))) ls (st) (pc + 3) Q) : eg_E k g d bc bs n (M) ls (vI nn :: vI dp :: vR k i1 :: vI sp :: vR k i0 :: st) (pc) Q := by
  intro p e R s m args below meth c H locs cells slots sl Z C hW hz hl hL hc hs hR
  subst hsp; subst hdp; subst hnn
  have hts := C.2.2.2.2.2.1
  have hK := C.2.2.2.2.2.2.1.1
  have g1 := C.2.2.2.2.2.2.2.2.1
  have g2 := C.2.2.2.2.2.2.2.2.2
  have ns : (Int32.ofInt (SP : Int)).toInt = (SP : Int) := i_to ⟨by omega, by omega⟩
  have nd : (Int32.ofInt (DP : Int)).toInt = (DP : Int) := i_to ⟨by omega, by omega⟩
  have nN : (Int32.ofInt (N : Int)).toInt = (N : Int) := i_to ⟨by omega, by omega⟩
  have cs : (Int32.ofInt (SP : Int)).toNatClampNeg = SP := by show (Int32.ofInt (SP : Int)).toInt.toNat = SP; rw [ns]; omega
  have cd : (Int32.ofInt (DP : Int)).toNatClampNeg = DP := by show (Int32.ofInt (DP : Int)).toInt.toNat = DP; rw [nd]; omega
  have cn : (Int32.ofInt (N : Int)).toNatClampNeg = N := by show (Int32.ofInt (N : Int)).toInt.toNat = N; rw [nN]; omega
  have pos : ∀ z : Nat, z ≤ 65536 → ¬ Int32.ofInt (z : Int) < 0 := fun z hz q => by
    rw [show (0 : Int32) = Int32.ofInt 0 from rfl, i_lt ⟨by omega, by omega⟩ iR0] at q
    omega
  have hc0 : H[eg_B k + i0]? = some (arrV (eg_A k 2) n0 (fun j => .int (Int32.ofInt (f j)))) := at_aB.mp (hW.2.2 i0 _ h0)
  have hc1 : H[eg_B k + i1]? = some (arrV (eg_A k 2) n1 (fun j => .int (Int32.ofInt (f1 j)))) := at_aB.mp (hW.2.2 i1 _ h1)
  obtain ⟨-, k0, hk0, cm0, hkk0⟩ := (hK.2 2 _ rfl).1 n0 (fun j => .int (Int32.ofInt (f j)))
  have hroom : 2 * 0 + (st.map fun v => v.category).sum + (nativeFrameWords "java/lang/System" "arraycopy" 5 + 11) ≤ R.locals := by
    have e4 : nativeFrameWords "java/lang/System" "arraycopy" 5 + 11 ≤ 60 := by decide +kernel
    omega
  intro T hT X
  obtain ⟨vm', X', step⟩ := X.arraycopy C.1 C.2.2.2.2.1 (hts _ hlk) (hts _ hw.1) (hts _ hw.2.1) (hts _ hw.2.2) (src := eg_B k + i0) (dst := eg_B k + i1) (cs := arrV (eg_A k 2) n0 (fun j => .int (Int32.ofInt (f j)))) (cd := arrV (eg_A k 2) n1 (fun j => .int (Int32.ofInt (f1 j)))) (srcPos := Int32.ofInt (SP : Int)) (destPos := Int32.ofInt (DP : Int)) (n := Int32.ofInt (N : Int)) (by rw [hT]; exact hc0) (by rw [hT]; exact hc1)
    (fun _ h => by cases h) (fun _ h => by cases h) (fun h => by cases h) (fun h => by cases h) hk0 hk0 hkk0 hkk0 (by simp [refKind]) (pos SP (by omega)) (pos DP (by omega)) (pos N (by omega))
    (by rw [ns, nN, arrV_size]; omega)
    (by rw [nd, nN, arrV_size]; omega)
    (fun vm₁ _ i hi => by
      rw [cn] at hi
      have e : (arrV (eg_A k 2) n0 (fun j => .int (Int32.ofInt (f j)))).slots.getD ((Int32.ofInt (SP : Int)).toNatClampNeg + i) .null = .int (Int32.ofInt (f (SP + i))) := by
        rw [cs, Array.getD_eq_getD_getElem?, arrV_read _ _ (by omega)]
        rfl
      refine ⟨?_, ?_⟩
      · rw [e]
        exact hfit i hi
      · rw [e]
        exact trivial)
    (g := F0 m pc sl (.int (Int32.ofInt (N : Int)) :: .int (Int32.ofInt (DP : Int)) :: .ref (eg_B k + i1) :: .int (Int32.ofInt (SP : Int)) :: .ref (eg_B k + i0) :: st)) rfl (by rw [hL.2.1]; exact C.2.2.1.symm) (rest := st) rfl (by rw [C.2.1]; exact hd) (by omega) hroom
  have e1 : copied (arrV (eg_A k 2) n0 (fun j => .int (Int32.ofInt (f j)))) (arrV (eg_A k 2) n1 (fun j => .int (Int32.ofInt (f1 j)))) (Int32.ofInt (SP : Int)) (Int32.ofInt (DP : Int)) (Int32.ofInt (N : Int)) = arrV (eg_A k 2) n1 (fun j => .int (Int32.ofInt (va_cpy f f1 SP DP N j))) := by
    have e2 := va_copied (fun z => .int z) (eg_A k 2) (eg_A k 2) (n0 := n0) (n1 := n1) (sp := SP) (dp := DP) (n := N) (fun j => Int32.ofInt (f j)) (fun j => Int32.ofInt (f1 j)) h4
    have e3 : ∀ j, va_cpy (fun j => Int32.ofInt (f j)) (fun j => Int32.ofInt (f1 j)) SP DP N j = Int32.ofInt (va_cpy f f1 SP DP N j) := fun j => by unfold va_cpy; split <;> rfl
    simp only [e3] at e2
    unfold copied
    rw [cs, cd, cn]
    exact e2
  rw [e1] at X' step
  generalize hcell : arrV (eg_A k 2) n1 (fun j => .int (Int32.ofInt (va_cpy f f1 SP DP N j))) = cell at X' step
  have hlt : eg_B k + i1 < H.size := (Array.getElem?_eq_some_iff.mp hc1).1
  have hheap : ((T.setVm vm').setCell (eg_B k + i1) cell).heap = H.setIfInBounds (eg_B k + i1) cell := by rw [← hT]; rfl
  obtain ⟨t, a1, b1⟩ := h p e R s m args below meth c (H.setIfInBounds (eg_B k + i1) cell) _ cells slots sl Z C (hW.set (by simp) (fun q hq => by simp [Array.getElem?_setIfInBounds, Ne.symm hq]) (at_aB.mpr (by rw [hcell]; simp [Array.getElem?_setIfInBounds, hlt]))) (by simpa using hz) (fun q hq => by
      rcases List.mem_append.mp hq with h9 | h9
      · exact hl q h9
      · obtain ⟨z, -, hz9⟩ := List.mem_map.mp h9
        rw [← hz9]
        exact Nat.le_add_right _ _) hL hc hs hR _ hheap X'
  exact ⟨t, step t a1, b1⟩
theorem b_toNat (x : Int) : (Int32.ofInt x).toBitVec.toNat = (x % 4294967296).toNat := by
  show (BitVec.ofInt 32 x).toNat = _
  rw [BitVec.toNat_ofInt]
  rfl
theorem b_inj {a b : Int32} (h : a.toBitVec.toNat = b.toBitVec.toNat) : a = b := Int32.toBitVec_inj.mp (BitVec.eq_of_toNat_eq h)
theorem b_sh : ∀ j : Nat, j < 32 → ((Int32.ofInt (j : Int) &&& 31).toBitVec.smod 32).toNat = j := by decide +kernel
theorem shl_e (x : Int) {j : Nat} (hj : j < 32) : Int32.ofInt x <<< (Int32.ofInt (j : Int) &&& 31) = Int32.ofInt (x * 2 ^ j) := by
  apply b_inj
  rw [pk_shl _ _ j (b_sh j hj), b_toNat, b_toNat]
  have h1 : (0 : Int) ≤ x % 4294967296 := Int.emod_nonneg _ (by decide)
  have h2 : (0 : Int) ≤ x * 2 ^ j % 4294967296 := Int.emod_nonneg _ (by decide)
  have h3 : (((x % 4294967296).toNat * 2 ^ j % 2 ^ 32 : Nat) : Int) = x * 2 ^ j % 4294967296 := by
    have e0 : ((2 ^ j : Nat) : Int) = 2 ^ j := Int.natCast_pow 2 j
    rw [Int.natCast_emod, Int.natCast_mul, Int.toNat_of_nonneg h1, e0]
    have e1 : (((2 : Nat) ^ 32 : Nat) : Int) = 4294967296 := by decide
    rw [e1, Int.mul_emod (x % 4294967296), Int.emod_emod, ← Int.mul_emod]
  omega
theorem shr_e {x : Int} (hx : iR x) {j : Nat} (hj : j < 32) : Int32.ofInt x >>> (Int32.ofInt (j : Int) &&& 31) = Int32.ofInt (x / 2 ^ j) := by
  have h1 : (0 : Int) < 2 ^ j := Int.pow_pos (by decide)
  have h2 := Int.ediv_mul_le x (b := 2 ^ j) (by omega)
  have h3 := hx.1
  have h4 := hx.2
  have hr : iR (x / 2 ^ j) := by
    constructor
    · apply Int.le_ediv_of_mul_le h1
      have h5 : (1 : Int) ≤ 2 ^ j := h1
      have h6 : (-2147483648 : Int) * 2 ^ j ≤ -2147483648 * 1 := Int.mul_le_mul_of_nonpos_left (by decide) h5
      omega
    · exact Int.le_trans (Int.ediv_le_ediv h1 h4) (Int.ediv_le_self _ (by decide))
  rw [← Int32.toInt_inj, pk_shr _ _ j (b_sh j hj), i_to hx, i_to hr, Int.shiftRight_eq_div_pow]
  rfl
theorem eg_ishl {k : eg_K} {g : eg_G} {d bc bs n : Nat} {M : eg_M} {ls st : List Value} {pc : Nat} {Q : eg_Q} {x : Int} {j : Nat} (hd : decode g.2.1 pc = .ok (.ishl, 1)) (hj : j < 32) (h : eg_E k g d bc bs n (M) ls (vI (x * 2 ^ j) :: st) (pc + 1) Q) : eg_E k g d bc bs n (M) ls (vI (j : Int) :: vI x :: st) (pc) Q := by
  intro p e R s m args below meth c H locs cells slots sl Z C hW hz hl hL hc hs hR
  have h1 := h p e R s m args below meth c H locs cells slots sl Z C hW hz hl hL hc hs hR
  unfold vI at h1
  rw [← shl_e x hj] at h1
  exact lv_ishl C.1 C.2.1 hd h1
theorem eg_ishr {k : eg_K} {g : eg_G} {d bc bs n : Nat} {M : eg_M} {ls st : List Value} {pc : Nat} {Q : eg_Q} {x : Int} {j : Nat} (hd : decode g.2.1 pc = .ok (.ishr, 1)) (hx : iR x) (hj : j < 32) (h : eg_E k g d bc bs n (M) ls (vI (x / 2 ^ j) :: st) (pc + 1) Q) : eg_E k g d bc bs n (M) ls (vI (j : Int) :: vI x :: st) (pc) Q := by
  intro p e R s m args below meth c H locs cells slots sl Z C hW hz hl hL hc hs hR
  have h1 := h p e R s m args below meth c H locs cells slots sl Z C hW hz hl hL hc hs hR
  unfold vI at h1
  rw [← shr_e hx hj] at h1
  exact lv_ishr C.1 C.2.1 hd h1
theorem and_e (x : Int) (j : Nat) (hj : j ≤ 31) : Int32.ofInt x &&& Int32.ofInt (2 ^ j - 1) = Int32.ofInt (x % 2 ^ j) := by
  apply b_inj
  have hp : (2 : Nat) ^ j ≤ 2 ^ 31 := Nat.pow_le_pow_right (by decide) hj
  have hp0 : 0 < (2 : Nat) ^ j := Nat.pow_pos (by decide)
  have e0 : ((2 : Int) ^ j) = ((2 ^ j : Nat) : Int) := by push_cast; rfl
  show ((Int32.ofInt x).toBitVec &&& (Int32.ofInt (2 ^ j - 1)).toBitVec).toNat = _
  rw [BitVec.toNat_and, b_toNat, b_toNat, b_toNat, e0]
  have e1 : ((((2 ^ j : Nat) : Int) - 1) % 4294967296).toNat = 2 ^ j - 1 := by omega
  rw [e1, Nat.and_two_pow_sub_one_eq_mod]
  have h1 : (0 : Int) ≤ x % 4294967296 := Int.emod_nonneg _ (by decide)
  have hd : (((2 ^ j : Nat) : Int)) ∣ 4294967296 := by
    rw [← e0, show (4294967296 : Int) = 2 ^ j * 2 ^ (32 - j) by rw [← Int.pow_add, Nat.add_sub_cancel' (by omega)]; rfl]
    exact Int.dvd_mul_right _ _
  have h2 : (0 : Int) ≤ x % ((2 ^ j : Nat) : Int) := Int.emod_nonneg _ (by omega)
  have h3 : x % ((2 ^ j : Nat) : Int) < ((2 ^ j : Nat) : Int) := Int.emod_lt_of_pos _ (by omega)
  have h4 : ((((x % 4294967296).toNat % 2 ^ j : Nat)) : Int) = x % ((2 ^ j : Nat) : Int) := by
    rw [Int.natCast_emod, Int.toNat_of_nonneg h1]
    exact Int.emod_emod_of_dvd x hd
  have h5 : (x % ((2 ^ j : Nat) : Int)) % 4294967296 = x % ((2 ^ j : Nat) : Int) := Int.emod_eq_of_lt h2 (by omega)
  rw [h5]
  omega
theorem andN_e {x y : Nat} (hx : x < 2147483648) (hy : y < 2147483648) : Int32.ofInt (x : Int) &&& Int32.ofInt (y : Int) = Int32.ofInt ((x &&& y : Nat) : Int) := by
  apply b_inj
  have h1 : x &&& y ≤ x := Nat.and_le_left
  show ((Int32.ofInt (x : Int)).toBitVec &&& (Int32.ofInt (y : Int)).toBitVec).toNat = _
  rw [BitVec.toNat_and, b_toNat, b_toNat, b_toNat]
  rw [show ((x : Int) % 4294967296).toNat = x by omega, show ((y : Int) % 4294967296).toNat = y by omega]
  omega
theorem orN_e {x y : Nat} (hx : x < 2147483648) (hy : y < 2147483648) : Int32.ofInt (x : Int) ||| Int32.ofInt (y : Int) = Int32.ofInt ((x ||| y : Nat) : Int) := by
  apply b_inj
  have h1 : x ||| y < 2 ^ 31 := Nat.or_lt_two_pow hx hy
  show ((Int32.ofInt (x : Int)).toBitVec ||| (Int32.ofInt (y : Int)).toBitVec).toNat = _
  rw [BitVec.toNat_or, b_toNat, b_toNat, b_toNat]
  rw [show ((x : Int) % 4294967296).toNat = x by omega, show ((y : Int) % 4294967296).toNat = y by omega]
  omega
theorem eg_andM {k : eg_K} {g : eg_G} {d bc bs n : Nat} {M : eg_M} {ls st : List Value} {pc : Nat} {Q : eg_Q} {x y : Int} (j : Nat) (hd : decode g.2.1 pc = .ok (.iand, 1)) (hy : y = 2 ^ j - 1) (hj : j ≤ 31) (h : eg_E k g d bc bs n (M) ls (vI (x % 2 ^ j) :: st) (pc + 1) Q) : eg_E k g d bc bs n (M) ls (vI y :: vI x :: st) (pc) Q := by
  intro p e R s m args below meth c H locs cells slots sl Z C hW hz hl hL hc hs hR
  subst hy
  have h1 := h p e R s m args below meth c H locs cells slots sl Z C hW hz hl hL hc hs hR
  unfold vI at h1
  rw [← and_e x j hj] at h1
  exact lv_iand C.1 C.2.1 hd h1
theorem eg_andN {k : eg_K} {g : eg_G} {d bc bs n : Nat} {M : eg_M} {ls st : List Value} {pc : Nat} {Q : eg_Q} {x y : Nat} (hd : decode g.2.1 pc = .ok (.iand, 1)) (hx : x < 2147483648) (hy : y < 2147483648) (h : eg_E k g d bc bs n (M) ls (vI ((x &&& y : Nat) : Int) :: st) (pc + 1) Q) : eg_E k g d bc bs n (M) ls (vI (y : Int) :: vI (x : Int) :: st) (pc) Q := by
  intro p e R s m args below meth c H locs cells slots sl Z C hW hz hl hL hc hs hR
  have h1 := h p e R s m args below meth c H locs cells slots sl Z C hW hz hl hL hc hs hR
  unfold vI at h1
  rw [← andN_e hx hy] at h1
  exact lv_iand C.1 C.2.1 hd h1
theorem eg_orN {k : eg_K} {g : eg_G} {d bc bs n : Nat} {M : eg_M} {ls st : List Value} {pc : Nat} {Q : eg_Q} {x y : Nat} (hd : decode g.2.1 pc = .ok (.ior, 1)) (hx : x < 2147483648) (hy : y < 2147483648) (h : eg_E k g d bc bs n (M) ls (vI ((x ||| y : Nat) : Int) :: st) (pc + 1) Q) : eg_E k g d bc bs n (M) ls (vI (y : Int) :: vI (x : Int) :: st) (pc) Q := by
  intro p e R s m args below meth c H locs cells slots sl Z C hW hz hl hL hc hs hR
  have h1 := h p e R s m args below meth c H locs cells slots sl Z C hW hz hl hL hc hs hR
  unfold vI at h1
  rw [← orN_e hx hy] at h1
  exact lv_ior C.1 C.2.1 hd h1
theorem eg_eqI {k : eg_K} {g : eg_G} {d bc bs n : Nat} {M : eg_M} {ls st : List Value} {pc : Nat} {Q : eg_Q} {x y : Int} (e : x = y) (h : eg_E k g d bc bs n (M) ls (vI y :: st) (pc) Q) : eg_E k g d bc bs n (M) ls (vI x :: st) (pc) Q := e ▸ h
theorem eg_eqL {k : eg_K} {g : eg_G} {d bc bs n : Nat} {M : eg_M} {ls st : List Value} {pc : Nat} {Q : eg_Q} {x y : Int} (e : x = y) (h : eg_E k g d bc bs n (M) ls (vL y :: st) (pc) Q) : eg_E k g d bc bs n (M) ls (vL x :: st) (pc) Q := e ▸ h
theorem eg_eqM {k : eg_K} {g : eg_G} {d bc bs n : Nat} {M : eg_M} {ls st : List Value} {pc : Nat} {Q : eg_Q} {M' : eg_M} (e : M = M') (h : eg_E k g d bc bs n (M') ls (st) (pc) Q) : eg_E k g d bc bs n (M) ls (st) (pc) Q := e ▸ h
