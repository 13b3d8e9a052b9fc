/-! THE BUILDER: calls of what StringBuilder has from AbstractStringBuilder -/
theorem eg_selU {args : Array Value} {s : State} {C : String} {c : ClassId} {y : MethodName} (hc : s.vm.findClass C = some c) (hy : y.cls ≠ "java/lang/invoke/MethodHandle" ∧ y.cls ≠ "java/lang/invoke/VarHandle") (hsame : (Cond.sameMethod y.cls y.cls y.name y.desc).before args s = true) (hpriv : (Cond.privateMethod y).before args s = true) (hinst : (Cond.instanceMethod y).before args s = true) : (Cond.selects C y y).before args s = true := by
  obtain ⟨cn, ck, r1, hcn, hck, hni, hf, hn1⟩ := Cond.sameMethod_found hsame
  obtain ⟨mk, methM, hnamed, hmethM, -, -⟩ := Cond.instanceMethod_spec hinst
  have hfound : s.methodFound? y.cls y.name y.desc = some mk := State.methodFound?_of_named hnamed hy
  have hcls : mk.cls = cn := Option.some.inj ((findClass_of_methodNamed hnamed).symm.trans hcn)
  have hsel : selectMethod {} s.vm c mk = .method mk := selectMethod_private hmethM (Cond.privateMethod_at hpriv mk methM hnamed hmethM)
  simp only [Cond.before, Cond.holds, Cond.value, hc, hfound, hnamed, hsel, hcls, hck]
  simp [hni]
def eg_cu (own : String) (idx : Nat) (g' : eg_G) (np : Nat) : Prop := eg_mt g' np ∧ Cond.methodLink own idx g'.1 ∈ eg_T ∧ Cond.sameMethod g'.1.cls g'.1.cls g'.1.name g'.1.desc ∈ eg_T ∧ Cond.instanceMethod g'.1 ∈ eg_T ∧ Cond.selects "java/lang/StringBuilder" g'.1 g'.1 ∈ eg_T
def eg_cp (own : String) (idx : Nat) (g' : eg_G) (np : Nat) : Prop := eg_mt g' np ∧ Cond.methodLink own idx g'.1 ∈ eg_T ∧ Cond.sameMethod g'.1.cls g'.1.cls g'.1.name g'.1.desc ∈ eg_T ∧ Cond.instanceMethod g'.1 ∈ eg_T ∧ Cond.superclass own g'.1.cls ∈ eg_T ∧ g'.1.name ≠ "<init>"
theorem eg_cU {k : eg_K} {g : eg_G} {d bc bs n : Nat} {M : eg_M} {ls st : List Value} {pc : Nat} {Q : eg_Q} {g' : eg_G} {idx np d' mc ms bc' bs' : Nat} {As : List Value} {i : Nat} {Q' : eg_Q} (hx : eg_cu g.1.cls idx g' np) (hd : decode g.2.1 pc = .ok (.invokevirtual idx, 3)) (hp : eg_P k g' d' mc ms (vR k i :: As) n M Q') {fs : List Value} (hM : M i = some (oO 0 fs)) (hn : As.length = np) (hst : (st.map fun v => v.category).sum ≤ 8) (hdd : d' + 1 ≤ d) (hbc : bc = mc + bc') (hbs : bs = ms + bs') (h : ∀ r n' M', Q' r n' M' → eg_E k g d bc' bs' n' M' ls (r.toList ++ st) (pc + 3) Q) : eg_E k g d bc bs n (M) ls (As.reverse ++ vR k i :: st) (pc) Q := by
  intro p e R s m args below meth c H locs cells slots sl Z C hW hz hl hL hc hs hR
  obtain ⟨hm, hlk, hsa, hin, hse⟩ := hx
  subst hbc; subst hbs
  have hts := C.2.2.2.2.2.1
  have hV := C.2.2.2.2.2.2.1
  have hc9 : cells + mc ≤ R.cells := by omega
  have hs9 : slots + ms ≤ R.slots := by omega
  have hrv : ∃ cell : Cell, H[eg_B k + i]? = some cell ∧ cell.vm.isStatics = false ∧ s.vm.findClass "java/lang/StringBuilder" = some cell.cls := va_recv hV.1 (hW.one hM) cl_J4.1 (q0 := 0) rfl
  obtain ⟨b1, b2, b3, b4, b5, b6, b7, b8, b9, b10, b11⟩ := eg_callB (mc := mc) (ms := ms) C hm hlk hdd
  refine eg_back (g := g) (d := d) (va_runU (owner := g'.1.cls) ⟨C.1, C.2.1, C.2.2.1, C.2.2.2.2.1, hts⟩ hp ⟨⟨b1, b2, b3, b4, b5, b6⟩, b7, b8, hm.2.2.1, b10, b11, hts _ hsa, va_Decl.of (hts _ hin) (hts _ hm.1), hts _ hse, hts _ hin⟩ ⟨eg_blind, hrv, eg_start hV hW⟩ rfl hn (hL.2.1) rfl (lv_room hst) hd ⟨hc9, hs9⟩) hl (fun r n' M' H1 locs1 hq hw hz1 hl1 => ?_)
  refine h r n' M' hq p e R s m args below meth c H1 locs1 (cells + mc) (slots + ms) sl Z C hw (Nat.le_trans hz hz1) hl1 hL (by omega) (by omega) ?_
  have e1 : cells + mc + bc' = cells + (mc + bc') := by omega
  have e2 : slots + ms + bs' = slots + (ms + bs') := by omega
  rw [e1, e2]
  exact hR
theorem eg_cP {k : eg_K} {g : eg_G} {d bc bs n : Nat} {M : eg_M} {ls st : List Value} {pc : Nat} {Q : eg_Q} {g' : eg_G} {idx np d' mc ms bc' bs' : Nat} {As : List Value} {i : Nat} {Q' : eg_Q} (hx : eg_cp g.1.cls idx g' np) (hd : decode g.2.1 pc = .ok (.invokespecial idx, 3)) (hp : eg_P k g' d' mc ms (vR k i :: As) n M Q') {fs : List Value} (hM : M i = some (oO 0 fs)) (hn : As.length = np) (hst : (st.map fun v => v.category).sum ≤ 8) (hdd : d' + 1 ≤ d) (hbc : bc = mc + bc') (hbs : bs = ms + bs') (h : ∀ r n' M', Q' r n' M' → eg_E k g d bc' bs' n' M' ls (r.toList ++ st) (pc + 3) Q) : eg_E k g d bc bs n (M) ls (As.reverse ++ vR k i :: st) (pc) Q := by
  intro p e R s m args below meth c H locs cells slots sl Z C hW hz hl hL hc hs hR
  obtain ⟨hm, hlk, hsa, hin, hsu, hno⟩ := hx
  subst hbc; subst hbs
  have hts := C.2.2.2.2.2.1
  have hV := C.2.2.2.2.2.2.1
  have hc9 : cells + mc ≤ R.cells := by omega
  have hs9 : slots + ms ≤ R.slots := by omega
  have hrv : ∃ cell : Cell, H[eg_B k + i]? = some cell ∧ cell.vm.isStatics = false ∧ s.vm.findClass "java/lang/StringBuilder" = some cell.cls := va_recv hV.1 (hW.one hM) cl_J4.1 (q0 := 0) rfl
  have hat : ClassAt s "java/lang/StringBuilder" ((eg_D k).1 0) := (hV.1.1 0 _ cl_J4.1).2
  obtain ⟨b1, b2, b3, b4, b5, b6, b7, b8, b9, b10, b11⟩ := eg_callB (mc := mc) (ms := ms) C hm hlk hdd
  refine eg_back (g := g) (d := d) (va_runSU hat ⟨C.1, C.2.1, C.2.2.1, C.2.2.2.2.1, hts⟩ hp ⟨⟨b1, b2, b3, b4, b5, b6⟩, b11, hts _ hsa, hts _ hsu, hts _ hin, b8, b7, hno, b10⟩ ⟨eg_blind, hrv, eg_start hV hW⟩ rfl hn (hL.2.1) rfl (lv_room hst) hd ⟨hc9, hs9⟩) hl (fun r n' M' H1 locs1 hq hw hz1 hl1 => ?_)
  refine h r n' M' hq p e R s m args below meth c H1 locs1 (cells + mc) (slots + ms) sl Z C hw (Nat.le_trans hz hz1) hl1 hL (by omega) (by omega) ?_
  have e1 : cells + mc + bc' = cells + (mc + bc') := by omega
  have e2 : slots + ms + bs' = slots + (ms + bs') := by omega
  rw [e1, e2]
  exact hR
theorem cs_J5_100 : eg_cu RJ5 100 gJ5_ensureCapacityInternal_d00df 1 := ⟨mt_J5_ensureCapacityInternal_d00df, (eg_in 1111 (by decide +kernel) (by decide +kernel)), (eg_in 1913 (by decide +kernel) (by decide +kernel)), (eg_in 1113 (by decide +kernel) (by decide +kernel)), (eg_inX 0 (by decide +kernel) (by decide +kernel))⟩
theorem cs_J5_104 : eg_cu RJ5 104 gJ5_newCapacity_0f7a4 1 := ⟨mt_J5_newCapacity_0f7a4, (eg_in 1115 (by decide +kernel) (by decide +kernel)), (eg_in 1914 (by decide +kernel) (by decide +kernel)), (eg_in 1117 (by decide +kernel) (by decide +kernel)), (eg_inX 1 (by decide +kernel) (by decide +kernel))⟩
theorem cs_J5_83 : eg_cu RJ5 83 gJ5_isLatin1_aae02 0 := ⟨mt_J5_isLatin1_aae02, (eg_in 1140 (by decide +kernel) (by decide +kernel)), (eg_in 1142 (by decide +kernel) (by decide +kernel)), (eg_in 1141 (by decide +kernel) (by decide +kernel)), (eg_in 1143 (by decide +kernel) (by decide +kernel))⟩
theorem cs_J5_208 : eg_cu RJ5 208 gJ5_putStringAt_47b60 2 := ⟨mt_J5_putStringAt_47b60, (eg_in 1187 (by decide +kernel) (by decide +kernel)), (eg_in 1917 (by decide +kernel) (by decide +kernel)), (eg_in 1189 (by decide +kernel) (by decide +kernel)), (eg_inX 2 (by decide +kernel) (by decide +kernel))⟩
theorem cs_J5_397 : eg_cu RJ5 397 gJ5_inflateIfNeededFor_a7421 1 := ⟨mt_J5_inflateIfNeededFor_a7421, (eg_in 1191 (by decide +kernel) (by decide +kernel)), (eg_in 1918 (by decide +kernel) (by decide +kernel)), (eg_in 1193 (by decide +kernel) (by decide +kernel)), (eg_inX 3 (by decide +kernel) (by decide +kernel))⟩
theorem cs_J4_333 : eg_cp RJ4 333 gJ5_setLength_d00df 1 := ⟨mt_J5_setLength_d00df, (eg_in 1108 (by decide +kernel) (by decide +kernel)), (eg_in 1912 (by decide +kernel) (by decide +kernel)), (eg_in 1109 (by decide +kernel) (by decide +kernel)), (eg_in 374 (by decide +kernel) (by decide +kernel)), by decide⟩
theorem cs_J4_29 : eg_cp RJ4 29 gJ5_append_cf1ce 1 := ⟨mt_J5_append_cf1ce, (eg_in 1164 (by decide +kernel) (by decide +kernel)), (eg_in 1915 (by decide +kernel) (by decide +kernel)), (eg_in 1165 (by decide +kernel) (by decide +kernel)), (eg_in 374 (by decide +kernel) (by decide +kernel)), by decide⟩
theorem cs_J4_50 : eg_cp RJ4 50 gJ5_append_3fe6f 1 := ⟨mt_J5_append_3fe6f, (eg_in 1229 (by decide +kernel) (by decide +kernel)), (eg_in 1920 (by decide +kernel) (by decide +kernel)), (eg_in 1230 (by decide +kernel) (by decide +kernel)), (eg_in 374 (by decide +kernel) (by decide +kernel)), by decide⟩
theorem cs_J4_53 : eg_cp RJ4 53 gJ5_append_c97b9 1 := ⟨mt_J5_append_c97b9, (eg_in 1242 (by decide +kernel) (by decide +kernel)), (eg_in 1921 (by decide +kernel) (by decide +kernel)), (eg_in 1243 (by decide +kernel) (by decide +kernel)), (eg_in 374 (by decide +kernel) (by decide +kernel)), by decide⟩
theorem cs_J4_343 : eg_cp RJ4 343 gJ5_length_8abf5 0 := ⟨mt_J5_length_8abf5, (eg_in 1300 (by decide +kernel) (by decide +kernel)), (eg_in 1922 (by decide +kernel) (by decide +kernel)), (eg_in 1301 (by decide +kernel) (by decide +kernel)), (eg_in 374 (by decide +kernel) (by decide +kernel)), by decide⟩
theorem cs_J4_329 : eg_cp RJ4 329 gJ5_charAt_5068e 1 := ⟨mt_J5_charAt_5068e, (eg_in 1307 (by decide +kernel) (by decide +kernel)), (eg_in 1923 (by decide +kernel) (by decide +kernel)), (eg_in 1308 (by decide +kernel) (by decide +kernel)), (eg_in 374 (by decide +kernel) (by decide +kernel)), by decide⟩
