/-- an end whose memory is told by what holds of it -/
def eg_p (k : eg_K) (r : Option Value) (n : Nat) (X : eg_M) (P : eg_Z → Prop) : eg_Q := fun a b c => a = r ∧ b = n ∧ ∃ z' : eg_Z, c = enc k z' X ∧ P z'
theorem eg_Vpf0 {k : eg_K} {g : eg_G} {d bc bs n : Nat} {M : eg_M} {ls st : List Value} {pc : Nat} {Q : eg_Q} {g' : eg_G} {idx d' n' : Nat} {X : eg_M} {P : eg_Z → Prop} {i : Nat} {r : Value} (hx : eg_cv g.1.cls idx g' 0) (hd : decode g.2.1 pc = .ok (.invokevirtual idx, 3)) (hp : eg_P k g' d' 0 0 (vR k i :: []) n M (eg_p k (some r) n' X P)) {ci : Nat} {fs : List Value} (hM : M i = some (oO ci fs)) (hci : vwCl[ci]?.map (fun q => q.1) = some g'.1.cls) (hst : (st.map fun v => v.category).sum ≤ 8) (hdd : d' + 1 ≤ d) (h : ∀ z', P z' → eg_E k g d bc bs n' (enc k z' X) ls (r :: st) (pc + 3) Q) : eg_E k g d bc bs n M ls (vR k i :: st) pc Q :=
  eg_Vqf0 hx hd hp hM hci hst hdd (fun _ _ _ ⟨e1, e2, z', e3, h'⟩ => by subst e1; subst e2; subst e3; exact h z' h')
theorem eg_Vpv0 {k : eg_K} {g : eg_G} {d bc bs n : Nat} {M : eg_M} {ls st : List Value} {pc : Nat} {Q : eg_Q} {g' : eg_G} {idx d' n' : Nat} {X : eg_M} {P : eg_Z → Prop} {i : Nat} (hx : eg_cv g.1.cls idx g' 0) (hd : decode g.2.1 pc = .ok (.invokevirtual idx, 3)) (hp : eg_P k g' d' 0 0 (vR k i :: []) n M (eg_p k none n' X P)) {ci : Nat} {fs : List Value} (hM : M i = some (oO ci fs)) (hci : vwCl[ci]?.map (fun q => q.1) = some g'.1.cls) (hst : (st.map fun v => v.category).sum ≤ 8) (hdd : d' + 1 ≤ d) (h : ∀ z', P z' → eg_E k g d bc bs n' (enc k z' X) ls (st) (pc + 3) Q) : eg_E k g d bc bs n M ls (vR k i :: st) pc Q :=
  eg_Vqf0 hx hd hp hM hci hst hdd (fun _ _ _ ⟨e1, e2, z', e3, h'⟩ => by subst e1; subst e2; subst e3; exact h z' h')
theorem eg_Vpf1 {k : eg_K} {g : eg_G} {d bc bs n : Nat} {M : eg_M} {ls st : List Value} {pc : Nat} {Q : eg_Q} {g' : eg_G} {idx d' n' : Nat} {X : eg_M} {P : eg_Z → Prop} {a0 : Value} {i : Nat} {r : Value} (hx : eg_cv g.1.cls idx g' 1) (hd : decode g.2.1 pc = .ok (.invokevirtual idx, 3)) (hp : eg_P k g' d' 0 0 (vR k i :: [a0]) n M (eg_p k (some r) n' X P)) {ci : Nat} {fs : List Value} (hM : M i = some (oO ci fs)) (hci : vwCl[ci]?.map (fun q => q.1) = some g'.1.cls) (hst : (st.map fun v => v.category).sum ≤ 8) (hdd : d' + 1 ≤ d) (h : ∀ z', P z' → eg_E k g d bc bs n' (enc k z' X) ls (r :: st) (pc + 3) Q) : eg_E k g d bc bs n M ls (a0 :: vR k i :: st) pc Q :=
  eg_Vqf1 hx hd hp hM hci hst hdd (fun _ _ _ ⟨e1, e2, z', e3, h'⟩ => by subst e1; subst e2; subst e3; exact h z' h')
theorem eg_Vpv1 {k : eg_K} {g : eg_G} {d bc bs n : Nat} {M : eg_M} {ls st : List Value} {pc : Nat} {Q : eg_Q} {g' : eg_G} {idx d' n' : Nat} {X : eg_M} {P : eg_Z → Prop} {a0 : Value} {i : Nat} (hx : eg_cv g.1.cls idx g' 1) (hd : decode g.2.1 pc = .ok (.invokevirtual idx, 3)) (hp : eg_P k g' d' 0 0 (vR k i :: [a0]) n M (eg_p k none n' X P)) {ci : Nat} {fs : List Value} (hM : M i = some (oO ci fs)) (hci : vwCl[ci]?.map (fun q => q.1) = some g'.1.cls) (hst : (st.map fun v => v.category).sum ≤ 8) (hdd : d' + 1 ≤ d) (h : ∀ z', P z' → eg_E k g d bc bs n' (enc k z' X) ls (st) (pc + 3) Q) : eg_E k g d bc bs n M ls (a0 :: vR k i :: st) pc Q :=
  eg_Vqf1 hx hd hp hM hci hst hdd (fun _ _ _ ⟨e1, e2, z', e3, h'⟩ => by subst e1; subst e2; subst e3; exact h z' h')
theorem eg_Vpf2 {k : eg_K} {g : eg_G} {d bc bs n : Nat} {M : eg_M} {ls st : List Value} {pc : Nat} {Q : eg_Q} {g' : eg_G} {idx d' n' : Nat} {X : eg_M} {P : eg_Z → Prop} {a0 a1 : Value} {i : Nat} {r : Value} (hx : eg_cv g.1.cls idx g' 2) (hd : decode g.2.1 pc = .ok (.invokevirtual idx, 3)) (hp : eg_P k g' d' 0 0 (vR k i :: [a0, a1]) n M (eg_p k (some r) n' X P)) {ci : Nat} {fs : List Value} (hM : M i = some (oO ci fs)) (hci : vwCl[ci]?.map (fun q => q.1) = some g'.1.cls) (hst : (st.map fun v => v.category).sum ≤ 8) (hdd : d' + 1 ≤ d) (h : ∀ z', P z' → eg_E k g d bc bs n' (enc k z' X) ls (r :: st) (pc + 3) Q) : eg_E k g d bc bs n M ls (a1 :: a0 :: vR k i :: st) pc Q :=
  eg_Vqf2 hx hd hp hM hci hst hdd (fun _ _ _ ⟨e1, e2, z', e3, h'⟩ => by subst e1; subst e2; subst e3; exact h z' h')
theorem eg_Vpv2 {k : eg_K} {g : eg_G} {d bc bs n : Nat} {M : eg_M} {ls st : List Value} {pc : Nat} {Q : eg_Q} {g' : eg_G} {idx d' n' : Nat} {X : eg_M} {P : eg_Z → Prop} {a0 a1 : Value} {i : Nat} (hx : eg_cv g.1.cls idx g' 2) (hd : decode g.2.1 pc = .ok (.invokevirtual idx, 3)) (hp : eg_P k g' d' 0 0 (vR k i :: [a0, a1]) n M (eg_p k none n' X P)) {ci : Nat} {fs : List Value} (hM : M i = some (oO ci fs)) (hci : vwCl[ci]?.map (fun q => q.1) = some g'.1.cls) (hst : (st.map fun v => v.category).sum ≤ 8) (hdd : d' + 1 ≤ d) (h : ∀ z', P z' → eg_E k g d bc bs n' (enc k z' X) ls (st) (pc + 3) Q) : eg_E k g d bc bs n M ls (a1 :: a0 :: vR k i :: st) pc Q :=
  eg_Vqf2 hx hd hp hM hci hst hdd (fun _ _ _ ⟨e1, e2, z', e3, h'⟩ => by subst e1; subst e2; subst e3; exact h z' h')
theorem eg_Vpf3 {k : eg_K} {g : eg_G} {d bc bs n : Nat} {M : eg_M} {ls st : List Value} {pc : Nat} {Q : eg_Q} {g' : eg_G} {idx d' n' : Nat} {X : eg_M} {P : eg_Z → Prop} {a0 a1 a2 : Value} {i : Nat} {r : Value} (hx : eg_cv g.1.cls idx g' 3) (hd : decode g.2.1 pc = .ok (.invokevirtual idx, 3)) (hp : eg_P k g' d' 0 0 (vR k i :: [a0, a1, a2]) n M (eg_p k (some r) n' X P)) {ci : Nat} {fs : List Value} (hM : M i = some (oO ci fs)) (hci : vwCl[ci]?.map (fun q => q.1) = some g'.1.cls) (hst : (st.map fun v => v.category).sum ≤ 8) (hdd : d' + 1 ≤ d) (h : ∀ z', P z' → eg_E k g d bc bs n' (enc k z' X) ls (r :: st) (pc + 3) Q) : eg_E k g d bc bs n M ls (a2 :: a1 :: a0 :: vR k i :: st) pc Q :=
  eg_Vqf3 hx hd hp hM hci hst hdd (fun _ _ _ ⟨e1, e2, z', e3, h'⟩ => by subst e1; subst e2; subst e3; exact h z' h')
theorem eg_Vpv3 {k : eg_K} {g : eg_G} {d bc bs n : Nat} {M : eg_M} {ls st : List Value} {pc : Nat} {Q : eg_Q} {g' : eg_G} {idx d' n' : Nat} {X : eg_M} {P : eg_Z → Prop} {a0 a1 a2 : Value} {i : Nat} (hx : eg_cv g.1.cls idx g' 3) (hd : decode g.2.1 pc = .ok (.invokevirtual idx, 3)) (hp : eg_P k g' d' 0 0 (vR k i :: [a0, a1, a2]) n M (eg_p k none n' X P)) {ci : Nat} {fs : List Value} (hM : M i = some (oO ci fs)) (hci : vwCl[ci]?.map (fun q => q.1) = some g'.1.cls) (hst : (st.map fun v => v.category).sum ≤ 8) (hdd : d' + 1 ≤ d) (h : ∀ z', P z' → eg_E k g d bc bs n' (enc k z' X) ls (st) (pc + 3) Q) : eg_E k g d bc bs n M ls (a2 :: a1 :: a0 :: vR k i :: st) pc Q :=
  eg_Vqf3 hx hd hp hM hci hst hdd (fun _ _ _ ⟨e1, e2, z', e3, h'⟩ => by subst e1; subst e2; subst e3; exact h z' h')
theorem eg_Vpf4 {k : eg_K} {g : eg_G} {d bc bs n : Nat} {M : eg_M} {ls st : List Value} {pc : Nat} {Q : eg_Q} {g' : eg_G} {idx d' n' : Nat} {X : eg_M} {P : eg_Z → Prop} {a0 a1 a2 a3 : Value} {i : Nat} {r : Value} (hx : eg_cv g.1.cls idx g' 4) (hd : decode g.2.1 pc = .ok (.invokevirtual idx, 3)) (hp : eg_P k g' d' 0 0 (vR k i :: [a0, a1, a2, a3]) n M (eg_p k (some r) n' X P)) {ci : Nat} {fs : List Value} (hM : M i = some (oO ci fs)) (hci : vwCl[ci]?.map (fun q => q.1) = some g'.1.cls) (hst : (st.map fun v => v.category).sum ≤ 8) (hdd : d' + 1 ≤ d) (h : ∀ z', P z' → eg_E k g d bc bs n' (enc k z' X) ls (r :: st) (pc + 3) Q) : eg_E k g d bc bs n M ls (a3 :: a2 :: a1 :: a0 :: vR k i :: st) pc Q :=
  eg_Vqf4 hx hd hp hM hci hst hdd (fun _ _ _ ⟨e1, e2, z', e3, h'⟩ => by subst e1; subst e2; subst e3; exact h z' h')
theorem eg_Vpv4 {k : eg_K} {g : eg_G} {d bc bs n : Nat} {M : eg_M} {ls st : List Value} {pc : Nat} {Q : eg_Q} {g' : eg_G} {idx d' n' : Nat} {X : eg_M} {P : eg_Z → Prop} {a0 a1 a2 a3 : Value} {i : Nat} (hx : eg_cv g.1.cls idx g' 4) (hd : decode g.2.1 pc = .ok (.invokevirtual idx, 3)) (hp : eg_P k g' d' 0 0 (vR k i :: [a0, a1, a2, a3]) n M (eg_p k none n' X P)) {ci : Nat} {fs : List Value} (hM : M i = some (oO ci fs)) (hci : vwCl[ci]?.map (fun q => q.1) = some g'.1.cls) (hst : (st.map fun v => v.category).sum ≤ 8) (hdd : d' + 1 ≤ d) (h : ∀ z', P z' → eg_E k g d bc bs n' (enc k z' X) ls (st) (pc + 3) Q) : eg_E k g d bc bs n M ls (a3 :: a2 :: a1 :: a0 :: vR k i :: st) pc Q :=
  eg_Vqf4 hx hd hp hM hci hst hdd (fun _ _ _ ⟨e1, e2, z', e3, h'⟩ => by subst e1; subst e2; subst e3; exact h z' h')
theorem eg_Vpf5 {k : eg_K} {g : eg_G} {d bc bs n : Nat} {M : eg_M} {ls st : List Value} {pc : Nat} {Q : eg_Q} {g' : eg_G} {idx d' n' : Nat} {X : eg_M} {P : eg_Z → Prop} {a0 a1 a2 a3 a4 : Value} {i : Nat} {r : Value} (hx : eg_cv g.1.cls idx g' 5) (hd : decode g.2.1 pc = .ok (.invokevirtual idx, 3)) (hp : eg_P k g' d' 0 0 (vR k i :: [a0, a1, a2, a3, a4]) n M (eg_p k (some r) n' X P)) {ci : Nat} {fs : List Value} (hM : M i = some (oO ci fs)) (hci : vwCl[ci]?.map (fun q => q.1) = some g'.1.cls) (hst : (st.map fun v => v.category).sum ≤ 8) (hdd : d' + 1 ≤ d) (h : ∀ z', P z' → eg_E k g d bc bs n' (enc k z' X) ls (r :: st) (pc + 3) Q) : eg_E k g d bc bs n M ls (a4 :: a3 :: a2 :: a1 :: a0 :: vR k i :: st) pc Q :=
  eg_Vqf5 hx hd hp hM hci hst hdd (fun _ _ _ ⟨e1, e2, z', e3, h'⟩ => by subst e1; subst e2; subst e3; exact h z' h')
theorem eg_Vpv5 {k : eg_K} {g : eg_G} {d bc bs n : Nat} {M : eg_M} {ls st : List Value} {pc : Nat} {Q : eg_Q} {g' : eg_G} {idx d' n' : Nat} {X : eg_M} {P : eg_Z → Prop} {a0 a1 a2 a3 a4 : Value} {i : Nat} (hx : eg_cv g.1.cls idx g' 5) (hd : decode g.2.1 pc = .ok (.invokevirtual idx, 3)) (hp : eg_P k g' d' 0 0 (vR k i :: [a0, a1, a2, a3, a4]) n M (eg_p k none n' X P)) {ci : Nat} {fs : List Value} (hM : M i = some (oO ci fs)) (hci : vwCl[ci]?.map (fun q => q.1) = some g'.1.cls) (hst : (st.map fun v => v.category).sum ≤ 8) (hdd : d' + 1 ≤ d) (h : ∀ z', P z' → eg_E k g d bc bs n' (enc k z' X) ls (st) (pc + 3) Q) : eg_E k g d bc bs n M ls (a4 :: a3 :: a2 :: a1 :: a0 :: vR k i :: st) pc Q :=
  eg_Vqf5 hx hd hp hM hci hst hdd (fun _ _ _ ⟨e1, e2, z', e3, h'⟩ => by subst e1; subst e2; subst e3; exact h z' h')
theorem eg_Spf0 {k : eg_K} {g : eg_G} {d bc bs n : Nat} {M : eg_M} {ls st : List Value} {pc : Nat} {Q : eg_Q} {g' : eg_G} {idx d' n' : Nat} {X : eg_M} {P : eg_Z → Prop} {r : Value} (hx : eg_cs g.1.cls idx g' 0) (hd : decode g.2.1 pc = .ok (.invokestatic idx, 3)) (hp : eg_P k g' d' 0 0 [] n M (eg_p k (some r) n' X P)) (hst : (st.map fun v => v.category).sum ≤ 8) (hdd : d' + 1 ≤ d) (h : ∀ z', P z' → eg_E k g d bc bs n' (enc k z' X) ls (r :: st) (pc + 3) Q) : eg_E k g d bc bs n M ls (st) pc Q :=
  eg_Sqf0 hx hd hp hst hdd (fun _ _ _ ⟨e1, e2, z', e3, h'⟩ => by subst e1; subst e2; subst e3; exact h z' h')
theorem eg_Spv0 {k : eg_K} {g : eg_G} {d bc bs n : Nat} {M : eg_M} {ls st : List Value} {pc : Nat} {Q : eg_Q} {g' : eg_G} {idx d' n' : Nat} {X : eg_M} {P : eg_Z → Prop} (hx : eg_cs g.1.cls idx g' 0) (hd : decode g.2.1 pc = .ok (.invokestatic idx, 3)) (hp : eg_P k g' d' 0 0 [] n M (eg_p k none n' X P)) (hst : (st.map fun v => v.category).sum ≤ 8) (hdd : d' + 1 ≤ d) (h : ∀ z', P z' → eg_E k g d bc bs n' (enc k z' X) ls (st) (pc + 3) Q) : eg_E k g d bc bs n M ls (st) pc Q :=
  eg_Sqf0 hx hd hp hst hdd (fun _ _ _ ⟨e1, e2, z', e3, h'⟩ => by subst e1; subst e2; subst e3; exact h z' h')
theorem eg_Spf1 {k : eg_K} {g : eg_G} {d bc bs n : Nat} {M : eg_M} {ls st : List Value} {pc : Nat} {Q : eg_Q} {g' : eg_G} {idx d' n' : Nat} {X : eg_M} {P : eg_Z → Prop} {a0 : Value} {r : Value} (hx : eg_cs g.1.cls idx g' 1) (hd : decode g.2.1 pc = .ok (.invokestatic idx, 3)) (hp : eg_P k g' d' 0 0 [a0] n M (eg_p k (some r) n' X P)) (hst : (st.map fun v => v.category).sum ≤ 8) (hdd : d' + 1 ≤ d) (h : ∀ z', P z' → eg_E k g d bc bs n' (enc k z' X) ls (r :: st) (pc + 3) Q) : eg_E k g d bc bs n M ls (a0 :: st) pc Q :=
  eg_Sqf1 hx hd hp hst hdd (fun _ _ _ ⟨e1, e2, z', e3, h'⟩ => by subst e1; subst e2; subst e3; exact h z' h')
theorem eg_Spv1 {k : eg_K} {g : eg_G} {d bc bs n : Nat} {M : eg_M} {ls st : List Value} {pc : Nat} {Q : eg_Q} {g' : eg_G} {idx d' n' : Nat} {X : eg_M} {P : eg_Z → Prop} {a0 : Value} (hx : eg_cs g.1.cls idx g' 1) (hd : decode g.2.1 pc = .ok (.invokestatic idx, 3)) (hp : eg_P k g' d' 0 0 [a0] n M (eg_p k none n' X P)) (hst : (st.map fun v => v.category).sum ≤ 8) (hdd : d' + 1 ≤ d) (h : ∀ z', P z' → eg_E k g d bc bs n' (enc k z' X) ls (st) (pc + 3) Q) : eg_E k g d bc bs n M ls (a0 :: st) pc Q :=
  eg_Sqf1 hx hd hp hst hdd (fun _ _ _ ⟨e1, e2, z', e3, h'⟩ => by subst e1; subst e2; subst e3; exact h z' h')
theorem eg_Spf2 {k : eg_K} {g : eg_G} {d bc bs n : Nat} {M : eg_M} {ls st : List Value} {pc : Nat} {Q : eg_Q} {g' : eg_G} {idx d' n' : Nat} {X : eg_M} {P : eg_Z → Prop} {a0 a1 : Value} {r : Value} (hx : eg_cs g.1.cls idx g' 2) (hd : decode g.2.1 pc = .ok (.invokestatic idx, 3)) (hp : eg_P k g' d' 0 0 [a0, a1] n M (eg_p k (some r) n' X P)) (hst : (st.map fun v => v.category).sum ≤ 8) (hdd : d' + 1 ≤ d) (h : ∀ z', P z' → eg_E k g d bc bs n' (enc k z' X) ls (r :: st) (pc + 3) Q) : eg_E k g d bc bs n M ls (a1 :: a0 :: st) pc Q :=
  eg_Sqf2 hx hd hp hst hdd (fun _ _ _ ⟨e1, e2, z', e3, h'⟩ => by subst e1; subst e2; subst e3; exact h z' h')
theorem eg_Spv2 {k : eg_K} {g : eg_G} {d bc bs n : Nat} {M : eg_M} {ls st : List Value} {pc : Nat} {Q : eg_Q} {g' : eg_G} {idx d' n' : Nat} {X : eg_M} {P : eg_Z → Prop} {a0 a1 : Value} (hx : eg_cs g.1.cls idx g' 2) (hd : decode g.2.1 pc = .ok (.invokestatic idx, 3)) (hp : eg_P k g' d' 0 0 [a0, a1] n M (eg_p k none n' X P)) (hst : (st.map fun v => v.category).sum ≤ 8) (hdd : d' + 1 ≤ d) (h : ∀ z', P z' → eg_E k g d bc bs n' (enc k z' X) ls (st) (pc + 3) Q) : eg_E k g d bc bs n M ls (a1 :: a0 :: st) pc Q :=
  eg_Sqf2 hx hd hp hst hdd (fun _ _ _ ⟨e1, e2, z', e3, h'⟩ => by subst e1; subst e2; subst e3; exact h z' h')
theorem eg_Spf3 {k : eg_K} {g : eg_G} {d bc bs n : Nat} {M : eg_M} {ls st : List Value} {pc : Nat} {Q : eg_Q} {g' : eg_G} {idx d' n' : Nat} {X : eg_M} {P : eg_Z → Prop} {a0 a1 a2 : Value} {r : Value} (hx : eg_cs g.1.cls idx g' 3) (hd : decode g.2.1 pc = .ok (.invokestatic idx, 3)) (hp : eg_P k g' d' 0 0 [a0, a1, a2] n M (eg_p k (some r) n' X P)) (hst : (st.map fun v => v.category).sum ≤ 8) (hdd : d' + 1 ≤ d) (h : ∀ z', P z' → eg_E k g d bc bs n' (enc k z' X) ls (r :: st) (pc + 3) Q) : eg_E k g d bc bs n M ls (a2 :: a1 :: a0 :: st) pc Q :=
  eg_Sqf3 hx hd hp hst hdd (fun _ _ _ ⟨e1, e2, z', e3, h'⟩ => by subst e1; subst e2; subst e3; exact h z' h')
theorem eg_Spv3 {k : eg_K} {g : eg_G} {d bc bs n : Nat} {M : eg_M} {ls st : List Value} {pc : Nat} {Q : eg_Q} {g' : eg_G} {idx d' n' : Nat} {X : eg_M} {P : eg_Z → Prop} {a0 a1 a2 : Value} (hx : eg_cs g.1.cls idx g' 3) (hd : decode g.2.1 pc = .ok (.invokestatic idx, 3)) (hp : eg_P k g' d' 0 0 [a0, a1, a2] n M (eg_p k none n' X P)) (hst : (st.map fun v => v.category).sum ≤ 8) (hdd : d' + 1 ≤ d) (h : ∀ z', P z' → eg_E k g d bc bs n' (enc k z' X) ls (st) (pc + 3) Q) : eg_E k g d bc bs n M ls (a2 :: a1 :: a0 :: st) pc Q :=
  eg_Sqf3 hx hd hp hst hdd (fun _ _ _ ⟨e1, e2, z', e3, h'⟩ => by subst e1; subst e2; subst e3; exact h z' h')
/-- nothing outside the pipe at b has changed -/
def Md (z z' : eg_Z) (b : Nat) : Prop := ∀ c : Nat, (c < b ∨ b + 12 ≤ c) → z' c = z c
theorem Md.rf {z : eg_Z} {b : Nat} : Md z z b := fun _ _ => rfl
theorem Md.tr {z z' z'' : eg_Z} {b : Nat} (h : Md z z' b) (h' : Md z' z'' b) : Md z z'' b := fun c hc => (h' c hc).trans (h c hc)
theorem hP_c {z z' : eg_Z} {b : Nat} {v : eg_v} (h : hP z b v) (he : ∀ j, j < 11 → z' (b + j) = z (b + j)) : hP z' b v := by
  have e0 := he 0 (by decide)
  have e1 := he 1 (by decide)
  have e2 := he 2 (by decide)
  have e3 := he 3 (by decide)
  have e4 := he 4 (by decide)
  have e5 := he 5 (by decide)
  have e6 := he 6 (by decide)
  have e7 := he 7 (by decide)
  have e8 := he 8 (by decide)
  have e9 := he 9 (by decide)
  have e10 := he 10 (by decide)
  rw [Nat.add_zero] at e0
  unfold hP at h ⊢
  rw [e0, e1, e2, e3, e4, e5, e6, e7, e8, e9, e10]
  exact h
theorem hL_c {z z' : eg_Z} {b : Nat} {v : eg_v} (h : hL z b v) (he : z' (b + 11) = z (b + 11)) : hL z' b v := by
  unfold hL at h ⊢
  rw [he]
  exact h
theorem isB_d : ∀ b, b < 185 → ∀ b2, b2 < 185 → (!isB b || (!isB b2 || (decide (b = b2) || (decide (b + 12 ≤ b2) || decide (b2 + 12 ≤ b))))) = true := by decide +kernel
theorem isB_a {b b2 : Nat} (hb : isB b = true) (hb2 : isB b2 = true) (h : b ≠ b2) : b + 12 ≤ b2 ∨ b2 + 12 ≤ b := by
  have h1 := isB_d b (isB_lt hb) b2 (isB_lt hb2)
  simpa [hb, hb2, h] using h1
theorem Md.hP {z z' : eg_Z} {b b2 : Nat} {v : eg_v} (h : Md z z' b) (hb : isB b = true) (hb2 : isB b2 = true) (hne : b ≠ b2) (h2 : hP z b2 v) : hP z' b2 v := by
  have h3 := isB_a hb hb2 hne
  exact hP_c h2 (fun j hj => h _ (by omega))
theorem Md.hL {z z' : eg_Z} {b b2 : Nat} {v : eg_v} (h : Md z z' b) (hb : isB b = true) (hb2 : isB b2 = true) (hne : b ≠ b2) (h2 : hL z b2 v) : hL z' b2 v := by
  have h3 := isB_a hb hb2 hne
  exact hL_c h2 (h _ (by omega))
theorem add_1 {k : eg_K} {z : eg_Z} {X : eg_M} {n b : Nat} {cnt : Int} (hb : isB b = true) (hc : z (b + 1) 3 = cnt) (h0 : 0 ≤ cnt) (h1 : cnt < 7) : eg_P k gX5_add 1 0 0 [vR k (b + 1)] n (enc k z X) (eg_p k (some (vI cnt)) n X (fun z' => (∀ c, c ≠ b + 1 → c ≠ b + 2 → z' c = z c) ∧ z' (b + 1) 3 = cnt + 1 ∧ (∀ q : Nat, (q : Int) < cnt * 2 → z' (b + 2) q = z (b + 2) q) ∧ ∀ q : Nat, cnt * 2 ≤ (q : Int) → (q : Int) < cnt * 2 + 2 → z' (b + 2) q = 0)) := by
  refine eg_P.of (by decide) (Nat.le_of_ble_eq_true rfl) ?_
  show eg_E k gX5_add 1 0 0 n (enc k z X) [vR k (b + 1), vU] [] 0 _
  refine eg_al_n dX5_add_0 rfl rfl ?_
  refine eg_Vf0 cs_X5_38 dX5_add_1 (c_X5_isFull (ep1 hb) ⟨by omega, by omega⟩ ⟨by omega, by omega⟩) (by exact ep1 hb) rfl (Nat.le_of_ble_eq_true rfl) (by decide) ?_
  refine eg_bi_eq 9 dX5_add_4 rfl (fun h4 => ?_) (fun h4 => absurd h4 (by omega))
  refine eg_al_n dX5_add_9 rfl rfl ?_
  refine eg_dup dX5_add_10 rfl ?_
  refine eg_get fl_X5_9 dX5_add_11 (by exact ep1 hb) rfl ?_
  refine eg_iconst dX5_add_14 ?_
  refine eg_iadd dX5_add_15 ?_
  refine eg_put fl_X5_9 dX5_add_16 (by exact ep1 hb) rfl rfl rfl rfl ?_
  refine eg_eqM (es1 hb) ?_
  refine eg_iconst dX5_add_19 ?_
  refine eg_istore_n dX5_add_20 rfl rfl rfl ?_
  generalize w0 : va_up z (b + 1) _ = y0
  have f0 : (∀ c, c ≠ b + 1 → y0 c = z c) ∧ y0 (b + 1) 3 = cnt + 1 := ⟨fun c hc9 => by rw [← w0, va_up_n _ _ hc9], by rw [← w0, va_up_s, va_up_s, hc]⟩
  clear w0
  have f0t := f0.2
  refine eg_iload_n dX5_add_21 rfl ?_
  refine eg_al_n dX5_add_22 rfl rfl ?_
  refine eg_get fl_X5_21 dX5_add_23 (by exact ep1 hb) rfl ?_
  refine eg_icmp_ge 47 dX5_add_26 ⟨by omega, by omega⟩ ⟨by omega, by omega⟩ rfl (fun h26 => absurd h26 (by omega)) (fun h26 => ?_)
  refine eg_al_n dX5_add_29 rfl rfl ?_
  refine eg_al_n dX5_add_30 rfl rfl ?_
  refine eg_get fl_X5_9 dX5_add_31 (by exact ep1 hb) rfl ?_
  refine eg_iconst dX5_add_34 ?_
  refine eg_isub dX5_add_35 ?_
  refine eg_iload_n dX5_add_36 rfl ?_
  refine eg_iconst dX5_add_37 ?_
  refine eg_Vv3 cs_X5_34 dX5_add_38 (c_X5_put (ep1 hb) (ep2 hb) ⟨by omega, by omega⟩ ⟨by omega, by omega⟩ ⟨by omega, by omega⟩ ⟨by omega, by omega⟩ (by decide)) (by exact ep1 hb) rfl (Nat.le_of_ble_eq_true rfl) (by decide) ?_
  refine eg_eqM (es2 hb) ?_
  generalize w1 : va_up y0 (b + 2) _ = y1
  have f1 : (∀ c, c ≠ b + 2 → y1 c = y0 c) ∧ y1 (b + 2) = va_up (y0 (b + 2)) (cnt * 2 + 0).toNat 0 := ⟨fun c hc9 => by rw [← w1, va_up_n _ _ hc9], by rw [← w1, va_up_s]; congr 1; rw [f0t]; omega⟩
  clear w1
  have f1t : y1 (b + 1) 3 = cnt + 1 := by rw [f1.1 _ (by omega)]; exact f0t
  refine eg_iinc dX5_add_41 rfl rfl rfl ?_
  refine eg_goto 21 dX5_add_44 rfl ?_
  refine eg_iload_n dX5_add_21 rfl ?_
  refine eg_al_n dX5_add_22 rfl rfl ?_
  refine eg_get fl_X5_21 dX5_add_23 (by exact ep1 hb) rfl ?_
  refine eg_icmp_ge 47 dX5_add_26 ⟨by omega, by omega⟩ ⟨by omega, by omega⟩ rfl (fun h26 => absurd h26 (by omega)) (fun h26 => ?_)
  refine eg_al_n dX5_add_29 rfl rfl ?_
  refine eg_al_n dX5_add_30 rfl rfl ?_
  refine eg_get fl_X5_9 dX5_add_31 (by exact ep1 hb) rfl ?_
  refine eg_iconst dX5_add_34 ?_
  refine eg_isub dX5_add_35 ?_
  refine eg_iload_n dX5_add_36 rfl ?_
  refine eg_iconst dX5_add_37 ?_
  refine eg_Vv3 cs_X5_34 dX5_add_38 (c_X5_put (ep1 hb) (ep2 hb) ⟨by omega, by omega⟩ ⟨by omega, by omega⟩ ⟨by omega, by omega⟩ ⟨by omega, by omega⟩ (by decide)) (by exact ep1 hb) rfl (Nat.le_of_ble_eq_true rfl) (by decide) ?_
  refine eg_eqM (es2 hb) ?_
  generalize w2 : va_up y1 (b + 2) _ = y2
  have f2 : (∀ c, c ≠ b + 2 → y2 c = y1 c) ∧ y2 (b + 2) = va_up (y1 (b + 2)) (cnt * 2 + 1).toNat 0 := ⟨fun c hc9 => by rw [← w2, va_up_n _ _ hc9], by rw [← w2, va_up_s]; congr 1; rw [f1t]; omega⟩
  clear w2
  have f2t : y2 (b + 1) 3 = cnt + 1 := by rw [f2.1 _ (by omega)]; exact f1t
  refine eg_iinc dX5_add_41 rfl rfl rfl ?_
  refine eg_goto 21 dX5_add_44 rfl ?_
  refine eg_iload_n dX5_add_21 rfl ?_
  refine eg_al_n dX5_add_22 rfl rfl ?_
  refine eg_get fl_X5_21 dX5_add_23 (by exact ep1 hb) rfl ?_
  refine eg_icmp_ge 47 dX5_add_26 ⟨by omega, by omega⟩ ⟨by omega, by omega⟩ rfl (fun h26 => ?_) (fun h26 => absurd h26 (by omega))
  refine eg_al_n dX5_add_47 rfl rfl ?_
  refine eg_get fl_X5_9 dX5_add_48 (by exact ep1 hb) rfl ?_
  refine eg_iconst dX5_add_51 ?_
  refine eg_isub dX5_add_52 ?_
  refine eg_ireturn dX5_add_53 rfl rfl ?_
  refine ⟨congrArg (fun q => some (vI q)) (by omega), rfl, y2, rfl, ?_, f2t, ?_, ?_⟩
  · intro c h2 h3
    rw [f2.1 c h3, f1.1 c h3, f0.1 c h2]
  · intro q hq
    rw [f2.2, f1.2, f0.1 _ (by omega)]
    simp only [va_up]
    repeat (rw [if_neg (by omega)])
  · intro q hq hq2
    rw [f2.2, f1.2]
    simp only [va_up]
    split
    · rfl
    split
    · rfl
    exfalso; omega
theorem add_3 {k : eg_K} {z : eg_Z} {X : eg_M} {n b : Nat} {cnt : Int} (hb : isB b = true) (hc : z (b + 3) 3 = cnt) (h0 : 0 ≤ cnt) (h1 : cnt < 10) : eg_P k gX5_add 1 0 0 [vR k (b + 3)] n (enc k z X) (eg_p k (some (vI cnt)) n X (fun z' => (∀ c, c ≠ b + 3 → c ≠ b + 4 → z' c = z c) ∧ z' (b + 3) 3 = cnt + 1 ∧ (∀ q : Nat, (q : Int) < cnt * 4 → z' (b + 4) q = z (b + 4) q) ∧ ∀ q : Nat, cnt * 4 ≤ (q : Int) → (q : Int) < cnt * 4 + 4 → z' (b + 4) q = 0)) := by
  refine eg_P.of (by decide) (Nat.le_of_ble_eq_true rfl) ?_
  show eg_E k gX5_add 1 0 0 n (enc k z X) [vR k (b + 3), vU] [] 0 _
  refine eg_al_n dX5_add_0 rfl rfl ?_
  refine eg_Vf0 cs_X5_38 dX5_add_1 (c_X5_isFull (ep3 hb) ⟨by omega, by omega⟩ ⟨by omega, by omega⟩) (by exact ep3 hb) rfl (Nat.le_of_ble_eq_true rfl) (by decide) ?_
  refine eg_bi_eq 9 dX5_add_4 rfl (fun h4 => ?_) (fun h4 => absurd h4 (by omega))
  refine eg_al_n dX5_add_9 rfl rfl ?_
  refine eg_dup dX5_add_10 rfl ?_
  refine eg_get fl_X5_9 dX5_add_11 (by exact ep3 hb) rfl ?_
  refine eg_iconst dX5_add_14 ?_
  refine eg_iadd dX5_add_15 ?_
  refine eg_put fl_X5_9 dX5_add_16 (by exact ep3 hb) rfl rfl rfl rfl ?_
  refine eg_eqM (es3 hb) ?_
  refine eg_iconst dX5_add_19 ?_
  refine eg_istore_n dX5_add_20 rfl rfl rfl ?_
  generalize w0 : va_up z (b + 3) _ = y0
  have f0 : (∀ c, c ≠ b + 3 → y0 c = z c) ∧ y0 (b + 3) 3 = cnt + 1 := ⟨fun c hc9 => by rw [← w0, va_up_n _ _ hc9], by rw [← w0, va_up_s, va_up_s, hc]⟩
  clear w0
  have f0t := f0.2
  refine eg_iload_n dX5_add_21 rfl ?_
  refine eg_al_n dX5_add_22 rfl rfl ?_
  refine eg_get fl_X5_21 dX5_add_23 (by exact ep3 hb) rfl ?_
  refine eg_icmp_ge 47 dX5_add_26 ⟨by omega, by omega⟩ ⟨by omega, by omega⟩ rfl (fun h26 => absurd h26 (by omega)) (fun h26 => ?_)
  refine eg_al_n dX5_add_29 rfl rfl ?_
  refine eg_al_n dX5_add_30 rfl rfl ?_
  refine eg_get fl_X5_9 dX5_add_31 (by exact ep3 hb) rfl ?_
  refine eg_iconst dX5_add_34 ?_
  refine eg_isub dX5_add_35 ?_
  refine eg_iload_n dX5_add_36 rfl ?_
  refine eg_iconst dX5_add_37 ?_
  refine eg_Vv3 cs_X5_34 dX5_add_38 (c_X5_put (ep3 hb) (ep4 hb) ⟨by omega, by omega⟩ ⟨by omega, by omega⟩ ⟨by omega, by omega⟩ ⟨by omega, by omega⟩ (by decide)) (by exact ep3 hb) rfl (Nat.le_of_ble_eq_true rfl) (by decide) ?_
  refine eg_eqM (es4 hb) ?_
  generalize w1 : va_up y0 (b + 4) _ = y1
  have f1 : (∀ c, c ≠ b + 4 → y1 c = y0 c) ∧ y1 (b + 4) = va_up (y0 (b + 4)) (cnt * 4 + 0).toNat 0 := ⟨fun c hc9 => by rw [← w1, va_up_n _ _ hc9], by rw [← w1, va_up_s]; congr 1; rw [f0t]; omega⟩
  clear w1
  have f1t : y1 (b + 3) 3 = cnt + 1 := by rw [f1.1 _ (by omega)]; exact f0t
  refine eg_iinc dX5_add_41 rfl rfl rfl ?_
  refine eg_goto 21 dX5_add_44 rfl ?_
  refine eg_iload_n dX5_add_21 rfl ?_
  refine eg_al_n dX5_add_22 rfl rfl ?_
  refine eg_get fl_X5_21 dX5_add_23 (by exact ep3 hb) rfl ?_
  refine eg_icmp_ge 47 dX5_add_26 ⟨by omega, by omega⟩ ⟨by omega, by omega⟩ rfl (fun h26 => absurd h26 (by omega)) (fun h26 => ?_)
  refine eg_al_n dX5_add_29 rfl rfl ?_
  refine eg_al_n dX5_add_30 rfl rfl ?_
  refine eg_get fl_X5_9 dX5_add_31 (by exact ep3 hb) rfl ?_
  refine eg_iconst dX5_add_34 ?_
  refine eg_isub dX5_add_35 ?_
  refine eg_iload_n dX5_add_36 rfl ?_
  refine eg_iconst dX5_add_37 ?_
  refine eg_Vv3 cs_X5_34 dX5_add_38 (c_X5_put (ep3 hb) (ep4 hb) ⟨by omega, by omega⟩ ⟨by omega, by omega⟩ ⟨by omega, by omega⟩ ⟨by omega, by omega⟩ (by decide)) (by exact ep3 hb) rfl (Nat.le_of_ble_eq_true rfl) (by decide) ?_
  refine eg_eqM (es4 hb) ?_
  generalize w2 : va_up y1 (b + 4) _ = y2
  have f2 : (∀ c, c ≠ b + 4 → y2 c = y1 c) ∧ y2 (b + 4) = va_up (y1 (b + 4)) (cnt * 4 + 1).toNat 0 := ⟨fun c hc9 => by rw [← w2, va_up_n _ _ hc9], by rw [← w2, va_up_s]; congr 1; rw [f1t]; omega⟩
  clear w2
  have f2t : y2 (b + 3) 3 = cnt + 1 := by rw [f2.1 _ (by omega)]; exact f1t
  refine eg_iinc dX5_add_41 rfl rfl rfl ?_
  refine eg_goto 21 dX5_add_44 rfl ?_
  refine eg_iload_n dX5_add_21 rfl ?_
  refine eg_al_n dX5_add_22 rfl rfl ?_
  refine eg_get fl_X5_21 dX5_add_23 (by exact ep3 hb) rfl ?_
  refine eg_icmp_ge 47 dX5_add_26 ⟨by omega, by omega⟩ ⟨by omega, by omega⟩ rfl (fun h26 => absurd h26 (by omega)) (fun h26 => ?_)
  refine eg_al_n dX5_add_29 rfl rfl ?_
  refine eg_al_n dX5_add_30 rfl rfl ?_
  refine eg_get fl_X5_9 dX5_add_31 (by exact ep3 hb) rfl ?_
  refine eg_iconst dX5_add_34 ?_
  refine eg_isub dX5_add_35 ?_
  refine eg_iload_n dX5_add_36 rfl ?_
  refine eg_iconst dX5_add_37 ?_
  refine eg_Vv3 cs_X5_34 dX5_add_38 (c_X5_put (ep3 hb) (ep4 hb) ⟨by omega, by omega⟩ ⟨by omega, by omega⟩ ⟨by omega, by omega⟩ ⟨by omega, by omega⟩ (by decide)) (by exact ep3 hb) rfl (Nat.le_of_ble_eq_true rfl) (by decide) ?_
  refine eg_eqM (es4 hb) ?_
  generalize w3 : va_up y2 (b + 4) _ = y3
  have f3 : (∀ c, c ≠ b + 4 → y3 c = y2 c) ∧ y3 (b + 4) = va_up (y2 (b + 4)) (cnt * 4 + 2).toNat 0 := ⟨fun c hc9 => by rw [← w3, va_up_n _ _ hc9], by rw [← w3, va_up_s]; congr 1; rw [f2t]; omega⟩
  clear w3
  have f3t : y3 (b + 3) 3 = cnt + 1 := by rw [f3.1 _ (by omega)]; exact f2t
  refine eg_iinc dX5_add_41 rfl rfl rfl ?_
  refine eg_goto 21 dX5_add_44 rfl ?_
  refine eg_iload_n dX5_add_21 rfl ?_
  refine eg_al_n dX5_add_22 rfl rfl ?_
  refine eg_get fl_X5_21 dX5_add_23 (by exact ep3 hb) rfl ?_
  refine eg_icmp_ge 47 dX5_add_26 ⟨by omega, by omega⟩ ⟨by omega, by omega⟩ rfl (fun h26 => absurd h26 (by omega)) (fun h26 => ?_)
  refine eg_al_n dX5_add_29 rfl rfl ?_
  refine eg_al_n dX5_add_30 rfl rfl ?_
  refine eg_get fl_X5_9 dX5_add_31 (by exact ep3 hb) rfl ?_
  refine eg_iconst dX5_add_34 ?_
  refine eg_isub dX5_add_35 ?_
  refine eg_iload_n dX5_add_36 rfl ?_
  refine eg_iconst dX5_add_37 ?_
  refine eg_Vv3 cs_X5_34 dX5_add_38 (c_X5_put (ep3 hb) (ep4 hb) ⟨by omega, by omega⟩ ⟨by omega, by omega⟩ ⟨by omega, by omega⟩ ⟨by omega, by omega⟩ (by decide)) (by exact ep3 hb) rfl (Nat.le_of_ble_eq_true rfl) (by decide) ?_
  refine eg_eqM (es4 hb) ?_
  generalize w4 : va_up y3 (b + 4) _ = y4
  have f4 : (∀ c, c ≠ b + 4 → y4 c = y3 c) ∧ y4 (b + 4) = va_up (y3 (b + 4)) (cnt * 4 + 3).toNat 0 := ⟨fun c hc9 => by rw [← w4, va_up_n _ _ hc9], by rw [← w4, va_up_s]; congr 1; rw [f3t]; omega⟩
  clear w4
  have f4t : y4 (b + 3) 3 = cnt + 1 := by rw [f4.1 _ (by omega)]; exact f3t
  refine eg_iinc dX5_add_41 rfl rfl rfl ?_
  refine eg_goto 21 dX5_add_44 rfl ?_
  refine eg_iload_n dX5_add_21 rfl ?_
  refine eg_al_n dX5_add_22 rfl rfl ?_
  refine eg_get fl_X5_21 dX5_add_23 (by exact ep3 hb) rfl ?_
  refine eg_icmp_ge 47 dX5_add_26 ⟨by omega, by omega⟩ ⟨by omega, by omega⟩ rfl (fun h26 => ?_) (fun h26 => absurd h26 (by omega))
  refine eg_al_n dX5_add_47 rfl rfl ?_
  refine eg_get fl_X5_9 dX5_add_48 (by exact ep3 hb) rfl ?_
  refine eg_iconst dX5_add_51 ?_
  refine eg_isub dX5_add_52 ?_
  refine eg_ireturn dX5_add_53 rfl rfl ?_
  refine ⟨congrArg (fun q => some (vI q)) (by omega), rfl, y4, rfl, ?_, f4t, ?_, ?_⟩
  · intro c h2 h3
    rw [f4.1 c h3, f3.1 c h3, f2.1 c h3, f1.1 c h3, f0.1 c h2]
  · intro q hq
    rw [f4.2, f3.2, f2.2, f1.2, f0.1 _ (by omega)]
    simp only [va_up]
    repeat (rw [if_neg (by omega)])
  · intro q hq hq2
    rw [f4.2, f3.2, f2.2, f1.2]
    simp only [va_up]
    split
    · rfl
    split
    · rfl
    split
    · rfl
    split
    · rfl
    exfalso; omega
theorem add_5 {k : eg_K} {z : eg_Z} {X : eg_M} {n b : Nat} {cnt : Int} (hb : isB b = true) (hc : z (b + 5) 3 = cnt) (h0 : 0 ≤ cnt) (h1 : cnt < 6) : eg_P k gX5_add 1 0 0 [vR k (b + 5)] n (enc k z X) (eg_p k (some (vI cnt)) n X (fun z' => (∀ c, c ≠ b + 5 → c ≠ b + 6 → z' c = z c) ∧ z' (b + 5) 3 = cnt + 1 ∧ (∀ q : Nat, (q : Int) < cnt * 6 → z' (b + 6) q = z (b + 6) q) ∧ ∀ q : Nat, cnt * 6 ≤ (q : Int) → (q : Int) < cnt * 6 + 6 → z' (b + 6) q = 0)) := by
  refine eg_P.of (by decide) (Nat.le_of_ble_eq_true rfl) ?_
  show eg_E k gX5_add 1 0 0 n (enc k z X) [vR k (b + 5), vU] [] 0 _
  refine eg_al_n dX5_add_0 rfl rfl ?_
  refine eg_Vf0 cs_X5_38 dX5_add_1 (c_X5_isFull (ep5 hb) ⟨by omega, by omega⟩ ⟨by omega, by omega⟩) (by exact ep5 hb) rfl (Nat.le_of_ble_eq_true rfl) (by decide) ?_
  refine eg_bi_eq 9 dX5_add_4 rfl (fun h4 => ?_) (fun h4 => absurd h4 (by omega))
  refine eg_al_n dX5_add_9 rfl rfl ?_
  refine eg_dup dX5_add_10 rfl ?_
  refine eg_get fl_X5_9 dX5_add_11 (by exact ep5 hb) rfl ?_
  refine eg_iconst dX5_add_14 ?_
  refine eg_iadd dX5_add_15 ?_
  refine eg_put fl_X5_9 dX5_add_16 (by exact ep5 hb) rfl rfl rfl rfl ?_
  refine eg_eqM (es5 hb) ?_
  refine eg_iconst dX5_add_19 ?_
  refine eg_istore_n dX5_add_20 rfl rfl rfl ?_
  generalize w0 : va_up z (b + 5) _ = y0
  have f0 : (∀ c, c ≠ b + 5 → y0 c = z c) ∧ y0 (b + 5) 3 = cnt + 1 := ⟨fun c hc9 => by rw [← w0, va_up_n _ _ hc9], by rw [← w0, va_up_s, va_up_s, hc]⟩
  clear w0
  have f0t := f0.2
  refine eg_iload_n dX5_add_21 rfl ?_
  refine eg_al_n dX5_add_22 rfl rfl ?_
  refine eg_get fl_X5_21 dX5_add_23 (by exact ep5 hb) rfl ?_
  refine eg_icmp_ge 47 dX5_add_26 ⟨by omega, by omega⟩ ⟨by omega, by omega⟩ rfl (fun h26 => absurd h26 (by omega)) (fun h26 => ?_)
  refine eg_al_n dX5_add_29 rfl rfl ?_
  refine eg_al_n dX5_add_30 rfl rfl ?_
  refine eg_get fl_X5_9 dX5_add_31 (by exact ep5 hb) rfl ?_
  refine eg_iconst dX5_add_34 ?_
  refine eg_isub dX5_add_35 ?_
  refine eg_iload_n dX5_add_36 rfl ?_
  refine eg_iconst dX5_add_37 ?_
  refine eg_Vv3 cs_X5_34 dX5_add_38 (c_X5_put (ep5 hb) (ep6 hb) ⟨by omega, by omega⟩ ⟨by omega, by omega⟩ ⟨by omega, by omega⟩ ⟨by omega, by omega⟩ (by decide)) (by exact ep5 hb) rfl (Nat.le_of_ble_eq_true rfl) (by decide) ?_
  refine eg_eqM (es6 hb) ?_
  generalize w1 : va_up y0 (b + 6) _ = y1
  have f1 : (∀ c, c ≠ b + 6 → y1 c = y0 c) ∧ y1 (b + 6) = va_up (y0 (b + 6)) (cnt * 6 + 0).toNat 0 := ⟨fun c hc9 => by rw [← w1, va_up_n _ _ hc9], by rw [← w1, va_up_s]; congr 1; rw [f0t]; omega⟩
  clear w1
  have f1t : y1 (b + 5) 3 = cnt + 1 := by rw [f1.1 _ (by omega)]; exact f0t
  refine eg_iinc dX5_add_41 rfl rfl rfl ?_
  refine eg_goto 21 dX5_add_44 rfl ?_
  refine eg_iload_n dX5_add_21 rfl ?_
  refine eg_al_n dX5_add_22 rfl rfl ?_
  refine eg_get fl_X5_21 dX5_add_23 (by exact ep5 hb) rfl ?_
  refine eg_icmp_ge 47 dX5_add_26 ⟨by omega, by omega⟩ ⟨by omega, by omega⟩ rfl (fun h26 => absurd h26 (by omega)) (fun h26 => ?_)
  refine eg_al_n dX5_add_29 rfl rfl ?_
  refine eg_al_n dX5_add_30 rfl rfl ?_
  refine eg_get fl_X5_9 dX5_add_31 (by exact ep5 hb) rfl ?_
  refine eg_iconst dX5_add_34 ?_
  refine eg_isub dX5_add_35 ?_
  refine eg_iload_n dX5_add_36 rfl ?_
  refine eg_iconst dX5_add_37 ?_
  refine eg_Vv3 cs_X5_34 dX5_add_38 (c_X5_put (ep5 hb) (ep6 hb) ⟨by omega, by omega⟩ ⟨by omega, by omega⟩ ⟨by omega, by omega⟩ ⟨by omega, by omega⟩ (by decide)) (by exact ep5 hb) rfl (Nat.le_of_ble_eq_true rfl) (by decide) ?_
  refine eg_eqM (es6 hb) ?_
  generalize w2 : va_up y1 (b + 6) _ = y2
  have f2 : (∀ c, c ≠ b + 6 → y2 c = y1 c) ∧ y2 (b + 6) = va_up (y1 (b + 6)) (cnt * 6 + 1).toNat 0 := ⟨fun c hc9 => by rw [← w2, va_up_n _ _ hc9], by rw [← w2, va_up_s]; congr 1; rw [f1t]; omega⟩
  clear w2
  have f2t : y2 (b + 5) 3 = cnt + 1 := by rw [f2.1 _ (by omega)]; exact f1t
  refine eg_iinc dX5_add_41 rfl rfl rfl ?_
  refine eg_goto 21 dX5_add_44 rfl ?_
  refine eg_iload_n dX5_add_21 rfl ?_
  refine eg_al_n dX5_add_22 rfl rfl ?_
  refine eg_get fl_X5_21 dX5_add_23 (by exact ep5 hb) rfl ?_
  refine eg_icmp_ge 47 dX5_add_26 ⟨by omega, by omega⟩ ⟨by omega, by omega⟩ rfl (fun h26 => absurd h26 (by omega)) (fun h26 => ?_)
  refine eg_al_n dX5_add_29 rfl rfl ?_
  refine eg_al_n dX5_add_30 rfl rfl ?_
  refine eg_get fl_X5_9 dX5_add_31 (by exact ep5 hb) rfl ?_
  refine eg_iconst dX5_add_34 ?_
  refine eg_isub dX5_add_35 ?_
  refine eg_iload_n dX5_add_36 rfl ?_
  refine eg_iconst dX5_add_37 ?_
  refine eg_Vv3 cs_X5_34 dX5_add_38 (c_X5_put (ep5 hb) (ep6 hb) ⟨by omega, by omega⟩ ⟨by omega, by omega⟩ ⟨by omega, by omega⟩ ⟨by omega, by omega⟩ (by decide)) (by exact ep5 hb) rfl (Nat.le_of_ble_eq_true rfl) (by decide) ?_
  refine eg_eqM (es6 hb) ?_
  generalize w3 : va_up y2 (b + 6) _ = y3
  have f3 : (∀ c, c ≠ b + 6 → y3 c = y2 c) ∧ y3 (b + 6) = va_up (y2 (b + 6)) (cnt * 6 + 2).toNat 0 := ⟨fun c hc9 => by rw [← w3, va_up_n _ _ hc9], by rw [← w3, va_up_s]; congr 1; rw [f2t]; omega⟩
  clear w3
  have f3t : y3 (b + 5) 3 = cnt + 1 := by rw [f3.1 _ (by omega)]; exact f2t
  refine eg_iinc dX5_add_41 rfl rfl rfl ?_
  refine eg_goto 21 dX5_add_44 rfl ?_
  refine eg_iload_n dX5_add_21 rfl ?_
  refine eg_al_n dX5_add_22 rfl rfl ?_
  refine eg_get fl_X5_21 dX5_add_23 (by exact ep5 hb) rfl ?_
  refine eg_icmp_ge 47 dX5_add_26 ⟨by omega, by omega⟩ ⟨by omega, by omega⟩ rfl (fun h26 => absurd h26 (by omega)) (fun h26 => ?_)
  refine eg_al_n dX5_add_29 rfl rfl ?_
  refine eg_al_n dX5_add_30 rfl rfl ?_
  refine eg_get fl_X5_9 dX5_add_31 (by exact ep5 hb) rfl ?_
  refine eg_iconst dX5_add_34 ?_
  refine eg_isub dX5_add_35 ?_
  refine eg_iload_n dX5_add_36 rfl ?_
  refine eg_iconst dX5_add_37 ?_
  refine eg_Vv3 cs_X5_34 dX5_add_38 (c_X5_put (ep5 hb) (ep6 hb) ⟨by omega, by omega⟩ ⟨by omega, by omega⟩ ⟨by omega, by omega⟩ ⟨by omega, by omega⟩ (by decide)) (by exact ep5 hb) rfl (Nat.le_of_ble_eq_true rfl) (by decide) ?_
  refine eg_eqM (es6 hb) ?_
  generalize w4 : va_up y3 (b + 6) _ = y4
  have f4 : (∀ c, c ≠ b + 6 → y4 c = y3 c) ∧ y4 (b + 6) = va_up (y3 (b + 6)) (cnt * 6 + 3).toNat 0 := ⟨fun c hc9 => by rw [← w4, va_up_n _ _ hc9], by rw [← w4, va_up_s]; congr 1; rw [f3t]; omega⟩
  clear w4
  have f4t : y4 (b + 5) 3 = cnt + 1 := by rw [f4.1 _ (by omega)]; exact f3t
  refine eg_iinc dX5_add_41 rfl rfl rfl ?_
  refine eg_goto 21 dX5_add_44 rfl ?_
  refine eg_iload_n dX5_add_21 rfl ?_
  refine eg_al_n dX5_add_22 rfl rfl ?_
  refine eg_get fl_X5_21 dX5_add_23 (by exact ep5 hb) rfl ?_
  refine eg_icmp_ge 47 dX5_add_26 ⟨by omega, by omega⟩ ⟨by omega, by omega⟩ rfl (fun h26 => absurd h26 (by omega)) (fun h26 => ?_)
  refine eg_al_n dX5_add_29 rfl rfl ?_
  refine eg_al_n dX5_add_30 rfl rfl ?_
  refine eg_get fl_X5_9 dX5_add_31 (by exact ep5 hb) rfl ?_
  refine eg_iconst dX5_add_34 ?_
  refine eg_isub dX5_add_35 ?_
  refine eg_iload_n dX5_add_36 rfl ?_
  refine eg_iconst dX5_add_37 ?_
  refine eg_Vv3 cs_X5_34 dX5_add_38 (c_X5_put (ep5 hb) (ep6 hb) ⟨by omega, by omega⟩ ⟨by omega, by omega⟩ ⟨by omega, by omega⟩ ⟨by omega, by omega⟩ (by decide)) (by exact ep5 hb) rfl (Nat.le_of_ble_eq_true rfl) (by decide) ?_
  refine eg_eqM (es6 hb) ?_
  generalize w5 : va_up y4 (b + 6) _ = y5
  have f5 : (∀ c, c ≠ b + 6 → y5 c = y4 c) ∧ y5 (b + 6) = va_up (y4 (b + 6)) (cnt * 6 + 4).toNat 0 := ⟨fun c hc9 => by rw [← w5, va_up_n _ _ hc9], by rw [← w5, va_up_s]; congr 1; rw [f4t]; omega⟩
  clear w5
  have f5t : y5 (b + 5) 3 = cnt + 1 := by rw [f5.1 _ (by omega)]; exact f4t
  refine eg_iinc dX5_add_41 rfl rfl rfl ?_
  refine eg_goto 21 dX5_add_44 rfl ?_
  refine eg_iload_n dX5_add_21 rfl ?_
  refine eg_al_n dX5_add_22 rfl rfl ?_
  refine eg_get fl_X5_21 dX5_add_23 (by exact ep5 hb) rfl ?_
  refine eg_icmp_ge 47 dX5_add_26 ⟨by omega, by omega⟩ ⟨by omega, by omega⟩ rfl (fun h26 => absurd h26 (by omega)) (fun h26 => ?_)
  refine eg_al_n dX5_add_29 rfl rfl ?_
  refine eg_al_n dX5_add_30 rfl rfl ?_
  refine eg_get fl_X5_9 dX5_add_31 (by exact ep5 hb) rfl ?_
  refine eg_iconst dX5_add_34 ?_
  refine eg_isub dX5_add_35 ?_
  refine eg_iload_n dX5_add_36 rfl ?_
  refine eg_iconst dX5_add_37 ?_
  refine eg_Vv3 cs_X5_34 dX5_add_38 (c_X5_put (ep5 hb) (ep6 hb) ⟨by omega, by omega⟩ ⟨by omega, by omega⟩ ⟨by omega, by omega⟩ ⟨by omega, by omega⟩ (by decide)) (by exact ep5 hb) rfl (Nat.le_of_ble_eq_true rfl) (by decide) ?_
  refine eg_eqM (es6 hb) ?_
  generalize w6 : va_up y5 (b + 6) _ = y6
  have f6 : (∀ c, c ≠ b + 6 → y6 c = y5 c) ∧ y6 (b + 6) = va_up (y5 (b + 6)) (cnt * 6 + 5).toNat 0 := ⟨fun c hc9 => by rw [← w6, va_up_n _ _ hc9], by rw [← w6, va_up_s]; congr 1; rw [f5t]; omega⟩
  clear w6
  have f6t : y6 (b + 5) 3 = cnt + 1 := by rw [f6.1 _ (by omega)]; exact f5t
  refine eg_iinc dX5_add_41 rfl rfl rfl ?_
  refine eg_goto 21 dX5_add_44 rfl ?_
  refine eg_iload_n dX5_add_21 rfl ?_
  refine eg_al_n dX5_add_22 rfl rfl ?_
  refine eg_get fl_X5_21 dX5_add_23 (by exact ep5 hb) rfl ?_
  refine eg_icmp_ge 47 dX5_add_26 ⟨by omega, by omega⟩ ⟨by omega, by omega⟩ rfl (fun h26 => ?_) (fun h26 => absurd h26 (by omega))
  refine eg_al_n dX5_add_47 rfl rfl ?_
  refine eg_get fl_X5_9 dX5_add_48 (by exact ep5 hb) rfl ?_
  refine eg_iconst dX5_add_51 ?_
  refine eg_isub dX5_add_52 ?_
  refine eg_ireturn dX5_add_53 rfl rfl ?_
  refine ⟨congrArg (fun q => some (vI q)) (by omega), rfl, y6, rfl, ?_, f6t, ?_, ?_⟩
  · intro c h2 h3
    rw [f6.1 c h3, f5.1 c h3, f4.1 c h3, f3.1 c h3, f2.1 c h3, f1.1 c h3, f0.1 c h2]
  · intro q hq
    rw [f6.2, f5.2, f4.2, f3.2, f2.2, f1.2, f0.1 _ (by omega)]
    simp only [va_up]
    repeat (rw [if_neg (by omega)])
  · intro q hq hq2
    rw [f6.2, f5.2, f4.2, f3.2, f2.2, f1.2]
    simp only [va_up]
    split
    · rfl
    split
    · rfl
    split
    · rfl
    split
    · rfl
    split
    · rfl
    split
    · rfl
    exfalso; omega
theorem add_7 {k : eg_K} {z : eg_Z} {X : eg_M} {n b : Nat} {cnt : Int} (hb : isB b = true) (hc : z (b + 7) 3 = cnt) (h0 : 0 ≤ cnt) (h1 : cnt < 16) : eg_P k gX5_add 1 0 0 [vR k (b + 7)] n (enc k z X) (eg_p k (some (vI cnt)) n X (fun z' => (∀ c, c ≠ b + 7 → c ≠ b + 8 → z' c = z c) ∧ z' (b + 7) 3 = cnt + 1 ∧ (∀ q : Nat, (q : Int) < cnt * 4 → z' (b + 8) q = z (b + 8) q) ∧ ∀ q : Nat, cnt * 4 ≤ (q : Int) → (q : Int) < cnt * 4 + 4 → z' (b + 8) q = 0)) := by
  refine eg_P.of (by decide) (Nat.le_of_ble_eq_true rfl) ?_
  show eg_E k gX5_add 1 0 0 n (enc k z X) [vR k (b + 7), vU] [] 0 _
  refine eg_al_n dX5_add_0 rfl rfl ?_
  refine eg_Vf0 cs_X5_38 dX5_add_1 (c_X5_isFull (ep7 hb) ⟨by omega, by omega⟩ ⟨by omega, by omega⟩) (by exact ep7 hb) rfl (Nat.le_of_ble_eq_true rfl) (by decide) ?_
  refine eg_bi_eq 9 dX5_add_4 rfl (fun h4 => ?_) (fun h4 => absurd h4 (by omega))
  refine eg_al_n dX5_add_9 rfl rfl ?_
  refine eg_dup dX5_add_10 rfl ?_
  refine eg_get fl_X5_9 dX5_add_11 (by exact ep7 hb) rfl ?_
  refine eg_iconst dX5_add_14 ?_
  refine eg_iadd dX5_add_15 ?_
  refine eg_put fl_X5_9 dX5_add_16 (by exact ep7 hb) rfl rfl rfl rfl ?_
  refine eg_eqM (es7 hb) ?_
  refine eg_iconst dX5_add_19 ?_
  refine eg_istore_n dX5_add_20 rfl rfl rfl ?_
  generalize w0 : va_up z (b + 7) _ = y0
  have f0 : (∀ c, c ≠ b + 7 → y0 c = z c) ∧ y0 (b + 7) 3 = cnt + 1 := ⟨fun c hc9 => by rw [← w0, va_up_n _ _ hc9], by rw [← w0, va_up_s, va_up_s, hc]⟩
  clear w0
  have f0t := f0.2
  refine eg_iload_n dX5_add_21 rfl ?_
  refine eg_al_n dX5_add_22 rfl rfl ?_
  refine eg_get fl_X5_21 dX5_add_23 (by exact ep7 hb) rfl ?_
  refine eg_icmp_ge 47 dX5_add_26 ⟨by omega, by omega⟩ ⟨by omega, by omega⟩ rfl (fun h26 => absurd h26 (by omega)) (fun h26 => ?_)
  refine eg_al_n dX5_add_29 rfl rfl ?_
  refine eg_al_n dX5_add_30 rfl rfl ?_
  refine eg_get fl_X5_9 dX5_add_31 (by exact ep7 hb) rfl ?_
  refine eg_iconst dX5_add_34 ?_
  refine eg_isub dX5_add_35 ?_
  refine eg_iload_n dX5_add_36 rfl ?_
  refine eg_iconst dX5_add_37 ?_
  refine eg_Vv3 cs_X5_34 dX5_add_38 (c_X5_put (ep7 hb) (ep8 hb) ⟨by omega, by omega⟩ ⟨by omega, by omega⟩ ⟨by omega, by omega⟩ ⟨by omega, by omega⟩ (by decide)) (by exact ep7 hb) rfl (Nat.le_of_ble_eq_true rfl) (by decide) ?_
  refine eg_eqM (es8 hb) ?_
  generalize w1 : va_up y0 (b + 8) _ = y1
  have f1 : (∀ c, c ≠ b + 8 → y1 c = y0 c) ∧ y1 (b + 8) = va_up (y0 (b + 8)) (cnt * 4 + 0).toNat 0 := ⟨fun c hc9 => by rw [← w1, va_up_n _ _ hc9], by rw [← w1, va_up_s]; congr 1; rw [f0t]; omega⟩
  clear w1
  have f1t : y1 (b + 7) 3 = cnt + 1 := by rw [f1.1 _ (by omega)]; exact f0t
  refine eg_iinc dX5_add_41 rfl rfl rfl ?_
  refine eg_goto 21 dX5_add_44 rfl ?_
  refine eg_iload_n dX5_add_21 rfl ?_
  refine eg_al_n dX5_add_22 rfl rfl ?_
  refine eg_get fl_X5_21 dX5_add_23 (by exact ep7 hb) rfl ?_
  refine eg_icmp_ge 47 dX5_add_26 ⟨by omega, by omega⟩ ⟨by omega, by omega⟩ rfl (fun h26 => absurd h26 (by omega)) (fun h26 => ?_)
  refine eg_al_n dX5_add_29 rfl rfl ?_
  refine eg_al_n dX5_add_30 rfl rfl ?_
  refine eg_get fl_X5_9 dX5_add_31 (by exact ep7 hb) rfl ?_
  refine eg_iconst dX5_add_34 ?_
  refine eg_isub dX5_add_35 ?_
  refine eg_iload_n dX5_add_36 rfl ?_
  refine eg_iconst dX5_add_37 ?_
  refine eg_Vv3 cs_X5_34 dX5_add_38 (c_X5_put (ep7 hb) (ep8 hb) ⟨by omega, by omega⟩ ⟨by omega, by omega⟩ ⟨by omega, by omega⟩ ⟨by omega, by omega⟩ (by decide)) (by exact ep7 hb) rfl (Nat.le_of_ble_eq_true rfl) (by decide) ?_
  refine eg_eqM (es8 hb) ?_
  generalize w2 : va_up y1 (b + 8) _ = y2
  have f2 : (∀ c, c ≠ b + 8 → y2 c = y1 c) ∧ y2 (b + 8) = va_up (y1 (b + 8)) (cnt * 4 + 1).toNat 0 := ⟨fun c hc9 => by rw [← w2, va_up_n _ _ hc9], by rw [← w2, va_up_s]; congr 1; rw [f1t]; omega⟩
  clear w2
  have f2t : y2 (b + 7) 3 = cnt + 1 := by rw [f2.1 _ (by omega)]; exact f1t
  refine eg_iinc dX5_add_41 rfl rfl rfl ?_
  refine eg_goto 21 dX5_add_44 rfl ?_
  refine eg_iload_n dX5_add_21 rfl ?_
  refine eg_al_n dX5_add_22 rfl rfl ?_
  refine eg_get fl_X5_21 dX5_add_23 (by exact ep7 hb) rfl ?_
  refine eg_icmp_ge 47 dX5_add_26 ⟨by omega, by omega⟩ ⟨by omega, by omega⟩ rfl (fun h26 => absurd h26 (by omega)) (fun h26 => ?_)
  refine eg_al_n dX5_add_29 rfl rfl ?_
  refine eg_al_n dX5_add_30 rfl rfl ?_
  refine eg_get fl_X5_9 dX5_add_31 (by exact ep7 hb) rfl ?_
  refine eg_iconst dX5_add_34 ?_
  refine eg_isub dX5_add_35 ?_
  refine eg_iload_n dX5_add_36 rfl ?_
  refine eg_iconst dX5_add_37 ?_
  refine eg_Vv3 cs_X5_34 dX5_add_38 (c_X5_put (ep7 hb) (ep8 hb) ⟨by omega, by omega⟩ ⟨by omega, by omega⟩ ⟨by omega, by omega⟩ ⟨by omega, by omega⟩ (by decide)) (by exact ep7 hb) rfl (Nat.le_of_ble_eq_true rfl) (by decide) ?_
  refine eg_eqM (es8 hb) ?_
  generalize w3 : va_up y2 (b + 8) _ = y3
  have f3 : (∀ c, c ≠ b + 8 → y3 c = y2 c) ∧ y3 (b + 8) = va_up (y2 (b + 8)) (cnt * 4 + 2).toNat 0 := ⟨fun c hc9 => by rw [← w3, va_up_n _ _ hc9], by rw [← w3, va_up_s]; congr 1; rw [f2t]; omega⟩
  clear w3
  have f3t : y3 (b + 7) 3 = cnt + 1 := by rw [f3.1 _ (by omega)]; exact f2t
  refine eg_iinc dX5_add_41 rfl rfl rfl ?_
  refine eg_goto 21 dX5_add_44 rfl ?_
  refine eg_iload_n dX5_add_21 rfl ?_
  refine eg_al_n dX5_add_22 rfl rfl ?_
  refine eg_get fl_X5_21 dX5_add_23 (by exact ep7 hb) rfl ?_
  refine eg_icmp_ge 47 dX5_add_26 ⟨by omega, by omega⟩ ⟨by omega, by omega⟩ rfl (fun h26 => absurd h26 (by omega)) (fun h26 => ?_)
  refine eg_al_n dX5_add_29 rfl rfl ?_
  refine eg_al_n dX5_add_30 rfl rfl ?_
  refine eg_get fl_X5_9 dX5_add_31 (by exact ep7 hb) rfl ?_
  refine eg_iconst dX5_add_34 ?_
  refine eg_isub dX5_add_35 ?_
  refine eg_iload_n dX5_add_36 rfl ?_
  refine eg_iconst dX5_add_37 ?_
  refine eg_Vv3 cs_X5_34 dX5_add_38 (c_X5_put (ep7 hb) (ep8 hb) ⟨by omega, by omega⟩ ⟨by omega, by omega⟩ ⟨by omega, by omega⟩ ⟨by omega, by omega⟩ (by decide)) (by exact ep7 hb) rfl (Nat.le_of_ble_eq_true rfl) (by decide) ?_
  refine eg_eqM (es8 hb) ?_
  generalize w4 : va_up y3 (b + 8) _ = y4
  have f4 : (∀ c, c ≠ b + 8 → y4 c = y3 c) ∧ y4 (b + 8) = va_up (y3 (b + 8)) (cnt * 4 + 3).toNat 0 := ⟨fun c hc9 => by rw [← w4, va_up_n _ _ hc9], by rw [← w4, va_up_s]; congr 1; rw [f3t]; omega⟩
  clear w4
  have f4t : y4 (b + 7) 3 = cnt + 1 := by rw [f4.1 _ (by omega)]; exact f3t
  refine eg_iinc dX5_add_41 rfl rfl rfl ?_
  refine eg_goto 21 dX5_add_44 rfl ?_
  refine eg_iload_n dX5_add_21 rfl ?_
  refine eg_al_n dX5_add_22 rfl rfl ?_
  refine eg_get fl_X5_21 dX5_add_23 (by exact ep7 hb) rfl ?_
  refine eg_icmp_ge 47 dX5_add_26 ⟨by omega, by omega⟩ ⟨by omega, by omega⟩ rfl (fun h26 => ?_) (fun h26 => absurd h26 (by omega))
  refine eg_al_n dX5_add_47 rfl rfl ?_
  refine eg_get fl_X5_9 dX5_add_48 (by exact ep7 hb) rfl ?_
  refine eg_iconst dX5_add_51 ?_
  refine eg_isub dX5_add_52 ?_
  refine eg_ireturn dX5_add_53 rfl rfl ?_
  refine ⟨congrArg (fun q => some (vI q)) (by omega), rfl, y4, rfl, ?_, f4t, ?_, ?_⟩
  · intro c h2 h3
    rw [f4.1 c h3, f3.1 c h3, f2.1 c h3, f1.1 c h3, f0.1 c h2]
  · intro q hq
    rw [f4.2, f3.2, f2.2, f1.2, f0.1 _ (by omega)]
    simp only [va_up]
    repeat (rw [if_neg (by omega)])
  · intro q hq hq2
    rw [f4.2, f3.2, f2.2, f1.2]
    simp only [va_up]
    split
    · rfl
    split
    · rfl
    split
    · rfl
    split
    · rfl
    exfalso; omega
