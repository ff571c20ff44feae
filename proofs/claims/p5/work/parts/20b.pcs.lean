/-! A context's check by pieces: the entry, each template. -/
noncomputable def ab_smE (tab : ab_tab) (cal : ab_K) (fuel : Nat) (ret : Option FieldType) (mc ms kd : Nat) (m : ab_SM) : Bool := ab_anyK m.2.2.1.1 (fun fl => ab_mxsK fl m.2.2.1.1 m.2.2.2.1 (fun cuts => (match ab_run tab cal fuel [ab_smS m] [] with
  | some os => ab_eds fl cuts none ret m.2.2.1 mc ms os
  | none => false) && m.2.2.1.1.all ab_nvC && Nat.ble m.2.2.1.2.1.1 m.2.1.1.length && (ab_l0 m.2.1.2.2.2.2.1 || ab_subCs m.2.1.1 [] (ab_smH m) m.2.2.1.1) && (m.2.2.2.2 || Nat.beq kd 0)))
noncomputable def ab_smP (tab : ab_tab) (cal : ab_K) (fuel : Nat) (ret : Option FieldType) (mc ms : Nat) (m : ab_SM) (i : Nat) : Bool := ab_anyK m.2.2.1.1 (fun fl => ab_mxsK fl m.2.2.1.1 m.2.2.2.1 (fun cuts => match ab_get cuts i with
  | some T => ab_ckT tab cal fuel fl cuts ret m.2.2.1 mc ms T
  | none => true))
theorem ab_ckA_of {tab : ab_tab} {cal : ab_K} {fuel : Nat} {fl : List Bool} {cuts : List ab_T} {ret : Option FieldType} {q : ab_Q} {mc ms : Nat} : ∀ {l : List ab_T}, (∀ T ∈ l, ab_ckT tab cal fuel fl cuts ret q mc ms T = true) → ab_ckA tab cal fuel fl cuts ret q mc ms l = true
  | [], _ => rfl
  | a :: r, h => by
    simp only [ab_ckA, Bool.and_eq_true]
    exact ⟨h a List.mem_cons_self, ab_ckA_of (fun T hT => h T (List.mem_cons_of_mem _ hT))⟩
theorem ab_smC_of {tab : ab_tab} {cal : ab_K} {fuel : Nat} {ret : Option FieldType} {mc ms kd : Nat} {m : ab_SM} (n : Nat) (hn : m.2.2.2.1.length = n) (h : ab_smE tab cal fuel ret mc ms kd m = true) (hp : ∀ i : Nat, i < n → ab_smP tab cal fuel ret mc ms m i = true) : ab_smC tab cal fuel ret mc ms kd m = true := by
  rw [ab_smE, ab_anyK_eq, ab_mxsK_eq] at h
  rw [ab_smC, ab_anyK_eq, ab_mxsK_eq]
  rw [Bool.and_eq_true, Bool.and_eq_true, Bool.and_eq_true, Bool.and_eq_true] at h
  obtain ⟨⟨⟨⟨h1, h2⟩, h3⟩, h4⟩, h5⟩ := h
  rw [Bool.and_eq_true, Bool.and_eq_true, Bool.and_eq_true, Bool.and_eq_true, Bool.and_eq_true]
  refine ⟨⟨⟨⟨⟨h1, ab_ckA_of (fun T hT => ?_)⟩, h2⟩, h3⟩, h4⟩, h5⟩
  obtain ⟨i, hi⟩ := List.getElem?_of_mem hT
  have hl : i < n := by
    have := (List.getElem?_eq_some_iff.mp hi).1
    rw [List.length_map, hn] at this
    exact this
  have := hp i hl
  rw [ab_smP, ab_anyK_eq, ab_mxsK_eq, ab_get_eq, hi] at this
  exact this
