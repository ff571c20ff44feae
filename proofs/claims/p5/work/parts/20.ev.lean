/-! Calls: in line, or by a context. -/
abbrev ab_M2 : Type := ab_ME × List ab_SM
noncomputable def ab_trK (d : Nat) (ret : Option FieldType) (env : ab_E) (nl : Nat) (aw : ab_H) (as : List ab_V) : List ab_SM → Option (List ab_O)
  | [] => none
  | M :: r => bif Nat.ble M.1 d then (match ab_smK ret M env nl aw as with
    | some o => some o
    | none => ab_trK d ret env nl aw as r) else ab_trK d ret env nl aw as r
theorem ab_trK_ok {d : Nat} {ret : Option FieldType} {env : ab_E} {nl : Nat} {aw : ab_H} {as : List ab_V} {outs : List ab_O} : ∀ {l : List ab_SM}, ab_trK d ret env nl aw as l = some outs → ∃ M ∈ l, M.1 ≤ d ∧ ab_smK ret M env nl aw as = some outs
  | [], h => by cases h
  | M :: r, h => by
    simp only [ab_trK] at h
    cases hb : Nat.ble M.1 d
    · rw [hb, cond_false] at h
      obtain ⟨M', h1, h2⟩ := ab_trK_ok h
      exact ⟨M', List.mem_cons_of_mem _ h1, h2⟩
    · rw [hb, cond_true] at h
      split at h
      · rename_i o ho
        cases h
        exact ⟨M, List.mem_cons_self, Nat.le_of_ble_eq_true hb, ho⟩
      · obtain ⟨M', h1, h2⟩ := ab_trK_ok h
        exact ⟨M', List.mem_cons_of_mem _ h1, h2⟩
noncomputable def ab_ev2 (ME : List ab_M2) (fuel : Nat) : Nat → ab_K
  | 0 => fun _ _ _ => none
  | d + 1 => fun mid g as => match ab_get ME mid with
    | none => none
    | some ((_, _, maxL, ret, mc, ms, _, _, tab), sm) => match g with
      | (env, nl, aw, _, _) => bif Nat.ble (ab_csum as) maxL then (match sm with
        | [] => ab_entK 0 as (fun lv => match ab_run tab (ab_ev2 ME fuel d) fuel [((env, nl, aw, 0, 0), 0, lv, [])] [] with
          | none => none
          | some outs => ab_fin ret mc ms outs (fun L => some L))
        | M :: r => ab_trK d ret env nl aw as (M :: r)) else none
/-- the contexts of a list are right -/
noncomputable def ab_smA (ME : List ab_M2) (fuel : Nat) (q : ab_M2) : Prop := match q with
  | ((_, _, _, ret, mc, ms, kd, _, tab), sm) => ∀ M ∈ sm, kd < 2 ∧ ab_smC tab (ab_ev2 ME fuel M.1) fuel ret mc ms kd M = true
theorem ab_all2 {l : Launch} (hst : l.stackTraces = false) {X : ab_X} {D : va_G} {ME : List ab_M2} {fuel : Nat} (hME : ∀ M ∈ ME.map Prod.fst, ab_snd l X D (ME.map Prod.fst) M) (hSM : ∀ q ∈ ME, ab_smA ME fuel q) : ∀ (r d : Nat), r ≤ d → ab_cal l X D d (ME.map Prod.fst) (ab_ev2 ME fuel r) := by
  intro r
  induction r using Nat.strongRecOn with
  | ind r ih =>
    intro d hrd mid M hM env nl aw as outs h
    cases r with
    | zero => cases h
    | succ r =>
      obtain ⟨d, rfl⟩ : ∃ d', d = d' + 1 := ⟨d - 1, by omega⟩
      have hs := hME M (List.mem_of_getElem? hM) d
      rw [List.getElem?_map] at hM
      cases hq : ME[mid]? with
      | none => rw [hq] at hM; cases hM
      | some q =>
        rw [hq] at hM
        simp only [Option.map_some, Option.some.injEq] at hM
        obtain ⟨M0, sm⟩ := q
        dsimp only at hM
        subst hM
        obtain ⟨y, cc, maxL, ret, mc, ms, kd, hh, tab⟩ := M0
        obtain ⟨hy, hs⟩ := hs
        have hsm := hSM _ (List.mem_of_getElem? hq)
        simp only [ab_ev2, ab_get_eq, hq] at h
        cases hb : Nat.ble (ab_csum as) maxL
        · rw [hb] at h; cases h
        · rw [hb, cond_true] at h
          have hcs := Nat.le_of_ble_eq_true hb
          split at h
          · rw [ab_entK_eq] at h
            have ihr := ih r (Nat.lt_succ_self r) d (by omega)
            split at h
            · cases h
            · rename_i os hos
              match kd, hs with
              | 0, hs => exact ab_meth0 rfl hy hs ihr hcs hos h
              | 1, hs => exact ab_meth1 hst hs.1 hy hs.2 ihr hcs hos h
              | kd + 2, hs => exact ab_meth2 rfl hy hs ihr hcs hos h
          · rename_i M1 rs
            obtain ⟨M, m1, m2, m3⟩ := ab_trK_ok h
            obtain ⟨hk, hC⟩ := hsm M m1
            have ihr := ih M.1 (by omega) d (by omega)
            match kd, hs, hk, hC with
            | 0, hs, _, hC => exact ab_meth3 rfl hy hs ihr hC hcs m3
            | 1, hs, _, hC => exact ab_meth4 hst hs.1 hy hs.2 ihr hC hcs m3
            | kd + 2, _, hk, _ => omega
