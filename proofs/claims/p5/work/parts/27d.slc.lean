/-! A run by slices. -/
noncomputable def ab_stp (tab : ab_tab) (cal : ab_K) (n : Nat) : List ab_S → List (Nat × ab_S) → Option (List ab_S × List (Nat × ab_S)) := Nat.rec (motive := fun _ => List ab_S → List (Nat × ab_S) → Option (List ab_S × List (Nat × ab_S))) (fun wk outs => some (wk, outs)) (fun _ ih wk outs => match wk with
    | [] => some ([], outs)
    | ((env, nl, aw, cl, sl), pc, lv, st) :: w => match ab_fd tab pc with
      | none => none
      | some (k, f) => match k with
        | 0 => (match f cal env nl aw cl sl lv st with
          | none => none
          | some r => ab_apK r w (fun w => ih w outs))
        | j + 1 => ih w ((Nat.succ j, ((env, nl, aw, cl, sl), pc, lv, st)) :: outs)) n
theorem ab_stp_s {tab : ab_tab} {cal : ab_K} {n : Nat} {wk : List ab_S} {outs : List (Nat × ab_S)} : ab_stp tab cal (n + 1) wk outs = (match wk with
    | [] => some ([], outs)
    | ((env, nl, aw, cl, sl), pc, lv, st) :: w => match ab_fd tab pc with
      | none => none
      | some (k, f) => match k with
        | 0 => (match f cal env nl aw cl sl lv st with
          | none => none
          | some r => ab_apK r w (fun w => ab_stp tab cal n w outs))
        | j + 1 => ab_stp tab cal n w ((Nat.succ j, ((env, nl, aw, cl, sl), pc, lv, st)) :: outs)) := rfl
theorem ab_run_mo {tab : ab_tab} {cal : ab_K} : ∀ {n : Nat} {wk : List ab_S} {outs r : List (Nat × ab_S)}, ab_run tab cal n wk outs = some r → ab_run tab cal (n + 1) wk outs = some r
  | 0, _, _, _, h => by cases h
  | n + 1, [], outs, r, h => h
  | n + 1, ((env, nl, aw, cl, sl), pc, lv, st) :: w, outs, r, h => by
    rw [ab_run_s] at h ⊢
    dsimp only at h ⊢
    split at h
    · cases h
    · split at h
      · split at h
        · cases h
        · rw [ab_apK_eq] at h ⊢
          exact ab_run_mo h
      · exact ab_run_mo h
theorem ab_run_le {tab : ab_tab} {cal : ab_K} {n k : Nat} {wk : List ab_S} {outs r : List (Nat × ab_S)} (h : ab_run tab cal n wk outs = some r) (hk : n ≤ k) : ab_run tab cal k wk outs = some r := by
  obtain ⟨d, rfl⟩ : ∃ d, k = n + d := ⟨k - n, by omega⟩
  clear hk
  induction d with
  | zero => exact h
  | succ d ih => exact ab_run_mo ih
theorem ab_run_out {tab : ab_tab} {cal : ab_K} : ∀ {n : Nat} {wk : List ab_S} {outs r : List (Nat × ab_S)}, ab_run tab cal n wk outs = some r → ∀ o2, ab_run tab cal n wk (outs ++ o2) = some (r ++ o2)
  | 0, _, _, _, h, _ => by cases h
  | n + 1, [], outs, r, h, o2 => by
    rw [ab_run_s] at h ⊢
    cases h; rfl
  | n + 1, ((env, nl, aw, cl, sl), pc, lv, st) :: w, outs, r, h, o2 => by
    rw [ab_run_s] at h ⊢
    dsimp only at h ⊢
    split at h
    · cases h
    · split at h
      · split at h
        · cases h
        · rw [ab_apK_eq] at h ⊢
          exact ab_run_out h o2
      · exact ab_run_out h o2
theorem ab_run_app {tab : ab_tab} {cal : ab_K} {n2 : Nat} {w2 : List ab_S} {os : List (Nat × ab_S)} : ∀ {n : Nat} {wk : List ab_S} {outs r : List (Nat × ab_S)}, ab_run tab cal n wk outs = some r → ab_run tab cal n2 w2 r = some os → ab_run tab cal (n + n2) (wk ++ w2) outs = some os
  | 0, _, _, _, h, _ => by cases h
  | n + 1, [], outs, r, h, h2 => by
    rw [ab_run_s] at h
    cases h
    exact ab_run_le h2 (by omega)
  | n + 1, ((env, nl, aw, cl, sl), pc, lv, st) :: w, outs, r, h, h2 => by
    rw [Nat.succ_add, List.cons_append]
    rw [ab_run_s] at h ⊢
    dsimp only at h ⊢
    split at h
    · cases h
    · split at h
      · split at h
        · cases h
        · rw [ab_apK_eq] at h ⊢
          rw [← List.append_assoc]
          exact ab_run_app h h2
      · exact ab_run_app h h2
theorem ab_stp_run {tab : ab_tab} {cal : ab_K} {n2 : Nat} {w2 : List ab_S} {o2 os : List (Nat × ab_S)} : ∀ {n : Nat} {wk : List ab_S} {outs : List (Nat × ab_S)}, ab_stp tab cal n wk outs = some (w2, o2) → ab_run tab cal n2 w2 o2 = some os → ab_run tab cal (n + n2) wk outs = some os
  | 0, wk, outs, h, h2 => by
    cases h
    rw [Nat.zero_add]; exact h2
  | n + 1, [], outs, h, h2 => by
    rw [ab_stp_s] at h
    cases h
    exact ab_run_le h2 (by omega)
  | n + 1, ((env, nl, aw, cl, sl), pc, lv, st) :: w, outs, h, h2 => by
    rw [Nat.succ_add]
    rw [ab_stp_s] at h
    rw [ab_run_s]
    dsimp only at h ⊢
    split at h
    · cases h
    · rename_i k f hf
      rw [hf]
      dsimp only
      split at h
      · dsimp only
        split at h
        · cases h
        · rename_i r hr
          rw [hr]
          dsimp only
          rw [ab_apK_eq] at h ⊢
          exact ab_stp_run h h2
      · exact ab_stp_run h h2
/-- what is asked of the ends of a run -/
abbrev ab_KK : Type := List Bool → List ab_T → Option (Int × List Int) → List ab_S → Bool
noncomputable def ab_gd (tab : ab_tab) (cal : ab_K) (n : Nat) (wk : List ab_S) (E : List (Nat × ab_S) → Bool) : Prop := ∃ os, ab_run tab cal n wk [] = some os ∧ E os = true
theorem ab_eds_app {fl : List Bool} {cuts : List ab_T} {m : Option (Int × List Int)} {ret : Option FieldType} {q : ab_Q} {mc ms : Nat} : ∀ {a b : List (Nat × ab_S)}, ab_eds fl cuts m ret q mc ms a = true → ab_eds fl cuts m ret q mc ms b = true → ab_eds fl cuts m ret q mc ms (a ++ b) = true
  | [], b, _, h => h
  | (n, S) :: r, b, h1, h2 => by
    simp only [List.cons_append, ab_eds, Bool.and_eq_true] at h1 ⊢
    exact ⟨h1.1, ab_eds_app h1.2 h2⟩
section
variable {tab : ab_tab} {cal : ab_K} {E : List (Nat × ab_S) → Bool}
theorem ab_gd.app (hE : ∀ a b, E a = true → E b = true → E (a ++ b) = true) {n1 n2 : Nat} {w1 w2 : List ab_S} (h1 : ab_gd tab cal n1 w1 E) (h2 : ab_gd tab cal n2 w2 E) : ab_gd tab cal (n1 + n2) (w1 ++ w2) E := by
  obtain ⟨o1, a1, b1⟩ := h1
  obtain ⟨o2, a2, b2⟩ := h2
  exact ⟨o2 ++ o1, ab_run_app a1 (by have := ab_run_out a2 o1; simpa using this), hE _ _ b2 b1⟩
theorem ab_gd.le {n k : Nat} {w : List ab_S} (h : ab_gd tab cal n w E) (hk : n ≤ k) : ab_gd tab cal k w E := by
  obtain ⟨o, a, b⟩ := h
  exact ⟨o, ab_run_le a hk, b⟩
theorem ab_gd.stp (hE : ∀ a b, E a = true → E b = true → E (a ++ b) = true) {k n : Nat} {wk w2 : List ab_S} {o2 : List (Nat × ab_S)} (hs : ab_stp tab cal k wk [] = some (w2, o2)) (ho : E o2 = true) (h : ab_gd tab cal n w2 E) : ab_gd tab cal (k + n) wk E := by
  obtain ⟨o, a, b⟩ := h
  exact ⟨o ++ o2, ab_stp_run hs (by have := ab_run_out a o2; simpa using this), hE _ _ b ho⟩
/-- slices that follow one another -/
noncomputable def ab_chn : Nat → List (Nat × Nat) → Option Nat
  | s, [] => some s
  | s, (lo, c) :: r => bif Nat.beq s lo then ab_chn (lo + c) r else none
theorem ab_gd.slices (hE : ∀ a b, E a = true → E b = true → E (a ++ b) = true) (h0 : E [] = true) {F : Nat} {wk : List ab_S} : ∀ {L : List (Nat × Nat)} {s N : Nat}, ab_chn s L = some N → wk.length ≤ N → (∀ q ∈ L, ab_gd tab cal F ((wk.drop q.1).take q.2) E) → ab_gd tab cal (L.length * F + 1) (wk.drop s) E
  | [], s, N, hc, hl, _ => by
    cases hc
    rw [List.drop_eq_nil_of_le hl]
    exact ⟨[], rfl, h0⟩
  | (lo, c) :: r, s, N, hc, hl, hq => by
    simp only [ab_chn] at hc
    cases hb : Nat.beq s lo
    · rw [hb] at hc; cases hc
    · rw [hb, cond_true] at hc
      have e1 := Nat.eq_of_beq_eq_true hb
      subst e1
      have ih := ab_gd.slices hE h0 (F := F) hc hl (fun q hq9 => hq q (List.mem_cons_of_mem _ hq9))
      have h1 := hq (s, c) List.mem_cons_self
      have h2 := h1.app hE ih
      have e2 : wk.drop s = (wk.drop s).take c ++ wk.drop (s + c) := by
        rw [← List.drop_drop, List.take_append_drop]
      rw [e2]
      refine h2.le ?_
      rw [List.length_cons, Nat.succ_mul]
      omega
end
noncomputable def ab_alR (tab : ab_tab) (cal : ab_K) (F : Nat) (wk : List ab_S) (E : List (Nat × ab_S) → Bool) : Bool := match ab_run tab cal F wk [] with
  | some os => E os
  | none => false
theorem ab_alR_gd {tab : ab_tab} {cal : ab_K} {F : Nat} {wk : List ab_S} {E : List (Nat × ab_S) → Bool} (h : ab_alR tab cal F wk E = true) : ab_gd tab cal F wk E := by
  unfold ab_alR at h
  split at h
  · rename_i os ho
    exact ⟨os, ho, h⟩
  · cases h
theorem ab_gd_alR {tab : ab_tab} {cal : ab_K} {F : Nat} {wk : List ab_S} {E : List (Nat × ab_S) → Bool} (h : ab_gd tab cal F wk E) : ab_alR tab cal F wk E = true := by
  obtain ⟨os, h1, h2⟩ := h
  unfold ab_alR
  rw [h1]; exact h2
/-- a template's first instruction, then K -/
noncomputable def ab_smQ (tab : ab_tab) (cal : ab_K) (m : ab_SM) (i : Nat) (K : ab_KK) : Bool := ab_anyK m.2.2.1.1 (fun fl => ab_mxsK fl m.2.2.1.1 m.2.2.2.1 (fun cuts => match ab_get cuts i with
  | some (env, nl, aw, pc, lv, _, _, m0, cs) => Nat.ble cs.length env.length && (match ab_fd tab pc with
    | some (4, f) => (match f cal env nl aw 0 0 lv [] with
      | some r => K fl cuts (some (m0, cs)) r
      | none => false)
    | _ => false)
  | none => true))
/-- the entry, then K -/
noncomputable def ab_smR (m : ab_SM) (K : ab_KK) : Bool := ab_anyK m.2.2.1.1 (fun fl => ab_mxsK fl m.2.2.1.1 m.2.2.2.1 (fun cuts => K fl cuts none [ab_smS m]))
/-- all of it; a slice; what came out ahead of the slices -/
noncomputable def kk_all (tab : ab_tab) (cal : ab_K) (F : Nat) (ret : Option FieldType) (mc ms : Nat) (q : ab_Q) : ab_KK := fun fl cuts mm r => ab_alR tab cal F r (ab_eds fl cuts mm ret q mc ms)
noncomputable def kk_sl (tab : ab_tab) (cal : ab_K) (F : Nat) (ret : Option FieldType) (mc ms : Nat) (q : ab_Q) (k lo c : Nat) : ab_KK := fun fl cuts mm r => match ab_stp tab cal k r [] with
  | some (wk, _) => ab_alR tab cal F ((wk.drop lo).take c) (ab_eds fl cuts mm ret q mc ms)
  | none => false
noncomputable def kk_hd (tab : ab_tab) (cal : ab_K) (ret : Option FieldType) (mc ms : Nat) (q : ab_Q) (k N : Nat) : ab_KK := fun fl cuts mm r => match ab_stp tab cal k r [] with
  | some (wk, os) => Nat.ble wk.length N && ab_eds fl cuts mm ret q mc ms os
  | none => false
theorem kk_of {tab : ab_tab} {cal : ab_K} {F fuel : Nat} {ret : Option FieldType} {mc ms : Nat} {q : ab_Q} {k N : Nat} {L : List (Nat × Nat)} (hc : ab_chn 0 L = some N) (hf : k + (L.length * F + 1) ≤ fuel) {fl : List Bool} {cuts : List ab_T} {mm : Option (Int × List Int)} {r : List ab_S} (h1 : kk_hd tab cal ret mc ms q k N fl cuts mm r = true) (h2 : ∀ g ∈ L, kk_sl tab cal F ret mc ms q k g.1 g.2 fl cuts mm r = true) : kk_all tab cal fuel ret mc ms q fl cuts mm r = true := by
  unfold kk_hd at h1
  split at h1
  · rename_i wk os hs
    rw [Bool.and_eq_true] at h1
    have hl := Nat.le_of_ble_eq_true h1.1
    have h3 := ab_gd.slices (tab := tab) (cal := cal) (E := ab_eds fl cuts mm ret q mc ms) (fun a b => ab_eds_app) rfl (F := F) (wk := wk) hc hl (fun g hg => by
      have := h2 g hg
      unfold kk_sl at this
      rw [hs] at this
      exact ab_alR_gd this)
    rw [List.drop_zero] at h3
    exact ab_gd_alR ((h3.stp (fun a b => ab_eds_app) hs h1.2).le hf)
  · cases h1
theorem ab_smQ_P {tab : ab_tab} {cal : ab_K} {fuel : Nat} {ret : Option FieldType} {mc ms : Nat} {m : ab_SM} {i : Nat} (h : ab_smQ tab cal m i (kk_all tab cal fuel ret mc ms m.2.2.1) = true) : ab_smP tab cal fuel ret mc ms m i = true := by
  rw [ab_smQ, ab_anyK_eq, ab_mxsK_eq] at h
  rw [ab_smP, ab_anyK_eq, ab_mxsK_eq]
  cases hg : ab_get (List.map (ab_mxT (List.map ab_any m.2.2.1.1) m.2.2.1.1) m.2.2.2.1) i with
  | none => rfl
  | some T =>
    obtain ⟨env, nl, aw, pc, lv, loc, llc, m0, cs⟩ := T
    rw [hg] at h
    dsimp only at h ⊢
    unfold ab_ckT
    exact h
theorem ab_smQ_of {tab : ab_tab} {cal : ab_K} {m : ab_SM} {i : Nat} {K : ab_KK} {Ks : List ab_KK} (hk : ∀ fl cuts mm r, (∀ K' ∈ Ks, K' fl cuts mm r = true) → K fl cuts mm r = true) (hn : Ks ≠ []) (h : ∀ K' ∈ Ks, ab_smQ tab cal m i K' = true) : ab_smQ tab cal m i K = true := by
  simp only [ab_smQ, ab_anyK_eq, ab_mxsK_eq] at h ⊢
  obtain ⟨K0, hK0⟩ := List.exists_mem_of_ne_nil Ks hn
  have h0 := h K0 hK0
  split
  · rename_i env nl aw pc lv loc llc m0 cs hg
    rw [hg] at h0
    dsimp only at h0
    rw [Bool.and_eq_true] at h0 ⊢
    refine ⟨h0.1, ?_⟩
    have h1 := h0.2
    split at h1
    · rename_i f hf
      split at h1
      · rename_i r hr
        refine hk _ _ _ _ (fun K' hK' => ?_)
        have h2 := h K' hK'
        rw [hg] at h2
        dsimp only at h2
        rw [Bool.and_eq_true, hf] at h2
        have h3 := h2.2
        simp only [hr] at h3
        exact h3
      · cases h1
    · cases h1
  · rfl
theorem ab_smR_of {m : ab_SM} {K : ab_KK} {Ks : List ab_KK} (hk : ∀ fl cuts mm r, (∀ K' ∈ Ks, K' fl cuts mm r = true) → K fl cuts mm r = true) (h : ∀ K' ∈ Ks, ab_smR m K' = true) : ab_smR m K = true := by
  simp only [ab_smR, ab_anyK_eq, ab_mxsK_eq] at h ⊢
  exact hk _ _ _ _ h
section
variable {tab : ab_tab} {cal : ab_K} {F fuel : Nat} {ret : Option FieldType} {mc ms kd : Nat} {m : ab_SM} {k N : Nat} {L : List (Nat × Nat)}
theorem kk_Ks {q : ab_Q} (hc : ab_chn 0 L = some N) (hf : k + (L.length * F + 1) ≤ fuel) : ∀ fl cuts mm r, (∀ K' ∈ kk_hd tab cal ret mc ms q k N :: L.map (fun g => kk_sl tab cal F ret mc ms q k g.1 g.2), K' fl cuts mm r = true) → kk_all tab cal fuel ret mc ms q fl cuts mm r = true := by
  intro fl cuts mm r h
  exact kk_of hc hf (h _ List.mem_cons_self) (fun g hg => h _ (List.mem_cons_of_mem _ (List.mem_map.mpr ⟨g, hg, rfl⟩)))
/-- a template by slices -/
theorem ab_tpl_sl {i : Nat} (hc : ab_chn 0 L = some N) (hf : k + (L.length * F + 1) ≤ fuel) (h1 : ab_smQ tab cal m i (kk_hd tab cal ret mc ms m.2.2.1 k N) = true) (h2 : ∀ g ∈ L, ab_smQ tab cal m i (kk_sl tab cal F ret mc ms m.2.2.1 k g.1 g.2) = true) : ab_smP tab cal fuel ret mc ms m i = true := by
  refine ab_smQ_P (ab_smQ_of (kk_Ks hc hf) (by simp) (fun K' hK' => ?_))
  rcases List.mem_cons.mp hK' with rfl | hK'
  · exact h1
  · obtain ⟨g, hg, rfl⟩ := List.mem_map.mp hK'
    exact h2 g hg
/-- the entry by slices -/
theorem ab_ent_sl (hc : ab_chn 0 L = some N) (hf : k + (L.length * F + 1) ≤ fuel) (h1 : ab_smR m (kk_hd tab cal ret mc ms m.2.2.1 k N) = true) (h2 : ∀ g ∈ L, ab_smR m (kk_sl tab cal F ret mc ms m.2.2.1 k g.1 g.2) = true) (h3 : (m.2.2.1.1.all ab_nvC && Nat.ble m.2.2.1.2.1.1 m.2.1.1.length && (ab_l0 m.2.1.2.2.2.2.1 || ab_subCs m.2.1.1 [] (ab_smH m) m.2.2.1.1) && (m.2.2.2.2 || Nat.beq kd 0)) = true) : ab_smE tab cal fuel ret mc ms kd m = true := by
  have h4 : ab_smR m (kk_all tab cal fuel ret mc ms m.2.2.1) = true := by
    refine ab_smR_of (kk_Ks hc hf) (fun K' hK' => ?_)
    rcases List.mem_cons.mp hK' with rfl | hK'
    · exact h1
    · obtain ⟨g, hg, rfl⟩ := List.mem_map.mp hK'
      exact h2 g hg
  rw [ab_smR, ab_anyK_eq, ab_mxsK_eq] at h4
  rw [ab_smE, ab_anyK_eq, ab_mxsK_eq]
  rw [Bool.and_eq_true, Bool.and_eq_true, Bool.and_eq_true] at h3
  obtain ⟨⟨⟨g1, g2⟩, g3⟩, g4⟩ := h3
  rw [Bool.and_eq_true, Bool.and_eq_true, Bool.and_eq_true, Bool.and_eq_true]
  exact ⟨⟨⟨⟨h4, g1⟩, g2⟩, g3⟩, g4⟩
end
