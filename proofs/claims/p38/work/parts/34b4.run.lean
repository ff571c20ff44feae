/-! The law: its runs. -/
set_option maxRecDepth 1000000 in
theorem lh_0 : ab_lhd 6 42 = true := by decide +kernel
set_option maxRecDepth 1000000 in
theorem ls_0 : ab_lsl 6 20000 0 7 = true := by decide +kernel
set_option maxRecDepth 1000000 in
theorem ls_1 : ab_lsl 6 20000 7 7 = true := by decide +kernel
set_option maxRecDepth 1000000 in
theorem ls_2 : ab_lsl 6 20000 14 7 = true := by decide +kernel
set_option maxRecDepth 1000000 in
theorem ls_3 : ab_lsl 6 20000 21 7 = true := by decide +kernel
set_option maxRecDepth 1000000 in
theorem ls_4 : ab_lsl 6 20000 28 7 = true := by decide +kernel
set_option maxRecDepth 1000000 in
theorem ls_5 : ab_lsl 6 20000 35 7 = true := by decide +kernel
theorem ab_lwE_app : ∀ a b, ab_lwE a = true → ab_lwE b = true → ab_lwE (a ++ b) = true := fun a b h1 h2 => by
  unfold ab_lwE at h1 h2 ⊢
  rw [List.all_append, h1, h2]; rfl
theorem lw_gd : ab_gd (tb_LC 2 12) lw_cal (6 + (6 * 20000 + 1)) [ab_l33] ab_lwE := by
  have h1 := lh_0
  unfold ab_lhd at h1
  split at h1
  · rename_i wk os hs
    rw [Bool.and_eq_true] at h1
    have h2 : ∀ q ∈ ([(0, 7), (7, 7), (14, 7), (21, 7), (28, 7), (35, 7)] : List (Nat × Nat)), ab_lsl 6 20000 q.1 q.2 = true := List.forall_mem_cons.mpr ⟨ls_0, List.forall_mem_cons.mpr ⟨ls_1, List.forall_mem_cons.mpr ⟨ls_2, List.forall_mem_cons.mpr ⟨ls_3, List.forall_mem_cons.mpr ⟨ls_4, List.forall_mem_cons.mpr ⟨ls_5, fun _ h => nomatch h⟩⟩⟩⟩⟩⟩
    have h3 := ab_gd.slices (tab := tb_LC 2 12) (cal := lw_cal) (E := ab_lwE) ab_lwE_app rfl (F := 20000) (wk := wk) (L := [(0, 7), (7, 7), (14, 7), (21, 7), (28, 7), (35, 7)]) (s := 0) (N := 42) (by decide +kernel) (Nat.le_of_ble_eq_true h1.1) (fun g hg => by
      have h4 := h2 g hg
      unfold ab_lsl at h4
      rw [hs] at h4
      exact ab_alR_gd h4)
    rw [List.drop_zero] at h3
    exact h3.stp ab_lwE_app hs h1.2
  · cases h1
set_option maxRecDepth 1000000 in
theorem fr_0 : ab_alR (tb_LA 601024 7293034) lw_cal 1000 [ab_f0] (fun L => L.all ab_f1e) = true := by decide +kernel
