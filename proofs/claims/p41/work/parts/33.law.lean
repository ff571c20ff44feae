/-! The law: its loop; both constructors. -/
noncomputable def ab_FX : List ab_Y := [(2, [(none, 23), (none, 25), (none, 0), (none, 0), (none, 1), (none, 19), (none, 0), (none, 40), (none, 6)]), (2, [(none, 22), (none, 24), (none, 0), (none, 0), (none, 1), (none, 19), (none, 0), (none, 40), (none, 6)]), (2, [(none, 122), (none, 124), (none, 0), (none, 0), (none, 1), (none, 19), (none, 0), (none, 40), (none, 6)]), (2, [(none, 144), (none, 146), (none, 0), (none, 0), (none, 1), (none, 19), (none, 0), (none, 40), (none, 6)]), (4, [(none, 1), (none, 1), (none, 124), (none, 0), (none, 0)]), (4, [(none, 7), (none, 7), (none, 124), (none, 0), (none, 0)]), (4, [(none, 7), (none, 7), (none, 429), (none, 0), (none, 0)]), (0, [(none, 1), (some 1, 0), (none, (-1)), (some 2, 0), (none, 0)]), (0, [(none, (-1)), (some 1, 0), (none, 1), (some 2, 0), (none, 0)]), (0, [(none, 1), (some 3, 0), (none, (-1)), (some 4, 0), (none, 0)]), (0, [(none, (-1)), (some 3, 0), (none, 1), (some 4, 0), (none, 0)])]
noncomputable def ab_lvT : List (Nat × ab_V) := [(0, .inr (.inr (1, 0))), (1, .inr (.inr (2, 10))), (2, .inr (.inr (2, 0))), (3, .inr (.inr (2, 166))), (4, .inl (some 0, 0))]
noncomputable def ab_lT : ab_T := ([(0, 3072), (0, 1), (0, 1), (0, 1), (0, 1)], 0, (gl_L, ab_FX), 23, ab_lvT, [(0, 4, 0), (1, 103, 3), (2, 165, 0), (1, 125, 3), (2, 165, 1)], [], 0, [])
noncomputable def lw_n : Nat := 5
noncomputable def ab_l33 : ab_S := (([(0, 3066), (0, 1), (0, 1), (0, 1), (0, 1), ((-2147483648), 2147483647), ((-2147483648), 2147483647), ((-2147483648), 2147483647), ((-2147483648), 2147483647), ((-2147483648), 2147483647), ((-2147483648), 2147483647)], 0, (gl_L, ab_FX), 0, 0), 33, ab_lvT, [])
noncomputable def lw_cal : ab_K := ab_ev2 ab_ME2 1000000 32
noncomputable def ab_l6 (sg : List ab_I) : Bool := match sg with
  | (some 0, c) :: _ => ab_ie c 6
  | _ => false
noncomputable def ab_lw1 (q : Nat × ab_S) : Bool := match q with
  | (4, ((env, nl, aw, cl, sl), pc, lv, st)) => Nat.ble cl 2 && Nat.ble sl 12 && ab_subS ((env, nl, aw, 0, 0), pc, lv, st) ab_lT ab_l6
  | _ => false
noncomputable def ab_lwE (L : List (Nat × ab_S)) : Bool := L.all ab_lw1
noncomputable def ab_lsl (k F lo c : Nat) : Bool := match ab_stp (tb_LB 2 12) lw_cal k [ab_l33] [] with
  | some (wk, _) => ab_alR (tb_LB 2 12) lw_cal F ((wk.drop lo).take c) ab_lwE
  | none => false
noncomputable def ab_lhd (k N : Nat) : Bool := match ab_stp (tb_LB 2 12) lw_cal k [ab_l33] [] with
  | some (wk, os) => Nat.ble wk.length N && ab_lwE os
  | none => false
set_option maxRecDepth 1000000 in
theorem lh_0 : ab_lhd 6 42 = true := by decide +kernel
set_option maxRecDepth 1000000 in
theorem ls_0 : ab_lsl 6 20000 0 7 = true := by decide +kernel
set_option maxRecDepth 1000000 in
theorem ls_1 : ab_lsl 6 20000 7 7 = true := by decide +kernel
set_option maxRecDepth 1000000 in
theorem ls_2 : ab_lsl 6 20000 14 7 = true := by decide +kernel
set_option maxRecDepth 1000000 in
theorem ls_3 : ab_lsl 6 20000 21 7 = true := by decide +kernel
set_option maxRecDepth 1000000 in
theorem ls_4 : ab_lsl 6 20000 28 7 = true := by decide +kernel
set_option maxRecDepth 1000000 in
theorem ls_5 : ab_lsl 6 20000 35 7 = true := by decide +kernel
theorem ab_lwE_app : ∀ a b, ab_lwE a = true → ab_lwE b = true → ab_lwE (a ++ b) = true := fun a b h1 h2 => by
  unfold ab_lwE at h1 h2 ⊢
  rw [List.all_append, h1, h2]; rfl
theorem lw_gd : ab_gd (tb_LB 2 12) lw_cal (6 + (6 * 20000 + 1)) [ab_l33] ab_lwE := by
  have h1 := lh_0
  unfold ab_lhd at h1
  split at h1
  · rename_i wk os hs
    rw [Bool.and_eq_true] at h1
    have h2 : ∀ q ∈ ([(0, 7), (7, 7), (14, 7), (21, 7), (28, 7), (35, 7)] : List (Nat × Nat)), ab_lsl 6 20000 q.1 q.2 = true := List.forall_mem_cons.mpr ⟨ls_0, List.forall_mem_cons.mpr ⟨ls_1, List.forall_mem_cons.mpr ⟨ls_2, List.forall_mem_cons.mpr ⟨ls_3, List.forall_mem_cons.mpr ⟨ls_4, List.forall_mem_cons.mpr ⟨ls_5, fun _ h => nomatch h⟩⟩⟩⟩⟩⟩
    have h3 := ab_gd.slices (tab := tb_LB 2 12) (cal := lw_cal) (E := ab_lwE) ab_lwE_app rfl (F := 20000) (wk := wk) (L := [(0, 7), (7, 7), (14, 7), (21, 7), (28, 7), (35, 7)]) (s := 0) (N := 42) (by decide +kernel) (Nat.le_of_ble_eq_true h1.1) (fun g hg => by
      have h4 := h2 g hg
      unfold ab_lsl at h4
      rw [hs] at h4
      exact ab_alR_gd h4)
    rw [List.drop_zero] at h3
    exact h3.stp ab_lwE_app hs h1.2
  · cases h1
noncomputable def ab_pm : List Nat := [142, 144, 145, 1, 143, 149, 146, 163, 80, 76, 0, 20, 6, 34, 38, 42, 84, 2, 35, 39, 88, 91, 81, 77, 83, 79, 82, 78, 118, 95, 8, 22, 15, 29, 19, 33, 17, 31, 3, 4, 5, 7, 9, 10, 11, 12, 13, 14, 16, 18, 21, 23, 24, 25, 26, 27, 28, 30, 32, 36, 37, 40, 41, 43, 44, 45, 46, 47, 48, 49, 50, 51, 52, 53, 54, 55, 56, 57, 58, 59, 60, 61, 62, 63, 64, 65, 66, 67, 68, 69, 70, 71, 72, 73, 74, 75, 85, 86, 87, 89, 90, 92, 93, 94, 96, 97, 98, 99, 100, 101, 102, 103, 104, 105, 106, 107, 108, 109, 110, 111, 112, 113, 114, 115, 116, 117, 119, 120, 121, 122, 123, 124, 125, 126, 127, 128, 129, 130, 131, 132, 133, 134, 135, 136, 137, 138, 139, 140, 141, 147, 148, 150, 151, 152, 153, 154, 155, 156, 157, 158, 159, 160, 161, 162, 164, 165, 166]
noncomputable def ab_nw : List Nat := [10, 3, 17, 38, 39, 40, 12, 41, 30, 42, 43, 44, 45, 46, 47, 32, 48, 36, 49, 34, 11, 50, 31, 51, 52, 53, 54, 55, 56, 33, 57, 37, 58, 35, 13, 18, 59, 60, 14, 19, 61, 62, 15, 63, 64, 65, 66, 67, 68, 69, 70, 71, 72, 73, 74, 75, 76, 77, 78, 79, 80, 81, 82, 83, 84, 85, 86, 87, 88, 89, 90, 91, 92, 93, 94, 95, 9, 23, 27, 25, 8, 22, 26, 24, 16, 96, 97, 98, 20, 99, 100, 21, 101, 102, 103, 29, 104, 105, 106, 107, 108, 109, 110, 111, 112, 113, 114, 115, 116, 117, 118, 119, 120, 121, 122, 123, 124, 125, 28, 126, 127, 128, 129, 130, 131, 132, 133, 134, 135, 136, 137, 138, 139, 140, 141, 142, 143, 144, 145, 146, 147, 148, 0, 4, 1, 2, 6, 149, 150, 5, 151, 152, 153, 154, 155, 156, 157, 158, 159, 160, 161, 162, 163, 7, 164, 165, 166]
noncomputable def ab_f0 : ab_S := (([], 0, ([], []), 0, 0), 0, [(0, .inr (.inr (1, 0)))], [])
noncomputable def ab_f1e (q : Nat × ab_S) : Bool := match q with
  | (4, ((_, _, aw, cl, sl), pc, lv, st)) => Nat.beq pc 23 && (match st with
    | [] => true
    | _ => false) && Nat.ble cl 167 && Nat.ble sl 5221 && ab_pmVs ab_pm lv ab_lvT && ab_FX.all (ab_zf 4 ab_pm aw.1) && ab_pmL 4 ab_pm ab_nw aw.1 0 gl_L
  | _ => false
set_option maxRecDepth 1000000 in
theorem fr_0 : ab_alR (tb_LA 601024 7293034) lw_cal 1000 [ab_f0] (fun L => L.all ab_f1e) = true := by decide +kernel
