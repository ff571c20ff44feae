/-! The contexts are right. -/
set_option maxRecDepth 1000000 in
theorem ck_113 : ab_smC tb_X10_restore (ab_ev2 ab_ME2 1000000 2) 1000000 (some .boolean) 0 0 0 sm_113 = true := by decide +kernel
set_option maxRecDepth 1000000 in
theorem ck_114 : ab_smC tb_X10_restore (ab_ev2 ab_ME2 1000000 2) 1000000 (some .boolean) 0 0 0 sm_114 = true := by decide +kernel
set_option maxRecDepth 1000000 in
theorem ck_115 : ab_smC tb_X10_right (ab_ev2 ab_ME2 1000000 2) 1000000 (some .int) 0 0 0 sm_115 = true := by decide +kernel
set_option maxRecDepth 1000000 in
theorem ck_116 : ab_smC tb_X10_turns (ab_ev2 ab_ME2 1000000 2) 1000000 (some .int) 0 0 0 sm_116 = true := by decide +kernel
set_option maxRecDepth 1000000 in
theorem ck_117_e_h : ab_smR sm_117 (kk_hd tb_X11_bend (ab_ev2 ab_ME2 1000000 2) (some .int) 0 0 sm_117.2.2.1 20 5) = true := by decide +kernel
set_option maxRecDepth 1000000 in
theorem ck_117_e_0 : ab_smR sm_117 (kk_sl tb_X11_bend (ab_ev2 ab_ME2 1000000 2) 20000 (some .int) 0 0 sm_117.2.2.1 20 0 1) = true := by decide +kernel
set_option maxRecDepth 1000000 in
theorem ck_117_e_1 : ab_smR sm_117 (kk_sl tb_X11_bend (ab_ev2 ab_ME2 1000000 2) 20000 (some .int) 0 0 sm_117.2.2.1 20 1 1) = true := by decide +kernel
set_option maxRecDepth 1000000 in
theorem ck_117_e_2 : ab_smR sm_117 (kk_sl tb_X11_bend (ab_ev2 ab_ME2 1000000 2) 20000 (some .int) 0 0 sm_117.2.2.1 20 2 3) = true := by decide +kernel
set_option maxRecDepth 1000000 in
theorem ck_117_e : ab_smE tb_X11_bend (ab_ev2 ab_ME2 1000000 2) 1000000 (some .int) 0 0 0 sm_117 = true := ab_ent_sl (F := 20000) (k := 20) (N := 5) (L := [(0, 1), (1, 1), (2, 3)]) (by decide +kernel) (by decide) ck_117_e_h (List.forall_mem_cons.mpr ⟨ck_117_e_0, List.forall_mem_cons.mpr ⟨ck_117_e_1, List.forall_mem_cons.mpr ⟨ck_117_e_2, fun _ h => nomatch h⟩⟩⟩) (by decide +kernel)
theorem ck_117 : ab_smC tb_X11_bend (ab_ev2 ab_ME2 1000000 2) 1000000 (some .int) 0 0 0 sm_117 = true := ab_smC_of 0 rfl ck_117_e (fun i hi => absurd hi (Nat.not_lt_zero i))
set_option maxRecDepth 1000000 in
theorem ck_118_e_h : ab_smR sm_118 (kk_hd tb_X11_clear (ab_ev2 ab_ME2 1000000 2) (some .int) 0 0 sm_118.2.2.1 22 2) = true := by decide +kernel
set_option maxRecDepth 1000000 in
theorem ck_118_e_0 : ab_smR sm_118 (kk_sl tb_X11_clear (ab_ev2 ab_ME2 1000000 2) 20000 (some .int) 0 0 sm_118.2.2.1 22 0 2) = true := by decide +kernel
set_option maxRecDepth 1000000 in
theorem ck_118_e : ab_smE tb_X11_clear (ab_ev2 ab_ME2 1000000 2) 1000000 (some .int) 0 0 0 sm_118 = true := ab_ent_sl (F := 20000) (k := 22) (N := 2) (L := [(0, 2)]) (by decide +kernel) (by decide) ck_118_e_h (List.forall_mem_cons.mpr ⟨ck_118_e_0, fun _ h => nomatch h⟩) (by decide +kernel)
theorem ck_118 : ab_smC tb_X11_clear (ab_ev2 ab_ME2 1000000 2) 1000000 (some .int) 0 0 0 sm_118 = true := ab_smC_of 0 rfl ck_118_e (fun i hi => absurd hi (Nat.not_lt_zero i))
set_option maxRecDepth 1000000 in
theorem ck_119 : ab_smC tb_X11_does (ab_ev2 ab_ME2 1000000 2) 1000000 (some .int) 0 0 0 sm_119 = true := by decide +kernel
set_option maxRecDepth 1000000 in
theorem ck_120 : ab_smC tb_X11_due (ab_ev2 ab_ME2 1000000 2) 1000000 (some .int) 0 0 0 sm_120 = true := by decide +kernel
set_option maxRecDepth 1000000 in
theorem ck_121_e_h : ab_smR sm_121 (kk_hd tb_X11_freeze (ab_ev2 ab_ME2 1000000 2) (some .int) 0 0 sm_121.2.2.1 5 2) = true := by decide +kernel
set_option maxRecDepth 1000000 in
theorem ck_121_e_0 : ab_smR sm_121 (kk_sl tb_X11_freeze (ab_ev2 ab_ME2 1000000 2) 20000 (some .int) 0 0 sm_121.2.2.1 5 0 2) = true := by decide +kernel
set_option maxRecDepth 1000000 in
theorem ck_121_e : ab_smE tb_X11_freeze (ab_ev2 ab_ME2 1000000 2) 1000000 (some .int) 0 0 0 sm_121 = true := ab_ent_sl (F := 20000) (k := 5) (N := 2) (L := [(0, 2)]) (by decide +kernel) (by decide) ck_121_e_h (List.forall_mem_cons.mpr ⟨ck_121_e_0, fun _ h => nomatch h⟩) (by decide +kernel)
theorem ck_121 : ab_smC tb_X11_freeze (ab_ev2 ab_ME2 1000000 2) 1000000 (some .int) 0 0 0 sm_121 = true := ab_smC_of 0 rfl ck_121_e (fun i hi => absurd hi (Nat.not_lt_zero i))
set_option maxRecDepth 1000000 in
theorem ck_122 : ab_smC tb_X11_hasDue (ab_ev2 ab_ME2 1000000 2) 1000000 (some .boolean) 0 0 0 sm_122 = true := by decide +kernel
set_option maxRecDepth 1000000 in
theorem ck_123 : ab_smC tb_X11_leafOf (ab_ev2 ab_ME2 1000000 2) 1000000 (some .int) 0 0 0 sm_123 = true := by decide +kernel
set_option maxRecDepth 1000000 in
theorem ck_124 : ab_smC tb_X11_right (ab_ev2 ab_ME2 1000000 2) 1000000 (some .int) 0 0 0 sm_124 = true := by decide +kernel
set_option maxRecDepth 1000000 in
theorem ck_125 : ab_smC tb_X11_sorts (ab_ev2 ab_ME2 1000000 2) 1000000 (some .int) 0 0 0 sm_125 = true := by decide +kernel
set_option maxRecDepth 1000000 in
theorem ck_126 : ab_smC tb_X11_turns (ab_ev2 ab_ME2 1000000 2) 1000000 (some .int) 0 0 0 sm_126 = true := by decide +kernel
set_option maxRecDepth 1000000 in
theorem ck_127 : ab_smC tb_X11_votes (ab_ev2 ab_ME2 1000000 2) 1000000 (some .int) 0 0 0 sm_127 = true := by decide +kernel
set_option maxRecDepth 1000000 in
theorem ck_128_e : ab_smE tb_X1_keep (ab_ev2 ab_ME2 1000000 2) 1000000 (none) 0 0 0 sm_128 = true := by decide +kernel
set_option maxRecDepth 1000000 in
theorem ck_128_t0 : ab_smP tb_X1_keep (ab_ev2 ab_ME2 1000000 2) 1000000 (none) 0 0 sm_128 0 = true := by decide +kernel
set_option maxRecDepth 1000000 in
theorem ck_128_t1 : ab_smP tb_X1_keep (ab_ev2 ab_ME2 1000000 2) 1000000 (none) 0 0 sm_128 1 = true := by decide +kernel
set_option maxRecDepth 1000000 in
theorem ck_128_t2 : ab_smP tb_X1_keep (ab_ev2 ab_ME2 1000000 2) 1000000 (none) 0 0 sm_128 2 = true := by decide +kernel
set_option maxRecDepth 1000000 in
theorem ck_128_t3 : ab_smP tb_X1_keep (ab_ev2 ab_ME2 1000000 2) 1000000 (none) 0 0 sm_128 3 = true := by decide +kernel
set_option maxRecDepth 1000000 in
theorem ck_128_t4 : ab_smP tb_X1_keep (ab_ev2 ab_ME2 1000000 2) 1000000 (none) 0 0 sm_128 4 = true := by decide +kernel
set_option maxRecDepth 1000000 in
theorem ck_128_t5 : ab_smP tb_X1_keep (ab_ev2 ab_ME2 1000000 2) 1000000 (none) 0 0 sm_128 5 = true := by decide +kernel
set_option maxRecDepth 1000000 in
theorem ck_128_t6 : ab_smP tb_X1_keep (ab_ev2 ab_ME2 1000000 2) 1000000 (none) 0 0 sm_128 6 = true := by decide +kernel
set_option maxRecDepth 1000000 in
theorem ck_128_t7 : ab_smP tb_X1_keep (ab_ev2 ab_ME2 1000000 2) 1000000 (none) 0 0 sm_128 7 = true := by decide +kernel
theorem ck_128 : ab_smC tb_X1_keep (ab_ev2 ab_ME2 1000000 2) 1000000 (none) 0 0 0 sm_128 = true := ab_smC_of 8 rfl ck_128_e (fun i hi => (show ∀ j ∈ List.range 8, ab_smP tb_X1_keep (ab_ev2 ab_ME2 1000000 2) 1000000 (none) 0 0 sm_128 j = true from by
    have e : List.range 8 = [0, 1, 2, 3, 4, 5, 6, 7] := by decide
    rw [e]
    exact List.forall_mem_cons.mpr ⟨ck_128_t0, List.forall_mem_cons.mpr ⟨ck_128_t1, List.forall_mem_cons.mpr ⟨ck_128_t2, List.forall_mem_cons.mpr ⟨ck_128_t3, List.forall_mem_cons.mpr ⟨ck_128_t4, List.forall_mem_cons.mpr ⟨ck_128_t5, List.forall_mem_cons.mpr ⟨ck_128_t6, List.forall_mem_cons.mpr ⟨ck_128_t7, fun _ h => nomatch h⟩⟩⟩⟩⟩⟩⟩⟩) i (List.mem_range.mpr hi))
set_option maxRecDepth 1000000 in
theorem ck_129 : ab_smC tb_X1_takeBack (ab_ev2 ab_ME2 1000000 2) 1000000 (some .int) 0 0 0 sm_129 = true := by decide +kernel
set_option maxRecDepth 1000000 in
theorem ck_130_e_h : ab_smR sm_130 (kk_hd tb_X4_next (ab_ev2 ab_ME2 1000000 2) (none) 0 0 sm_130.2.2.1 5 2) = true := by decide +kernel
set_option maxRecDepth 1000000 in
theorem ck_130_e_0 : ab_smR sm_130 (kk_sl tb_X4_next (ab_ev2 ab_ME2 1000000 2) 20000 (none) 0 0 sm_130.2.2.1 5 0 1) = true := by decide +kernel
set_option maxRecDepth 1000000 in
theorem ck_130_e_1 : ab_smR sm_130 (kk_sl tb_X4_next (ab_ev2 ab_ME2 1000000 2) 20000 (none) 0 0 sm_130.2.2.1 5 1 1) = true := by decide +kernel
set_option maxRecDepth 1000000 in
theorem ck_130_e : ab_smE tb_X4_next (ab_ev2 ab_ME2 1000000 2) 1000000 (none) 0 0 0 sm_130 = true := ab_ent_sl (F := 20000) (k := 5) (N := 2) (L := [(0, 1), (1, 1)]) (by decide +kernel) (by decide) ck_130_e_h (List.forall_mem_cons.mpr ⟨ck_130_e_0, List.forall_mem_cons.mpr ⟨ck_130_e_1, fun _ h => nomatch h⟩⟩) (by decide +kernel)
