/-! The contexts are right. -/
set_option maxRecDepth 1000000 in
theorem ck_110_e_h : ab_smR sm_110 (kk_hd tb_X11_clear (ab_ev2 ab_ME2 1000000 2) (some .int) 0 0 sm_110.2.2.1 22 2) = true := by decide +kernel
set_option maxRecDepth 1000000 in
theorem ck_110_e_0 : ab_smR sm_110 (kk_sl tb_X11_clear (ab_ev2 ab_ME2 1000000 2) 20000 (some .int) 0 0 sm_110.2.2.1 22 0 2) = true := by decide +kernel
set_option maxRecDepth 1000000 in
theorem ck_110_e : ab_smE tb_X11_clear (ab_ev2 ab_ME2 1000000 2) 1000000 (some .int) 0 0 0 sm_110 = true := ab_ent_sl (F := 20000) (k := 22) (N := 2) (L := [(0, 2)]) (by decide +kernel) (by decide) ck_110_e_h (List.forall_mem_cons.mpr ⟨ck_110_e_0, fun _ h => nomatch h⟩) (by decide +kernel)
theorem ck_110 : ab_smC tb_X11_clear (ab_ev2 ab_ME2 1000000 2) 1000000 (some .int) 0 0 0 sm_110 = true := ab_smC_of 0 rfl ck_110_e (fun i hi => absurd hi (Nat.not_lt_zero i))
set_option maxRecDepth 1000000 in
theorem ck_111 : ab_smC tb_X11_does (ab_ev2 ab_ME2 1000000 2) 1000000 (some .int) 0 0 0 sm_111 = true := by decide +kernel
set_option maxRecDepth 1000000 in
theorem ck_112 : ab_smC tb_X11_due (ab_ev2 ab_ME2 1000000 2) 1000000 (some .int) 0 0 0 sm_112 = true := by decide +kernel
set_option maxRecDepth 1000000 in
theorem ck_113_e_h : ab_smR sm_113 (kk_hd tb_X11_freeze (ab_ev2 ab_ME2 1000000 2) (some .int) 0 0 sm_113.2.2.1 5 2) = true := by decide +kernel
set_option maxRecDepth 1000000 in
theorem ck_113_e_0 : ab_smR sm_113 (kk_sl tb_X11_freeze (ab_ev2 ab_ME2 1000000 2) 20000 (some .int) 0 0 sm_113.2.2.1 5 0 2) = true := by decide +kernel
set_option maxRecDepth 1000000 in
theorem ck_113_e : ab_smE tb_X11_freeze (ab_ev2 ab_ME2 1000000 2) 1000000 (some .int) 0 0 0 sm_113 = true := ab_ent_sl (F := 20000) (k := 5) (N := 2) (L := [(0, 2)]) (by decide +kernel) (by decide) ck_113_e_h (List.forall_mem_cons.mpr ⟨ck_113_e_0, fun _ h => nomatch h⟩) (by decide +kernel)
theorem ck_113 : ab_smC tb_X11_freeze (ab_ev2 ab_ME2 1000000 2) 1000000 (some .int) 0 0 0 sm_113 = true := ab_smC_of 0 rfl ck_113_e (fun i hi => absurd hi (Nat.not_lt_zero i))
set_option maxRecDepth 1000000 in
theorem ck_114 : ab_smC tb_X11_hasDue (ab_ev2 ab_ME2 1000000 2) 1000000 (some .boolean) 0 0 0 sm_114 = true := by decide +kernel
set_option maxRecDepth 1000000 in
theorem ck_115 : ab_smC tb_X11_leafOf (ab_ev2 ab_ME2 1000000 2) 1000000 (some .int) 0 0 0 sm_115 = true := by decide +kernel
set_option maxRecDepth 1000000 in
theorem ck_116 : ab_smC tb_X11_right (ab_ev2 ab_ME2 1000000 2) 1000000 (some .int) 0 0 0 sm_116 = true := by decide +kernel
set_option maxRecDepth 1000000 in
theorem ck_117 : ab_smC tb_X11_sorts (ab_ev2 ab_ME2 1000000 2) 1000000 (some .int) 0 0 0 sm_117 = true := by decide +kernel
set_option maxRecDepth 1000000 in
theorem ck_118 : ab_smC tb_X11_turns (ab_ev2 ab_ME2 1000000 2) 1000000 (some .int) 0 0 0 sm_118 = true := by decide +kernel
set_option maxRecDepth 1000000 in
theorem ck_119 : ab_smC tb_X11_votes (ab_ev2 ab_ME2 1000000 2) 1000000 (some .int) 0 0 0 sm_119 = true := by decide +kernel
set_option maxRecDepth 1000000 in
theorem ck_120_e : ab_smE tb_X1_keep (ab_ev2 ab_ME2 1000000 2) 1000000 (none) 0 0 0 sm_120 = true := by decide +kernel
set_option maxRecDepth 1000000 in
theorem ck_120_t0 : ab_smP tb_X1_keep (ab_ev2 ab_ME2 1000000 2) 1000000 (none) 0 0 sm_120 0 = true := by decide +kernel
set_option maxRecDepth 1000000 in
theorem ck_120_t1 : ab_smP tb_X1_keep (ab_ev2 ab_ME2 1000000 2) 1000000 (none) 0 0 sm_120 1 = true := by decide +kernel
set_option maxRecDepth 1000000 in
theorem ck_120_t2 : ab_smP tb_X1_keep (ab_ev2 ab_ME2 1000000 2) 1000000 (none) 0 0 sm_120 2 = true := by decide +kernel
set_option maxRecDepth 1000000 in
theorem ck_120_t3 : ab_smP tb_X1_keep (ab_ev2 ab_ME2 1000000 2) 1000000 (none) 0 0 sm_120 3 = true := by decide +kernel
set_option maxRecDepth 1000000 in
theorem ck_120_t4 : ab_smP tb_X1_keep (ab_ev2 ab_ME2 1000000 2) 1000000 (none) 0 0 sm_120 4 = true := by decide +kernel
set_option maxRecDepth 1000000 in
theorem ck_120_t5 : ab_smP tb_X1_keep (ab_ev2 ab_ME2 1000000 2) 1000000 (none) 0 0 sm_120 5 = true := by decide +kernel
set_option maxRecDepth 1000000 in
theorem ck_120_t6 : ab_smP tb_X1_keep (ab_ev2 ab_ME2 1000000 2) 1000000 (none) 0 0 sm_120 6 = true := by decide +kernel
set_option maxRecDepth 1000000 in
theorem ck_120_t7 : ab_smP tb_X1_keep (ab_ev2 ab_ME2 1000000 2) 1000000 (none) 0 0 sm_120 7 = true := by decide +kernel
theorem ck_120 : ab_smC tb_X1_keep (ab_ev2 ab_ME2 1000000 2) 1000000 (none) 0 0 0 sm_120 = true := ab_smC_of 8 rfl ck_120_e (fun i hi => (show ∀ j ∈ List.range 8, ab_smP tb_X1_keep (ab_ev2 ab_ME2 1000000 2) 1000000 (none) 0 0 sm_120 j = true from by
    have e : List.range 8 = [0, 1, 2, 3, 4, 5, 6, 7] := by decide
    rw [e]
    exact List.forall_mem_cons.mpr ⟨ck_120_t0, List.forall_mem_cons.mpr ⟨ck_120_t1, List.forall_mem_cons.mpr ⟨ck_120_t2, List.forall_mem_cons.mpr ⟨ck_120_t3, List.forall_mem_cons.mpr ⟨ck_120_t4, List.forall_mem_cons.mpr ⟨ck_120_t5, List.forall_mem_cons.mpr ⟨ck_120_t6, List.forall_mem_cons.mpr ⟨ck_120_t7, fun _ h => nomatch h⟩⟩⟩⟩⟩⟩⟩⟩) i (List.mem_range.mpr hi))
set_option maxRecDepth 1000000 in
theorem ck_121 : ab_smC tb_X1_takeBack (ab_ev2 ab_ME2 1000000 2) 1000000 (some .int) 0 0 0 sm_121 = true := by decide +kernel
set_option maxRecDepth 1000000 in
theorem ck_122_e_h : ab_smR sm_122 (kk_hd tb_X4_next (ab_ev2 ab_ME2 1000000 2) (none) 0 0 sm_122.2.2.1 5 2) = true := by decide +kernel
set_option maxRecDepth 1000000 in
theorem ck_122_e_0 : ab_smR sm_122 (kk_sl tb_X4_next (ab_ev2 ab_ME2 1000000 2) 20000 (none) 0 0 sm_122.2.2.1 5 0 1) = true := by decide +kernel
set_option maxRecDepth 1000000 in
theorem ck_122_e_1 : ab_smR sm_122 (kk_sl tb_X4_next (ab_ev2 ab_ME2 1000000 2) 20000 (none) 0 0 sm_122.2.2.1 5 1 1) = true := by decide +kernel
set_option maxRecDepth 1000000 in
theorem ck_122_e : ab_smE tb_X4_next (ab_ev2 ab_ME2 1000000 2) 1000000 (none) 0 0 0 sm_122 = true := ab_ent_sl (F := 20000) (k := 5) (N := 2) (L := [(0, 1), (1, 1)]) (by decide +kernel) (by decide) ck_122_e_h (List.forall_mem_cons.mpr ⟨ck_122_e_0, List.forall_mem_cons.mpr ⟨ck_122_e_1, fun _ h => nomatch h⟩⟩) (by decide +kernel)
set_option maxRecDepth 1000000 in
theorem ck_122_t0 : ab_smP tb_X4_next (ab_ev2 ab_ME2 1000000 2) 1000000 (none) 0 0 sm_122 0 = true := by decide +kernel
theorem ck_122 : ab_smC tb_X4_next (ab_ev2 ab_ME2 1000000 2) 1000000 (none) 0 0 0 sm_122 = true := ab_smC_of 1 rfl ck_122_e (fun i hi => (show ∀ j ∈ List.range 1, ab_smP tb_X4_next (ab_ev2 ab_ME2 1000000 2) 1000000 (none) 0 0 sm_122 j = true from by
    have e : List.range 1 = [0] := by decide
    rw [e]
    exact List.forall_mem_cons.mpr ⟨ck_122_t0, fun _ h => nomatch h⟩) i (List.mem_range.mpr hi))
set_option maxRecDepth 1000000 in
theorem ck_123 : ab_smC tb_X6_readAll (ab_ev2 ab_ME2 1000000 2) 1000000 (some .boolean) 0 0 0 sm_123 = true := by decide +kernel
set_option maxRecDepth 1000000 in
theorem ck_124 : ab_smC tb_X6_readAll (ab_ev2 ab_ME2 1000000 2) 1000000 (some .boolean) 0 0 0 sm_124 = true := by decide +kernel
set_option maxRecDepth 1000000 in
theorem ck_125 : ab_smC tb_X6_readAll (ab_ev2 ab_ME2 1000000 2) 1000000 (some .boolean) 0 0 0 sm_125 = true := by decide +kernel
set_option maxRecDepth 1000000 in
theorem ck_126 : ab_smC tb_X6_readAll (ab_ev2 ab_ME2 1000000 2) 1000000 (some .boolean) 0 0 0 sm_126 = true := by decide +kernel
set_option maxRecDepth 1000000 in
theorem ck_127 : ab_smC tb_X7_bendToDues (ab_ev2 ab_ME2 1000000 2) 1000000 (none) 0 0 0 sm_127 = true := by decide +kernel
set_option maxRecDepth 1000000 in
theorem ck_128 : ab_smC tb_X7_bendToDues (ab_ev2 ab_ME2 1000000 2) 1000000 (none) 0 0 0 sm_128 = true := by decide +kernel
set_option maxRecDepth 1000000 in
theorem ck_129 : ab_smC tb_X7_inBreach (ab_ev2 ab_ME2 1000000 2) 1000000 (some .boolean) 0 0 0 sm_129 = true := by decide +kernel
set_option maxRecDepth 1000000 in
theorem ck_130 : ab_smC tb_X7_inBreach (ab_ev2 ab_ME2 1000000 2) 1000000 (some .boolean) 0 0 0 sm_130 = true := by decide +kernel
set_option maxRecDepth 1000000 in
theorem ck_131 : ab_smC tb_X7_inBreach (ab_ev2 ab_ME2 1000000 2) 1000000 (some .boolean) 0 0 0 sm_131 = true := by decide +kernel
set_option maxRecDepth 1000000 in
theorem ck_132 : ab_smC tb_X7_inBreach (ab_ev2 ab_ME2 1000000 2) 1000000 (some .boolean) 0 0 0 sm_132 = true := by decide +kernel
set_option maxRecDepth 1000000 in
theorem ck_133 : ab_smC tb_X7_middleNoon (ab_ev2 ab_ME2 1000000 2) 1000000 (some .int) 0 0 0 sm_133 = true := by decide +kernel
set_option maxRecDepth 1000000 in
theorem ck_134 : ab_smC tb_X7_middleNoon (ab_ev2 ab_ME2 1000000 2) 1000000 (some .int) 0 0 0 sm_134 = true := by decide +kernel
set_option maxRecDepth 1000000 in
theorem ck_135 : ab_smC tb_X7_middleNoon (ab_ev2 ab_ME2 1000000 2) 1000000 (some .int) 0 0 0 sm_135 = true := by decide +kernel
set_option maxRecDepth 1000000 in
theorem ck_136 : ab_smC tb_X7_middleNoon (ab_ev2 ab_ME2 1000000 2) 1000000 (some .int) 0 0 0 sm_136 = true := by decide +kernel
set_option maxRecDepth 1000000 in
theorem ck_137 : ab_smC tb_X8_isTold (ab_ev2 ab_ME2 1000000 2) 1000000 (some .boolean) 0 0 0 sm_137 = true := by decide +kernel
set_option maxRecDepth 1000000 in
theorem ck_138 : ab_smC tb_X8_isTold (ab_ev2 ab_ME2 1000000 2) 1000000 (some .boolean) 0 0 0 sm_138 = true := by decide +kernel
set_option maxRecDepth 1000000 in
theorem ck_139 : ab_smC tb_X10_bend (ab_ev2 ab_ME2 1000000 3) 1000000 (some .int) 0 0 0 sm_139 = true := by decide +kernel
set_option maxRecDepth 1000000 in
theorem ck_140 : ab_smC tb_X10_clear (ab_ev2 ab_ME2 1000000 3) 1000000 (some .int) 0 0 0 sm_140 = true := by decide +kernel
set_option maxRecDepth 1000000 in
theorem ck_141 : ab_smC tb_X10_freeze (ab_ev2 ab_ME2 1000000 3) 1000000 (some .int) 0 0 0 sm_141 = true := by decide +kernel
set_option maxRecDepth 1000000 in
theorem ck_142 : ab_smC tb_X10_oneNoon (ab_ev2 ab_ME2 1000000 3) 1000000 (some .int) 1 6 1 sm_142 = true := by decide +kernel
set_option maxRecDepth 1000000 in
theorem ck_143 : ab_smC tb_X10_roomOf (ab_ev2 ab_ME2 1000000 3) 1000000 (some .int) 0 0 0 sm_143 = true := by decide +kernel
set_option maxRecDepth 1000000 in
theorem ck_144 : ab_smC tb_X10_shade (ab_ev2 ab_ME2 1000000 3) 1000000 (some .int) 0 0 0 sm_144 = true := by decide +kernel
set_option maxRecDepth 1000000 in
theorem ck_145 : ab_smC tb_X10_spare (ab_ev2 ab_ME2 1000000 3) 1000000 (some .int) 1 6 1 sm_145 = true := by decide +kernel
set_option maxRecDepth 1000000 in
theorem ck_146 : ab_smC tb_X10_town (ab_ev2 ab_ME2 1000000 3) 1000000 (some .int) 1 6 1 sm_146 = true := by decide +kernel
set_option maxRecDepth 1000000 in
theorem ck_147 : ab_smC tb_X10_train (ab_ev2 ab_ME2 1000000 3) 1000000 (some .int) 1 6 1 sm_147 = true := by decide +kernel
set_option maxRecDepth 1000000 in
theorem ck_148 : ab_smC tb_X10_undo (ab_ev2 ab_ME2 1000000 3) 1000000 (some .int) 0 0 0 sm_148 = true := by decide +kernel
set_option maxRecDepth 1000000 in
theorem ck_149 : ab_smC tb_X11_comesNearer (ab_ev2 ab_ME2 1000000 3) 1000000 (some .boolean) 0 0 0 sm_149 = true := by decide +kernel
set_option maxRecDepth 1000000 in
theorem ck_150 : ab_smC tb_X11_inBreach (ab_ev2 ab_ME2 1000000 3) 1000000 (some .boolean) 0 0 0 sm_150 = true := by decide +kernel
