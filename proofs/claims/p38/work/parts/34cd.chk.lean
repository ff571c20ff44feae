/-! The contexts are right. -/
set_option maxRecDepth 1000000 in
theorem ck_130_t0 : ab_smP tb_X4_next (ab_ev2 ab_ME2 1000000 2) 1000000 (none) 0 0 sm_130 0 = true := by decide +kernel
theorem ck_130 : ab_smC tb_X4_next (ab_ev2 ab_ME2 1000000 2) 1000000 (none) 0 0 0 sm_130 = true := ab_smC_of 1 rfl ck_130_e (fun i hi => (show ∀ j ∈ List.range 1, ab_smP tb_X4_next (ab_ev2 ab_ME2 1000000 2) 1000000 (none) 0 0 sm_130 j = true from by
    have e : List.range 1 = [0] := by decide
    rw [e]
    exact List.forall_mem_cons.mpr ⟨ck_130_t0, fun _ h => nomatch h⟩) i (List.mem_range.mpr hi))
set_option maxRecDepth 1000000 in
theorem ck_131 : ab_smC tb_X6_readAll (ab_ev2 ab_ME2 1000000 2) 1000000 (some .boolean) 0 0 0 sm_131 = true := by decide +kernel
set_option maxRecDepth 1000000 in
theorem ck_132 : ab_smC tb_X6_readAll (ab_ev2 ab_ME2 1000000 2) 1000000 (some .boolean) 0 0 0 sm_132 = true := by decide +kernel
set_option maxRecDepth 1000000 in
theorem ck_133 : ab_smC tb_X6_readAll (ab_ev2 ab_ME2 1000000 2) 1000000 (some .boolean) 0 0 0 sm_133 = true := by decide +kernel
set_option maxRecDepth 1000000 in
theorem ck_134 : ab_smC tb_X6_readAll (ab_ev2 ab_ME2 1000000 2) 1000000 (some .boolean) 0 0 0 sm_134 = true := by decide +kernel
set_option maxRecDepth 1000000 in
theorem ck_135 : ab_smC tb_X7_bendToDues (ab_ev2 ab_ME2 1000000 2) 1000000 (none) 0 0 0 sm_135 = true := by decide +kernel
set_option maxRecDepth 1000000 in
theorem ck_136 : ab_smC tb_X7_bendToDues (ab_ev2 ab_ME2 1000000 2) 1000000 (none) 0 0 0 sm_136 = true := by decide +kernel
set_option maxRecDepth 1000000 in
theorem ck_137 : ab_smC tb_X7_inBreach (ab_ev2 ab_ME2 1000000 2) 1000000 (some .boolean) 0 0 0 sm_137 = true := by decide +kernel
set_option maxRecDepth 1000000 in
theorem ck_138 : ab_smC tb_X7_inBreach (ab_ev2 ab_ME2 1000000 2) 1000000 (some .boolean) 0 0 0 sm_138 = true := by decide +kernel
set_option maxRecDepth 1000000 in
theorem ck_139 : ab_smC tb_X7_inBreach (ab_ev2 ab_ME2 1000000 2) 1000000 (some .boolean) 0 0 0 sm_139 = true := by decide +kernel
set_option maxRecDepth 1000000 in
theorem ck_140 : ab_smC tb_X7_inBreach (ab_ev2 ab_ME2 1000000 2) 1000000 (some .boolean) 0 0 0 sm_140 = true := by decide +kernel
set_option maxRecDepth 1000000 in
theorem ck_141 : ab_smC tb_X7_middleNoon (ab_ev2 ab_ME2 1000000 2) 1000000 (some .int) 0 0 0 sm_141 = true := by decide +kernel
set_option maxRecDepth 1000000 in
theorem ck_142 : ab_smC tb_X7_middleNoon (ab_ev2 ab_ME2 1000000 2) 1000000 (some .int) 0 0 0 sm_142 = true := by decide +kernel
set_option maxRecDepth 1000000 in
theorem ck_143 : ab_smC tb_X7_middleNoon (ab_ev2 ab_ME2 1000000 2) 1000000 (some .int) 0 0 0 sm_143 = true := by decide +kernel
set_option maxRecDepth 1000000 in
theorem ck_144 : ab_smC tb_X7_middleNoon (ab_ev2 ab_ME2 1000000 2) 1000000 (some .int) 0 0 0 sm_144 = true := by decide +kernel
set_option maxRecDepth 1000000 in
theorem ck_145 : ab_smC tb_X8_isTold (ab_ev2 ab_ME2 1000000 2) 1000000 (some .boolean) 0 0 0 sm_145 = true := by decide +kernel
set_option maxRecDepth 1000000 in
theorem ck_146 : ab_smC tb_X8_isTold (ab_ev2 ab_ME2 1000000 2) 1000000 (some .boolean) 0 0 0 sm_146 = true := by decide +kernel
set_option maxRecDepth 1000000 in
theorem ck_147 : ab_smC tb_X10_bend (ab_ev2 ab_ME2 1000000 3) 1000000 (some .int) 0 0 0 sm_147 = true := by decide +kernel
set_option maxRecDepth 1000000 in
theorem ck_148 : ab_smC tb_X10_clear (ab_ev2 ab_ME2 1000000 3) 1000000 (some .int) 0 0 0 sm_148 = true := by decide +kernel
set_option maxRecDepth 1000000 in
theorem ck_149 : ab_smC tb_X10_freeze (ab_ev2 ab_ME2 1000000 3) 1000000 (some .int) 0 0 0 sm_149 = true := by decide +kernel
set_option maxRecDepth 1000000 in
theorem ck_150 : ab_smC tb_X10_oneNoon (ab_ev2 ab_ME2 1000000 3) 1000000 (some .int) 1 6 1 sm_150 = true := by decide +kernel
set_option maxRecDepth 1000000 in
theorem ck_151 : ab_smC tb_X10_roomOf (ab_ev2 ab_ME2 1000000 3) 1000000 (some .int) 0 0 0 sm_151 = true := by decide +kernel
set_option maxRecDepth 1000000 in
theorem ck_152 : ab_smC tb_X10_shade (ab_ev2 ab_ME2 1000000 3) 1000000 (some .int) 0 0 0 sm_152 = true := by decide +kernel
set_option maxRecDepth 1000000 in
theorem ck_153 : ab_smC tb_X10_spare (ab_ev2 ab_ME2 1000000 3) 1000000 (some .int) 1 6 1 sm_153 = true := by decide +kernel
set_option maxRecDepth 1000000 in
theorem ck_154 : ab_smC tb_X10_town (ab_ev2 ab_ME2 1000000 3) 1000000 (some .int) 1 6 1 sm_154 = true := by decide +kernel
set_option maxRecDepth 1000000 in
theorem ck_155 : ab_smC tb_X10_train (ab_ev2 ab_ME2 1000000 3) 1000000 (some .int) 1 6 1 sm_155 = true := by decide +kernel
set_option maxRecDepth 1000000 in
theorem ck_156 : ab_smC tb_X10_undo (ab_ev2 ab_ME2 1000000 3) 1000000 (some .int) 0 0 0 sm_156 = true := by decide +kernel
set_option maxRecDepth 1000000 in
theorem ck_157 : ab_smC tb_X11_comesNearer (ab_ev2 ab_ME2 1000000 3) 1000000 (some .boolean) 0 0 0 sm_157 = true := by decide +kernel
set_option maxRecDepth 1000000 in
theorem ck_158 : ab_smC tb_X11_inBreach (ab_ev2 ab_ME2 1000000 3) 1000000 (some .boolean) 0 0 0 sm_158 = true := by decide +kernel
set_option maxRecDepth 1000000 in
theorem ck_159 : ab_smC tb_X11_motto (ab_ev2 ab_ME2 1000000 3) 1000000 (some .int) 0 0 0 sm_159 = true := by decide +kernel
set_option maxRecDepth 1000000 in
theorem ck_160 : ab_smC tb_X11_noonLong (ab_ev2 ab_ME2 1000000 3) 1000000 (some .int) 0 0 0 sm_160 = true := by decide +kernel
set_option maxRecDepth 1000000 in
theorem ck_161 : ab_smC tb_X11_oneNoon (ab_ev2 ab_ME2 1000000 3) 1000000 (some .int) 0 0 0 sm_161 = true := by decide +kernel
set_option maxRecDepth 1000000 in
theorem ck_162 : ab_smC tb_X11_roomOf (ab_ev2 ab_ME2 1000000 3) 1000000 (some .int) 0 0 0 sm_162 = true := by decide +kernel
set_option maxRecDepth 1000000 in
theorem ck_163_e : ab_smE tb_X11_route (ab_ev2 ab_ME2 1000000 3) 1000000 (some .int) 0 0 0 sm_163 = true := by decide +kernel
set_option maxRecDepth 1000000 in
theorem ck_163_t0 : ab_smP tb_X11_route (ab_ev2 ab_ME2 1000000 3) 1000000 (some .int) 0 0 sm_163 0 = true := by decide +kernel
set_option maxRecDepth 1000000 in
theorem ck_163_t1 : ab_smP tb_X11_route (ab_ev2 ab_ME2 1000000 3) 1000000 (some .int) 0 0 sm_163 1 = true := by decide +kernel
set_option maxRecDepth 1000000 in
theorem ck_163_t2 : ab_smP tb_X11_route (ab_ev2 ab_ME2 1000000 3) 1000000 (some .int) 0 0 sm_163 2 = true := by decide +kernel
set_option maxRecDepth 1000000 in
theorem ck_163_t3 : ab_smP tb_X11_route (ab_ev2 ab_ME2 1000000 3) 1000000 (some .int) 0 0 sm_163 3 = true := by decide +kernel
set_option maxRecDepth 1000000 in
theorem ck_163_t4 : ab_smP tb_X11_route (ab_ev2 ab_ME2 1000000 3) 1000000 (some .int) 0 0 sm_163 4 = true := by decide +kernel
set_option maxRecDepth 1000000 in
theorem ck_163_t5 : ab_smP tb_X11_route (ab_ev2 ab_ME2 1000000 3) 1000000 (some .int) 0 0 sm_163 5 = true := by decide +kernel
set_option maxRecDepth 1000000 in
theorem ck_163_t6 : ab_smP tb_X11_route (ab_ev2 ab_ME2 1000000 3) 1000000 (some .int) 0 0 sm_163 6 = true := by decide +kernel
set_option maxRecDepth 1000000 in
theorem ck_163_t7 : ab_smP tb_X11_route (ab_ev2 ab_ME2 1000000 3) 1000000 (some .int) 0 0 sm_163 7 = true := by decide +kernel
set_option maxRecDepth 1000000 in
theorem ck_163_t8 : ab_smP tb_X11_route (ab_ev2 ab_ME2 1000000 3) 1000000 (some .int) 0 0 sm_163 8 = true := by decide +kernel
set_option maxRecDepth 1000000 in
theorem ck_163_t9 : ab_smP tb_X11_route (ab_ev2 ab_ME2 1000000 3) 1000000 (some .int) 0 0 sm_163 9 = true := by decide +kernel
set_option maxRecDepth 1000000 in
theorem ck_163_t10 : ab_smP tb_X11_route (ab_ev2 ab_ME2 1000000 3) 1000000 (some .int) 0 0 sm_163 10 = true := by decide +kernel
set_option maxRecDepth 1000000 in
theorem ck_163_t11 : ab_smP tb_X11_route (ab_ev2 ab_ME2 1000000 3) 1000000 (some .int) 0 0 sm_163 11 = true := by decide +kernel
set_option maxRecDepth 1000000 in
theorem ck_163_t12 : ab_smP tb_X11_route (ab_ev2 ab_ME2 1000000 3) 1000000 (some .int) 0 0 sm_163 12 = true := by decide +kernel
set_option maxRecDepth 1000000 in
theorem ck_163_t13 : ab_smP tb_X11_route (ab_ev2 ab_ME2 1000000 3) 1000000 (some .int) 0 0 sm_163 13 = true := by decide +kernel
set_option maxRecDepth 1000000 in
theorem ck_163_t14 : ab_smP tb_X11_route (ab_ev2 ab_ME2 1000000 3) 1000000 (some .int) 0 0 sm_163 14 = true := by decide +kernel
set_option maxRecDepth 1000000 in
theorem ck_163_t15 : ab_smP tb_X11_route (ab_ev2 ab_ME2 1000000 3) 1000000 (some .int) 0 0 sm_163 15 = true := by decide +kernel
set_option maxRecDepth 1000000 in
theorem ck_163_t16 : ab_smP tb_X11_route (ab_ev2 ab_ME2 1000000 3) 1000000 (some .int) 0 0 sm_163 16 = true := by decide +kernel
set_option maxRecDepth 1000000 in
theorem ck_163_t17 : ab_smP tb_X11_route (ab_ev2 ab_ME2 1000000 3) 1000000 (some .int) 0 0 sm_163 17 = true := by decide +kernel
set_option maxRecDepth 1000000 in
theorem ck_163_t18 : ab_smP tb_X11_route (ab_ev2 ab_ME2 1000000 3) 1000000 (some .int) 0 0 sm_163 18 = true := by decide +kernel
set_option maxRecDepth 1000000 in
theorem ck_163_t19 : ab_smP tb_X11_route (ab_ev2 ab_ME2 1000000 3) 1000000 (some .int) 0 0 sm_163 19 = true := by decide +kernel
set_option maxRecDepth 1000000 in
theorem ck_163_t20 : ab_smP tb_X11_route (ab_ev2 ab_ME2 1000000 3) 1000000 (some .int) 0 0 sm_163 20 = true := by decide +kernel
set_option maxRecDepth 1000000 in
theorem ck_163_t21 : ab_smP tb_X11_route (ab_ev2 ab_ME2 1000000 3) 1000000 (some .int) 0 0 sm_163 21 = true := by decide +kernel
set_option maxRecDepth 1000000 in
theorem ck_163_t22 : ab_smP tb_X11_route (ab_ev2 ab_ME2 1000000 3) 1000000 (some .int) 0 0 sm_163 22 = true := by decide +kernel
set_option maxRecDepth 1000000 in
theorem ck_163_t23 : ab_smP tb_X11_route (ab_ev2 ab_ME2 1000000 3) 1000000 (some .int) 0 0 sm_163 23 = true := by decide +kernel
set_option maxRecDepth 1000000 in
theorem ck_163_t24 : ab_smP tb_X11_route (ab_ev2 ab_ME2 1000000 3) 1000000 (some .int) 0 0 sm_163 24 = true := by decide +kernel
set_option maxRecDepth 1000000 in
theorem ck_163_t25 : ab_smP tb_X11_route (ab_ev2 ab_ME2 1000000 3) 1000000 (some .int) 0 0 sm_163 25 = true := by decide +kernel
set_option maxRecDepth 1000000 in
theorem ck_163_t26 : ab_smP tb_X11_route (ab_ev2 ab_ME2 1000000 3) 1000000 (some .int) 0 0 sm_163 26 = true := by decide +kernel
set_option maxRecDepth 1000000 in
theorem ck_163_t27 : ab_smP tb_X11_route (ab_ev2 ab_ME2 1000000 3) 1000000 (some .int) 0 0 sm_163 27 = true := by decide +kernel
set_option maxRecDepth 1000000 in
theorem ck_163_t28 : ab_smP tb_X11_route (ab_ev2 ab_ME2 1000000 3) 1000000 (some .int) 0 0 sm_163 28 = true := by decide +kernel
set_option maxRecDepth 1000000 in
theorem ck_163_t29 : ab_smP tb_X11_route (ab_ev2 ab_ME2 1000000 3) 1000000 (some .int) 0 0 sm_163 29 = true := by decide +kernel
set_option maxRecDepth 1000000 in
theorem ck_163_t30 : ab_smP tb_X11_route (ab_ev2 ab_ME2 1000000 3) 1000000 (some .int) 0 0 sm_163 30 = true := by decide +kernel
set_option maxRecDepth 1000000 in
theorem ck_163_t31 : ab_smP tb_X11_route (ab_ev2 ab_ME2 1000000 3) 1000000 (some .int) 0 0 sm_163 31 = true := by decide +kernel
set_option maxRecDepth 1000000 in
theorem ck_163_t32 : ab_smP tb_X11_route (ab_ev2 ab_ME2 1000000 3) 1000000 (some .int) 0 0 sm_163 32 = true := by decide +kernel
set_option maxRecDepth 1000000 in
theorem ck_163_t33 : ab_smP tb_X11_route (ab_ev2 ab_ME2 1000000 3) 1000000 (some .int) 0 0 sm_163 33 = true := by decide +kernel
set_option maxRecDepth 1000000 in
theorem ck_163_t34 : ab_smP tb_X11_route (ab_ev2 ab_ME2 1000000 3) 1000000 (some .int) 0 0 sm_163 34 = true := by decide +kernel
set_option maxRecDepth 1000000 in
theorem ck_163_t35 : ab_smP tb_X11_route (ab_ev2 ab_ME2 1000000 3) 1000000 (some .int) 0 0 sm_163 35 = true := by decide +kernel
set_option maxRecDepth 1000000 in
theorem ck_163_t36 : ab_smP tb_X11_route (ab_ev2 ab_ME2 1000000 3) 1000000 (some .int) 0 0 sm_163 36 = true := by decide +kernel
set_option maxRecDepth 1000000 in
theorem ck_163_t37 : ab_smP tb_X11_route (ab_ev2 ab_ME2 1000000 3) 1000000 (some .int) 0 0 sm_163 37 = true := by decide +kernel
theorem ck_163 : ab_smC tb_X11_route (ab_ev2 ab_ME2 1000000 3) 1000000 (some .int) 0 0 0 sm_163 = true := ab_smC_of 38 rfl ck_163_e (fun i hi => (show ∀ j ∈ List.range 38, ab_smP tb_X11_route (ab_ev2 ab_ME2 1000000 3) 1000000 (some .int) 0 0 sm_163 j = true from by
    have e : List.range 38 = [0, 1, 2, 3, 4, 5, 6, 7, 8, 9, 10, 11, 12, 13, 14, 15, 16, 17, 18, 19, 20, 21, 22, 23, 24, 25, 26, 27, 28, 29, 30, 31, 32, 33, 34, 35, 36, 37] := by decide
    rw [e]
    exact List.forall_mem_cons.mpr ⟨ck_163_t0, List.forall_mem_cons.mpr ⟨ck_163_t1, List.forall_mem_cons.mpr ⟨ck_163_t2, List.forall_mem_cons.mpr ⟨ck_163_t3, List.forall_mem_cons.mpr ⟨ck_163_t4, List.forall_mem_cons.mpr ⟨ck_163_t5, List.forall_mem_cons.mpr ⟨ck_163_t6, List.forall_mem_cons.mpr ⟨ck_163_t7, List.forall_mem_cons.mpr ⟨ck_163_t8, List.forall_mem_cons.mpr ⟨ck_163_t9, List.forall_mem_cons.mpr ⟨ck_163_t10, List.forall_mem_cons.mpr ⟨ck_163_t11, List.forall_mem_cons.mpr ⟨ck_163_t12, List.forall_mem_cons.mpr ⟨ck_163_t13, List.forall_mem_cons.mpr ⟨ck_163_t14, List.forall_mem_cons.mpr ⟨ck_163_t15, List.forall_mem_cons.mpr ⟨ck_163_t16, List.forall_mem_cons.mpr ⟨ck_163_t17, List.forall_mem_cons.mpr ⟨ck_163_t18, List.forall_mem_cons.mpr ⟨ck_163_t19, List.forall_mem_cons.mpr ⟨ck_163_t20, List.forall_mem_cons.mpr ⟨ck_163_t21, List.forall_mem_cons.mpr ⟨ck_163_t22, List.forall_mem_cons.mpr ⟨ck_163_t23, List.forall_mem_cons.mpr ⟨ck_163_t24, List.forall_mem_cons.mpr ⟨ck_163_t25, List.forall_mem_cons.mpr ⟨ck_163_t26, List.forall_mem_cons.mpr ⟨ck_163_t27, List.forall_mem_cons.mpr ⟨ck_163_t28, List.forall_mem_cons.mpr ⟨ck_163_t29, List.forall_mem_cons.mpr ⟨ck_163_t30, List.forall_mem_cons.mpr ⟨ck_163_t31, List.forall_mem_cons.mpr ⟨ck_163_t32, List.forall_mem_cons.mpr ⟨ck_163_t33, List.forall_mem_cons.mpr ⟨ck_163_t34, List.forall_mem_cons.mpr ⟨ck_163_t35, List.forall_mem_cons.mpr ⟨ck_163_t36, List.forall_mem_cons.mpr ⟨ck_163_t37, fun _ h => nomatch h⟩⟩⟩⟩⟩⟩⟩⟩⟩⟩⟩⟩⟩⟩⟩⟩⟩⟩⟩⟩⟩⟩⟩⟩⟩⟩⟩⟩⟩⟩⟩⟩⟩⟩⟩⟩⟩⟩) i (List.mem_range.mpr hi))
set_option maxRecDepth 1000000 in
theorem ck_164 : ab_smC tb_X11_spare (ab_ev2 ab_ME2 1000000 3) 1000000 (some .int) 0 0 0 sm_164 = true := by decide +kernel
set_option maxRecDepth 1000000 in
theorem ck_165 : ab_smC tb_X11_train (ab_ev2 ab_ME2 1000000 3) 1000000 (some .int) 0 0 0 sm_165 = true := by decide +kernel
set_option maxRecDepth 1000000 in
theorem ck_166 : ab_smC tb_X4_begin (ab_ev2 ab_ME2 1000000 3) 1000000 (none) 0 0 0 sm_166 = true := by decide +kernel
set_option maxRecDepth 1000000 in
theorem ck_167 : ab_smC tb_X4_takeNewName (ab_ev2 ab_ME2 1000000 3) 1000000 (some .boolean) 0 0 0 sm_167 = true := by decide +kernel
set_option maxRecDepth 1000000 in
theorem ck_168 : ab_smC tb_X4_takeNewName (ab_ev2 ab_ME2 1000000 3) 1000000 (some .boolean) 0 0 0 sm_168 = true := by decide +kernel
set_option maxRecDepth 1000000 in
theorem ck_169 : ab_smC tb_X4_takeNumber (ab_ev2 ab_ME2 1000000 3) 1000000 (some .boolean) 0 0 0 sm_169 = true := by decide +kernel
set_option maxRecDepth 1000000 in
theorem ck_170 : ab_smC tb_X4_takeSign (ab_ev2 ab_ME2 1000000 3) 1000000 (some .boolean) 0 0 0 sm_170 = true := by decide +kernel
set_option maxRecDepth 1000000 in
theorem ck_171 : ab_smC tb_X4_takeWay (ab_ev2 ab_ME2 1000000 3) 1000000 (some .boolean) 0 0 0 sm_171 = true := by decide +kernel
set_option maxRecDepth 1000000 in
theorem ck_172 : ab_smC tb_X5_search (ab_ev2 ab_ME2 1000000 3) 1000000 (none) 0 0 0 sm_172 = true := by decide +kernel
set_option maxRecDepth 1000000 in
theorem ck_173 : ab_smC tb_X5_search (ab_ev2 ab_ME2 1000000 3) 1000000 (none) 0 0 0 sm_173 = true := by decide +kernel
set_option maxRecDepth 1000000 in
theorem ck_174_e_h : ab_smR sm_174 (kk_hd tb_X6_plainHolds (ab_ev2 ab_ME2 1000000 3) (some .boolean) 0 0 sm_174.2.2.1 1 40) = true := by decide +kernel
set_option maxRecDepth 1000000 in
theorem ck_174_e_0 : ab_smR sm_174 (kk_sl tb_X6_plainHolds (ab_ev2 ab_ME2 1000000 3) 20000 (some .boolean) 0 0 sm_174.2.2.1 1 0 5) = true := by decide +kernel
set_option maxRecDepth 1000000 in
theorem ck_174_e_1 : ab_smR sm_174 (kk_sl tb_X6_plainHolds (ab_ev2 ab_ME2 1000000 3) 20000 (some .boolean) 0 0 sm_174.2.2.1 1 5 5) = true := by decide +kernel
set_option maxRecDepth 1000000 in
theorem ck_174_e_2 : ab_smR sm_174 (kk_sl tb_X6_plainHolds (ab_ev2 ab_ME2 1000000 3) 20000 (some .boolean) 0 0 sm_174.2.2.1 1 10 5) = true := by decide +kernel
