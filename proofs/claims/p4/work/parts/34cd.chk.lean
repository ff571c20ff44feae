/-! The contexts are right. -/
set_option maxRecDepth 1000000 in
theorem ck_151 : ab_smC tb_X11_motto (ab_ev2 ab_ME2 1000000 3) 1000000 (some .int) 0 0 0 sm_151 = true := by decide +kernel
set_option maxRecDepth 1000000 in
theorem ck_152 : ab_smC tb_X11_noonLong (ab_ev2 ab_ME2 1000000 3) 1000000 (some .int) 0 0 0 sm_152 = true := by decide +kernel
set_option maxRecDepth 1000000 in
theorem ck_153 : ab_smC tb_X11_oneNoon (ab_ev2 ab_ME2 1000000 3) 1000000 (some .int) 0 0 0 sm_153 = true := by decide +kernel
set_option maxRecDepth 1000000 in
theorem ck_154 : ab_smC tb_X11_roomOf (ab_ev2 ab_ME2 1000000 3) 1000000 (some .int) 0 0 0 sm_154 = true := by decide +kernel
set_option maxRecDepth 1000000 in
theorem ck_155_e : ab_smE tb_X11_route (ab_ev2 ab_ME2 1000000 3) 1000000 (some .int) 0 0 0 sm_155 = true := by decide +kernel
set_option maxRecDepth 1000000 in
theorem ck_155_t0 : ab_smP tb_X11_route (ab_ev2 ab_ME2 1000000 3) 1000000 (some .int) 0 0 sm_155 0 = true := by decide +kernel
set_option maxRecDepth 1000000 in
theorem ck_155_t1 : ab_smP tb_X11_route (ab_ev2 ab_ME2 1000000 3) 1000000 (some .int) 0 0 sm_155 1 = true := by decide +kernel
set_option maxRecDepth 1000000 in
theorem ck_155_t2 : ab_smP tb_X11_route (ab_ev2 ab_ME2 1000000 3) 1000000 (some .int) 0 0 sm_155 2 = true := by decide +kernel
set_option maxRecDepth 1000000 in
theorem ck_155_t3 : ab_smP tb_X11_route (ab_ev2 ab_ME2 1000000 3) 1000000 (some .int) 0 0 sm_155 3 = true := by decide +kernel
set_option maxRecDepth 1000000 in
theorem ck_155_t4 : ab_smP tb_X11_route (ab_ev2 ab_ME2 1000000 3) 1000000 (some .int) 0 0 sm_155 4 = true := by decide +kernel
set_option maxRecDepth 1000000 in
theorem ck_155_t5 : ab_smP tb_X11_route (ab_ev2 ab_ME2 1000000 3) 1000000 (some .int) 0 0 sm_155 5 = true := by decide +kernel
set_option maxRecDepth 1000000 in
theorem ck_155_t6 : ab_smP tb_X11_route (ab_ev2 ab_ME2 1000000 3) 1000000 (some .int) 0 0 sm_155 6 = true := by decide +kernel
set_option maxRecDepth 1000000 in
theorem ck_155_t7 : ab_smP tb_X11_route (ab_ev2 ab_ME2 1000000 3) 1000000 (some .int) 0 0 sm_155 7 = true := by decide +kernel
set_option maxRecDepth 1000000 in
theorem ck_155_t8 : ab_smP tb_X11_route (ab_ev2 ab_ME2 1000000 3) 1000000 (some .int) 0 0 sm_155 8 = true := by decide +kernel
set_option maxRecDepth 1000000 in
theorem ck_155_t9 : ab_smP tb_X11_route (ab_ev2 ab_ME2 1000000 3) 1000000 (some .int) 0 0 sm_155 9 = true := by decide +kernel
set_option maxRecDepth 1000000 in
theorem ck_155_t10 : ab_smP tb_X11_route (ab_ev2 ab_ME2 1000000 3) 1000000 (some .int) 0 0 sm_155 10 = true := by decide +kernel
set_option maxRecDepth 1000000 in
theorem ck_155_t11 : ab_smP tb_X11_route (ab_ev2 ab_ME2 1000000 3) 1000000 (some .int) 0 0 sm_155 11 = true := by decide +kernel
set_option maxRecDepth 1000000 in
theorem ck_155_t12 : ab_smP tb_X11_route (ab_ev2 ab_ME2 1000000 3) 1000000 (some .int) 0 0 sm_155 12 = true := by decide +kernel
set_option maxRecDepth 1000000 in
theorem ck_155_t13 : ab_smP tb_X11_route (ab_ev2 ab_ME2 1000000 3) 1000000 (some .int) 0 0 sm_155 13 = true := by decide +kernel
set_option maxRecDepth 1000000 in
theorem ck_155_t14 : ab_smP tb_X11_route (ab_ev2 ab_ME2 1000000 3) 1000000 (some .int) 0 0 sm_155 14 = true := by decide +kernel
set_option maxRecDepth 1000000 in
theorem ck_155_t15 : ab_smP tb_X11_route (ab_ev2 ab_ME2 1000000 3) 1000000 (some .int) 0 0 sm_155 15 = true := by decide +kernel
set_option maxRecDepth 1000000 in
theorem ck_155_t16 : ab_smP tb_X11_route (ab_ev2 ab_ME2 1000000 3) 1000000 (some .int) 0 0 sm_155 16 = true := by decide +kernel
set_option maxRecDepth 1000000 in
theorem ck_155_t17 : ab_smP tb_X11_route (ab_ev2 ab_ME2 1000000 3) 1000000 (some .int) 0 0 sm_155 17 = true := by decide +kernel
set_option maxRecDepth 1000000 in
theorem ck_155_t18 : ab_smP tb_X11_route (ab_ev2 ab_ME2 1000000 3) 1000000 (some .int) 0 0 sm_155 18 = true := by decide +kernel
set_option maxRecDepth 1000000 in
theorem ck_155_t19 : ab_smP tb_X11_route (ab_ev2 ab_ME2 1000000 3) 1000000 (some .int) 0 0 sm_155 19 = true := by decide +kernel
set_option maxRecDepth 1000000 in
theorem ck_155_t20 : ab_smP tb_X11_route (ab_ev2 ab_ME2 1000000 3) 1000000 (some .int) 0 0 sm_155 20 = true := by decide +kernel
set_option maxRecDepth 1000000 in
theorem ck_155_t21 : ab_smP tb_X11_route (ab_ev2 ab_ME2 1000000 3) 1000000 (some .int) 0 0 sm_155 21 = true := by decide +kernel
set_option maxRecDepth 1000000 in
theorem ck_155_t22 : ab_smP tb_X11_route (ab_ev2 ab_ME2 1000000 3) 1000000 (some .int) 0 0 sm_155 22 = true := by decide +kernel
set_option maxRecDepth 1000000 in
theorem ck_155_t23 : ab_smP tb_X11_route (ab_ev2 ab_ME2 1000000 3) 1000000 (some .int) 0 0 sm_155 23 = true := by decide +kernel
set_option maxRecDepth 1000000 in
theorem ck_155_t24 : ab_smP tb_X11_route (ab_ev2 ab_ME2 1000000 3) 1000000 (some .int) 0 0 sm_155 24 = true := by decide +kernel
set_option maxRecDepth 1000000 in
theorem ck_155_t25 : ab_smP tb_X11_route (ab_ev2 ab_ME2 1000000 3) 1000000 (some .int) 0 0 sm_155 25 = true := by decide +kernel
set_option maxRecDepth 1000000 in
theorem ck_155_t26 : ab_smP tb_X11_route (ab_ev2 ab_ME2 1000000 3) 1000000 (some .int) 0 0 sm_155 26 = true := by decide +kernel
set_option maxRecDepth 1000000 in
theorem ck_155_t27 : ab_smP tb_X11_route (ab_ev2 ab_ME2 1000000 3) 1000000 (some .int) 0 0 sm_155 27 = true := by decide +kernel
set_option maxRecDepth 1000000 in
theorem ck_155_t28 : ab_smP tb_X11_route (ab_ev2 ab_ME2 1000000 3) 1000000 (some .int) 0 0 sm_155 28 = true := by decide +kernel
set_option maxRecDepth 1000000 in
theorem ck_155_t29 : ab_smP tb_X11_route (ab_ev2 ab_ME2 1000000 3) 1000000 (some .int) 0 0 sm_155 29 = true := by decide +kernel
set_option maxRecDepth 1000000 in
theorem ck_155_t30 : ab_smP tb_X11_route (ab_ev2 ab_ME2 1000000 3) 1000000 (some .int) 0 0 sm_155 30 = true := by decide +kernel
set_option maxRecDepth 1000000 in
theorem ck_155_t31 : ab_smP tb_X11_route (ab_ev2 ab_ME2 1000000 3) 1000000 (some .int) 0 0 sm_155 31 = true := by decide +kernel
set_option maxRecDepth 1000000 in
theorem ck_155_t32 : ab_smP tb_X11_route (ab_ev2 ab_ME2 1000000 3) 1000000 (some .int) 0 0 sm_155 32 = true := by decide +kernel
set_option maxRecDepth 1000000 in
theorem ck_155_t33 : ab_smP tb_X11_route (ab_ev2 ab_ME2 1000000 3) 1000000 (some .int) 0 0 sm_155 33 = true := by decide +kernel
set_option maxRecDepth 1000000 in
theorem ck_155_t34 : ab_smP tb_X11_route (ab_ev2 ab_ME2 1000000 3) 1000000 (some .int) 0 0 sm_155 34 = true := by decide +kernel
set_option maxRecDepth 1000000 in
theorem ck_155_t35 : ab_smP tb_X11_route (ab_ev2 ab_ME2 1000000 3) 1000000 (some .int) 0 0 sm_155 35 = true := by decide +kernel
set_option maxRecDepth 1000000 in
theorem ck_155_t36 : ab_smP tb_X11_route (ab_ev2 ab_ME2 1000000 3) 1000000 (some .int) 0 0 sm_155 36 = true := by decide +kernel
set_option maxRecDepth 1000000 in
theorem ck_155_t37 : ab_smP tb_X11_route (ab_ev2 ab_ME2 1000000 3) 1000000 (some .int) 0 0 sm_155 37 = true := by decide +kernel
theorem ck_155 : ab_smC tb_X11_route (ab_ev2 ab_ME2 1000000 3) 1000000 (some .int) 0 0 0 sm_155 = true := ab_smC_of 38 rfl ck_155_e (fun i hi => (show ∀ j ∈ List.range 38, ab_smP tb_X11_route (ab_ev2 ab_ME2 1000000 3) 1000000 (some .int) 0 0 sm_155 j = true from by
    have e : List.range 38 = [0, 1, 2, 3, 4, 5, 6, 7, 8, 9, 10, 11, 12, 13, 14, 15, 16, 17, 18, 19, 20, 21, 22, 23, 24, 25, 26, 27, 28, 29, 30, 31, 32, 33, 34, 35, 36, 37] := by decide
    rw [e]
    exact List.forall_mem_cons.mpr ⟨ck_155_t0, List.forall_mem_cons.mpr ⟨ck_155_t1, List.forall_mem_cons.mpr ⟨ck_155_t2, List.forall_mem_cons.mpr ⟨ck_155_t3, List.forall_mem_cons.mpr ⟨ck_155_t4, List.forall_mem_cons.mpr ⟨ck_155_t5, List.forall_mem_cons.mpr ⟨ck_155_t6, List.forall_mem_cons.mpr ⟨ck_155_t7, List.forall_mem_cons.mpr ⟨ck_155_t8, List.forall_mem_cons.mpr ⟨ck_155_t9, List.forall_mem_cons.mpr ⟨ck_155_t10, List.forall_mem_cons.mpr ⟨ck_155_t11, List.forall_mem_cons.mpr ⟨ck_155_t12, List.forall_mem_cons.mpr ⟨ck_155_t13, List.forall_mem_cons.mpr ⟨ck_155_t14, List.forall_mem_cons.mpr ⟨ck_155_t15, List.forall_mem_cons.mpr ⟨ck_155_t16, List.forall_mem_cons.mpr ⟨ck_155_t17, List.forall_mem_cons.mpr ⟨ck_155_t18, List.forall_mem_cons.mpr ⟨ck_155_t19, List.forall_mem_cons.mpr ⟨ck_155_t20, List.forall_mem_cons.mpr ⟨ck_155_t21, List.forall_mem_cons.mpr ⟨ck_155_t22, List.forall_mem_cons.mpr ⟨ck_155_t23, List.forall_mem_cons.mpr ⟨ck_155_t24, List.forall_mem_cons.mpr ⟨ck_155_t25, List.forall_mem_cons.mpr ⟨ck_155_t26, List.forall_mem_cons.mpr ⟨ck_155_t27, List.forall_mem_cons.mpr ⟨ck_155_t28, List.forall_mem_cons.mpr ⟨ck_155_t29, List.forall_mem_cons.mpr ⟨ck_155_t30, List.forall_mem_cons.mpr ⟨ck_155_t31, List.forall_mem_cons.mpr ⟨ck_155_t32, List.forall_mem_cons.mpr ⟨ck_155_t33, List.forall_mem_cons.mpr ⟨ck_155_t34, List.forall_mem_cons.mpr ⟨ck_155_t35, List.forall_mem_cons.mpr ⟨ck_155_t36, List.forall_mem_cons.mpr ⟨ck_155_t37, fun _ h => nomatch h⟩⟩⟩⟩⟩⟩⟩⟩⟩⟩⟩⟩⟩⟩⟩⟩⟩⟩⟩⟩⟩⟩⟩⟩⟩⟩⟩⟩⟩⟩⟩⟩⟩⟩⟩⟩⟩⟩) i (List.mem_range.mpr hi))
set_option maxRecDepth 1000000 in
theorem ck_156 : ab_smC tb_X11_spare (ab_ev2 ab_ME2 1000000 3) 1000000 (some .int) 0 0 0 sm_156 = true := by decide +kernel
set_option maxRecDepth 1000000 in
theorem ck_157 : ab_smC tb_X11_train (ab_ev2 ab_ME2 1000000 3) 1000000 (some .int) 0 0 0 sm_157 = true := by decide +kernel
set_option maxRecDepth 1000000 in
theorem ck_158 : ab_smC tb_X4_begin (ab_ev2 ab_ME2 1000000 3) 1000000 (none) 0 0 0 sm_158 = true := by decide +kernel
set_option maxRecDepth 1000000 in
theorem ck_159 : ab_smC tb_X4_takeNewName (ab_ev2 ab_ME2 1000000 3) 1000000 (some .boolean) 0 0 0 sm_159 = true := by decide +kernel
set_option maxRecDepth 1000000 in
theorem ck_160 : ab_smC tb_X4_takeNewName (ab_ev2 ab_ME2 1000000 3) 1000000 (some .boolean) 0 0 0 sm_160 = true := by decide +kernel
set_option maxRecDepth 1000000 in
theorem ck_161 : ab_smC tb_X4_takeNumber (ab_ev2 ab_ME2 1000000 3) 1000000 (some .boolean) 0 0 0 sm_161 = true := by decide +kernel
set_option maxRecDepth 1000000 in
theorem ck_162 : ab_smC tb_X4_takeSign (ab_ev2 ab_ME2 1000000 3) 1000000 (some .boolean) 0 0 0 sm_162 = true := by decide +kernel
set_option maxRecDepth 1000000 in
theorem ck_163 : ab_smC tb_X4_takeWay (ab_ev2 ab_ME2 1000000 3) 1000000 (some .boolean) 0 0 0 sm_163 = true := by decide +kernel
set_option maxRecDepth 1000000 in
theorem ck_164 : ab_smC tb_X5_search (ab_ev2 ab_ME2 1000000 3) 1000000 (none) 0 0 0 sm_164 = true := by decide +kernel
set_option maxRecDepth 1000000 in
theorem ck_165 : ab_smC tb_X5_search (ab_ev2 ab_ME2 1000000 3) 1000000 (none) 0 0 0 sm_165 = true := by decide +kernel
set_option maxRecDepth 1000000 in
theorem ck_166_e_h : ab_smR sm_166 (kk_hd tb_X6_plainHolds (ab_ev2 ab_ME2 1000000 3) (some .boolean) 0 0 sm_166.2.2.1 1 40) = true := by decide +kernel
set_option maxRecDepth 1000000 in
theorem ck_166_e_0 : ab_smR sm_166 (kk_sl tb_X6_plainHolds (ab_ev2 ab_ME2 1000000 3) 20000 (some .boolean) 0 0 sm_166.2.2.1 1 0 5) = true := by decide +kernel
set_option maxRecDepth 1000000 in
theorem ck_166_e_1 : ab_smR sm_166 (kk_sl tb_X6_plainHolds (ab_ev2 ab_ME2 1000000 3) 20000 (some .boolean) 0 0 sm_166.2.2.1 1 5 5) = true := by decide +kernel
set_option maxRecDepth 1000000 in
theorem ck_166_e_2 : ab_smR sm_166 (kk_sl tb_X6_plainHolds (ab_ev2 ab_ME2 1000000 3) 20000 (some .boolean) 0 0 sm_166.2.2.1 1 10 5) = true := by decide +kernel
set_option maxRecDepth 1000000 in
theorem ck_166_e_3 : ab_smR sm_166 (kk_sl tb_X6_plainHolds (ab_ev2 ab_ME2 1000000 3) 20000 (some .boolean) 0 0 sm_166.2.2.1 1 15 5) = true := by decide +kernel
set_option maxRecDepth 1000000 in
theorem ck_166_e_4 : ab_smR sm_166 (kk_sl tb_X6_plainHolds (ab_ev2 ab_ME2 1000000 3) 20000 (some .boolean) 0 0 sm_166.2.2.1 1 20 5) = true := by decide +kernel
set_option maxRecDepth 1000000 in
theorem ck_166_e_5 : ab_smR sm_166 (kk_sl tb_X6_plainHolds (ab_ev2 ab_ME2 1000000 3) 20000 (some .boolean) 0 0 sm_166.2.2.1 1 25 5) = true := by decide +kernel
