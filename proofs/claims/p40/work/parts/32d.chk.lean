/-! The contexts are right. -/
set_option maxRecDepth 1000000 in
theorem ck_149 : ab_smC tb_X11_motto (ab_ev2 ab_ME2 1000000 3) 1000000 (some .int) 0 0 0 sm_149 = true := by decide +kernel
set_option maxRecDepth 1000000 in
theorem ck_150 : ab_smC tb_X11_noonLong (ab_ev2 ab_ME2 1000000 3) 1000000 (some .int) 0 0 0 sm_150 = true := by decide +kernel
set_option maxRecDepth 1000000 in
theorem ck_151 : ab_smC tb_X11_oneNoon (ab_ev2 ab_ME2 1000000 3) 1000000 (some .int) 0 0 0 sm_151 = true := by decide +kernel
set_option maxRecDepth 1000000 in
theorem ck_152 : ab_smC tb_X11_roomOf (ab_ev2 ab_ME2 1000000 3) 1000000 (some .int) 0 0 0 sm_152 = true := by decide +kernel
set_option maxRecDepth 1000000 in
theorem ck_153_e : ab_smE tb_X11_route (ab_ev2 ab_ME2 1000000 3) 1000000 (some .int) 0 0 0 sm_153 = true := by decide +kernel
set_option maxRecDepth 1000000 in
theorem ck_153_t0 : ab_smP tb_X11_route (ab_ev2 ab_ME2 1000000 3) 1000000 (some .int) 0 0 sm_153 0 = true := by decide +kernel
set_option maxRecDepth 1000000 in
theorem ck_153_t1 : ab_smP tb_X11_route (ab_ev2 ab_ME2 1000000 3) 1000000 (some .int) 0 0 sm_153 1 = true := by decide +kernel
set_option maxRecDepth 1000000 in
theorem ck_153_t2 : ab_smP tb_X11_route (ab_ev2 ab_ME2 1000000 3) 1000000 (some .int) 0 0 sm_153 2 = true := by decide +kernel
set_option maxRecDepth 1000000 in
theorem ck_153_t3 : ab_smP tb_X11_route (ab_ev2 ab_ME2 1000000 3) 1000000 (some .int) 0 0 sm_153 3 = true := by decide +kernel
set_option maxRecDepth 1000000 in
theorem ck_153_t4 : ab_smP tb_X11_route (ab_ev2 ab_ME2 1000000 3) 1000000 (some .int) 0 0 sm_153 4 = true := by decide +kernel
set_option maxRecDepth 1000000 in
theorem ck_153_t5 : ab_smP tb_X11_route (ab_ev2 ab_ME2 1000000 3) 1000000 (some .int) 0 0 sm_153 5 = true := by decide +kernel
set_option maxRecDepth 1000000 in
theorem ck_153_t6 : ab_smP tb_X11_route (ab_ev2 ab_ME2 1000000 3) 1000000 (some .int) 0 0 sm_153 6 = true := by decide +kernel
set_option maxRecDepth 1000000 in
theorem ck_153_t7 : ab_smP tb_X11_route (ab_ev2 ab_ME2 1000000 3) 1000000 (some .int) 0 0 sm_153 7 = true := by decide +kernel
set_option maxRecDepth 1000000 in
theorem ck_153_t8 : ab_smP tb_X11_route (ab_ev2 ab_ME2 1000000 3) 1000000 (some .int) 0 0 sm_153 8 = true := by decide +kernel
set_option maxRecDepth 1000000 in
theorem ck_153_t9 : ab_smP tb_X11_route (ab_ev2 ab_ME2 1000000 3) 1000000 (some .int) 0 0 sm_153 9 = true := by decide +kernel
set_option maxRecDepth 1000000 in
theorem ck_153_t10 : ab_smP tb_X11_route (ab_ev2 ab_ME2 1000000 3) 1000000 (some .int) 0 0 sm_153 10 = true := by decide +kernel
set_option maxRecDepth 1000000 in
theorem ck_153_t11 : ab_smP tb_X11_route (ab_ev2 ab_ME2 1000000 3) 1000000 (some .int) 0 0 sm_153 11 = true := by decide +kernel
set_option maxRecDepth 1000000 in
theorem ck_153_t12 : ab_smP tb_X11_route (ab_ev2 ab_ME2 1000000 3) 1000000 (some .int) 0 0 sm_153 12 = true := by decide +kernel
set_option maxRecDepth 1000000 in
theorem ck_153_t13 : ab_smP tb_X11_route (ab_ev2 ab_ME2 1000000 3) 1000000 (some .int) 0 0 sm_153 13 = true := by decide +kernel
set_option maxRecDepth 1000000 in
theorem ck_153_t14 : ab_smP tb_X11_route (ab_ev2 ab_ME2 1000000 3) 1000000 (some .int) 0 0 sm_153 14 = true := by decide +kernel
set_option maxRecDepth 1000000 in
theorem ck_153_t15 : ab_smP tb_X11_route (ab_ev2 ab_ME2 1000000 3) 1000000 (some .int) 0 0 sm_153 15 = true := by decide +kernel
set_option maxRecDepth 1000000 in
theorem ck_153_t16 : ab_smP tb_X11_route (ab_ev2 ab_ME2 1000000 3) 1000000 (some .int) 0 0 sm_153 16 = true := by decide +kernel
set_option maxRecDepth 1000000 in
theorem ck_153_t17 : ab_smP tb_X11_route (ab_ev2 ab_ME2 1000000 3) 1000000 (some .int) 0 0 sm_153 17 = true := by decide +kernel
set_option maxRecDepth 1000000 in
theorem ck_153_t18 : ab_smP tb_X11_route (ab_ev2 ab_ME2 1000000 3) 1000000 (some .int) 0 0 sm_153 18 = true := by decide +kernel
set_option maxRecDepth 1000000 in
theorem ck_153_t19 : ab_smP tb_X11_route (ab_ev2 ab_ME2 1000000 3) 1000000 (some .int) 0 0 sm_153 19 = true := by decide +kernel
set_option maxRecDepth 1000000 in
theorem ck_153_t20 : ab_smP tb_X11_route (ab_ev2 ab_ME2 1000000 3) 1000000 (some .int) 0 0 sm_153 20 = true := by decide +kernel
set_option maxRecDepth 1000000 in
theorem ck_153_t21 : ab_smP tb_X11_route (ab_ev2 ab_ME2 1000000 3) 1000000 (some .int) 0 0 sm_153 21 = true := by decide +kernel
set_option maxRecDepth 1000000 in
theorem ck_153_t22 : ab_smP tb_X11_route (ab_ev2 ab_ME2 1000000 3) 1000000 (some .int) 0 0 sm_153 22 = true := by decide +kernel
set_option maxRecDepth 1000000 in
theorem ck_153_t23 : ab_smP tb_X11_route (ab_ev2 ab_ME2 1000000 3) 1000000 (some .int) 0 0 sm_153 23 = true := by decide +kernel
set_option maxRecDepth 1000000 in
theorem ck_153_t24 : ab_smP tb_X11_route (ab_ev2 ab_ME2 1000000 3) 1000000 (some .int) 0 0 sm_153 24 = true := by decide +kernel
set_option maxRecDepth 1000000 in
theorem ck_153_t25 : ab_smP tb_X11_route (ab_ev2 ab_ME2 1000000 3) 1000000 (some .int) 0 0 sm_153 25 = true := by decide +kernel
set_option maxRecDepth 1000000 in
theorem ck_153_t26 : ab_smP tb_X11_route (ab_ev2 ab_ME2 1000000 3) 1000000 (some .int) 0 0 sm_153 26 = true := by decide +kernel
set_option maxRecDepth 1000000 in
theorem ck_153_t27 : ab_smP tb_X11_route (ab_ev2 ab_ME2 1000000 3) 1000000 (some .int) 0 0 sm_153 27 = true := by decide +kernel
set_option maxRecDepth 1000000 in
theorem ck_153_t28 : ab_smP tb_X11_route (ab_ev2 ab_ME2 1000000 3) 1000000 (some .int) 0 0 sm_153 28 = true := by decide +kernel
set_option maxRecDepth 1000000 in
theorem ck_153_t29 : ab_smP tb_X11_route (ab_ev2 ab_ME2 1000000 3) 1000000 (some .int) 0 0 sm_153 29 = true := by decide +kernel
set_option maxRecDepth 1000000 in
theorem ck_153_t30 : ab_smP tb_X11_route (ab_ev2 ab_ME2 1000000 3) 1000000 (some .int) 0 0 sm_153 30 = true := by decide +kernel
set_option maxRecDepth 1000000 in
theorem ck_153_t31 : ab_smP tb_X11_route (ab_ev2 ab_ME2 1000000 3) 1000000 (some .int) 0 0 sm_153 31 = true := by decide +kernel
set_option maxRecDepth 1000000 in
theorem ck_153_t32 : ab_smP tb_X11_route (ab_ev2 ab_ME2 1000000 3) 1000000 (some .int) 0 0 sm_153 32 = true := by decide +kernel
set_option maxRecDepth 1000000 in
theorem ck_153_t33 : ab_smP tb_X11_route (ab_ev2 ab_ME2 1000000 3) 1000000 (some .int) 0 0 sm_153 33 = true := by decide +kernel
set_option maxRecDepth 1000000 in
theorem ck_153_t34 : ab_smP tb_X11_route (ab_ev2 ab_ME2 1000000 3) 1000000 (some .int) 0 0 sm_153 34 = true := by decide +kernel
set_option maxRecDepth 1000000 in
theorem ck_153_t35 : ab_smP tb_X11_route (ab_ev2 ab_ME2 1000000 3) 1000000 (some .int) 0 0 sm_153 35 = true := by decide +kernel
set_option maxRecDepth 1000000 in
theorem ck_153_t36 : ab_smP tb_X11_route (ab_ev2 ab_ME2 1000000 3) 1000000 (some .int) 0 0 sm_153 36 = true := by decide +kernel
set_option maxRecDepth 1000000 in
theorem ck_153_t37 : ab_smP tb_X11_route (ab_ev2 ab_ME2 1000000 3) 1000000 (some .int) 0 0 sm_153 37 = true := by decide +kernel
theorem ck_153 : ab_smC tb_X11_route (ab_ev2 ab_ME2 1000000 3) 1000000 (some .int) 0 0 0 sm_153 = true := ab_smC_of 38 rfl ck_153_e (fun i hi => (show ∀ j ∈ List.range 38, ab_smP tb_X11_route (ab_ev2 ab_ME2 1000000 3) 1000000 (some .int) 0 0 sm_153 j = true from by
    have e : List.range 38 = [0, 1, 2, 3, 4, 5, 6, 7, 8, 9, 10, 11, 12, 13, 14, 15, 16, 17, 18, 19, 20, 21, 22, 23, 24, 25, 26, 27, 28, 29, 30, 31, 32, 33, 34, 35, 36, 37] := by decide
    rw [e]
    exact List.forall_mem_cons.mpr ⟨ck_153_t0, List.forall_mem_cons.mpr ⟨ck_153_t1, List.forall_mem_cons.mpr ⟨ck_153_t2, List.forall_mem_cons.mpr ⟨ck_153_t3, List.forall_mem_cons.mpr ⟨ck_153_t4, List.forall_mem_cons.mpr ⟨ck_153_t5, List.forall_mem_cons.mpr ⟨ck_153_t6, List.forall_mem_cons.mpr ⟨ck_153_t7, List.forall_mem_cons.mpr ⟨ck_153_t8, List.forall_mem_cons.mpr ⟨ck_153_t9, List.forall_mem_cons.mpr ⟨ck_153_t10, List.forall_mem_cons.mpr ⟨ck_153_t11, List.forall_mem_cons.mpr ⟨ck_153_t12, List.forall_mem_cons.mpr ⟨ck_153_t13, List.forall_mem_cons.mpr ⟨ck_153_t14, List.forall_mem_cons.mpr ⟨ck_153_t15, List.forall_mem_cons.mpr ⟨ck_153_t16, List.forall_mem_cons.mpr ⟨ck_153_t17, List.forall_mem_cons.mpr ⟨ck_153_t18, List.forall_mem_cons.mpr ⟨ck_153_t19, List.forall_mem_cons.mpr ⟨ck_153_t20, List.forall_mem_cons.mpr ⟨ck_153_t21, List.forall_mem_cons.mpr ⟨ck_153_t22, List.forall_mem_cons.mpr ⟨ck_153_t23, List.forall_mem_cons.mpr ⟨ck_153_t24, List.forall_mem_cons.mpr ⟨ck_153_t25, List.forall_mem_cons.mpr ⟨ck_153_t26, List.forall_mem_cons.mpr ⟨ck_153_t27, List.forall_mem_cons.mpr ⟨ck_153_t28, List.forall_mem_cons.mpr ⟨ck_153_t29, List.forall_mem_cons.mpr ⟨ck_153_t30, List.forall_mem_cons.mpr ⟨ck_153_t31, List.forall_mem_cons.mpr ⟨ck_153_t32, List.forall_mem_cons.mpr ⟨ck_153_t33, List.forall_mem_cons.mpr ⟨ck_153_t34, List.forall_mem_cons.mpr ⟨ck_153_t35, List.forall_mem_cons.mpr ⟨ck_153_t36, List.forall_mem_cons.mpr ⟨ck_153_t37, fun _ h => nomatch h⟩⟩⟩⟩⟩⟩⟩⟩⟩⟩⟩⟩⟩⟩⟩⟩⟩⟩⟩⟩⟩⟩⟩⟩⟩⟩⟩⟩⟩⟩⟩⟩⟩⟩⟩⟩⟩⟩) i (List.mem_range.mpr hi))
set_option maxRecDepth 1000000 in
theorem ck_154 : ab_smC tb_X11_spare (ab_ev2 ab_ME2 1000000 3) 1000000 (some .int) 0 0 0 sm_154 = true := by decide +kernel
set_option maxRecDepth 1000000 in
theorem ck_155 : ab_smC tb_X11_train (ab_ev2 ab_ME2 1000000 3) 1000000 (some .int) 0 0 0 sm_155 = true := by decide +kernel
set_option maxRecDepth 1000000 in
theorem ck_156 : ab_smC tb_X4_begin (ab_ev2 ab_ME2 1000000 3) 1000000 (none) 0 0 0 sm_156 = true := by decide +kernel
set_option maxRecDepth 1000000 in
theorem ck_157 : ab_smC tb_X4_takeNewName (ab_ev2 ab_ME2 1000000 3) 1000000 (some .boolean) 0 0 0 sm_157 = true := by decide +kernel
set_option maxRecDepth 1000000 in
theorem ck_158 : ab_smC tb_X4_takeNewName (ab_ev2 ab_ME2 1000000 3) 1000000 (some .boolean) 0 0 0 sm_158 = true := by decide +kernel
set_option maxRecDepth 1000000 in
theorem ck_159 : ab_smC tb_X4_takeNumber (ab_ev2 ab_ME2 1000000 3) 1000000 (some .boolean) 0 0 0 sm_159 = true := by decide +kernel
set_option maxRecDepth 1000000 in
theorem ck_160 : ab_smC tb_X4_takeSign (ab_ev2 ab_ME2 1000000 3) 1000000 (some .boolean) 0 0 0 sm_160 = true := by decide +kernel
set_option maxRecDepth 1000000 in
theorem ck_161 : ab_smC tb_X4_takeWay (ab_ev2 ab_ME2 1000000 3) 1000000 (some .boolean) 0 0 0 sm_161 = true := by decide +kernel
set_option maxRecDepth 1000000 in
theorem ck_162 : ab_smC tb_X5_search (ab_ev2 ab_ME2 1000000 3) 1000000 (none) 0 0 0 sm_162 = true := by decide +kernel
set_option maxRecDepth 1000000 in
theorem ck_163 : ab_smC tb_X5_search (ab_ev2 ab_ME2 1000000 3) 1000000 (none) 0 0 0 sm_163 = true := by decide +kernel
set_option maxRecDepth 1000000 in
theorem ck_164_e_h : ab_smR sm_164 (kk_hd tb_X6_plainHolds (ab_ev2 ab_ME2 1000000 3) (some .boolean) 0 0 sm_164.2.2.1 1 40) = true := by decide +kernel
set_option maxRecDepth 1000000 in
theorem ck_164_e_0 : ab_smR sm_164 (kk_sl tb_X6_plainHolds (ab_ev2 ab_ME2 1000000 3) 20000 (some .boolean) 0 0 sm_164.2.2.1 1 0 5) = true := by decide +kernel
set_option maxRecDepth 1000000 in
theorem ck_164_e_1 : ab_smR sm_164 (kk_sl tb_X6_plainHolds (ab_ev2 ab_ME2 1000000 3) 20000 (some .boolean) 0 0 sm_164.2.2.1 1 5 5) = true := by decide +kernel
set_option maxRecDepth 1000000 in
theorem ck_164_e_2 : ab_smR sm_164 (kk_sl tb_X6_plainHolds (ab_ev2 ab_ME2 1000000 3) 20000 (some .boolean) 0 0 sm_164.2.2.1 1 10 5) = true := by decide +kernel
set_option maxRecDepth 1000000 in
theorem ck_164_e_3 : ab_smR sm_164 (kk_sl tb_X6_plainHolds (ab_ev2 ab_ME2 1000000 3) 20000 (some .boolean) 0 0 sm_164.2.2.1 1 15 5) = true := by decide +kernel
set_option maxRecDepth 1000000 in
theorem ck_164_e_4 : ab_smR sm_164 (kk_sl tb_X6_plainHolds (ab_ev2 ab_ME2 1000000 3) 20000 (some .boolean) 0 0 sm_164.2.2.1 1 20 5) = true := by decide +kernel
set_option maxRecDepth 1000000 in
theorem ck_164_e_5 : ab_smR sm_164 (kk_sl tb_X6_plainHolds (ab_ev2 ab_ME2 1000000 3) 20000 (some .boolean) 0 0 sm_164.2.2.1 1 25 5) = true := by decide +kernel
