/-! The contexts are right. -/
set_option maxRecDepth 1000000 in
theorem ck_244_t1_6 : ab_smQ tb_X11_isSaid (ab_ev2 ab_ME2 1000000 5) sm_244 1 (kk_sl tb_X11_isSaid (ab_ev2 ab_ME2 1000000 5) 20000 (some .boolean) 0 0 sm_244.2.2.1 0 36 3) = true := by decide +kernel
theorem ck_244_t1 : ab_smP tb_X11_isSaid (ab_ev2 ab_ME2 1000000 5) 1000000 (some .boolean) 0 0 sm_244 1 = true := ab_tpl_sl (F := 20000) (k := 0) (N := 39) (L := [(0, 6), (6, 6), (12, 6), (18, 6), (24, 6), (30, 6), (36, 3)]) (by decide +kernel) (by decide) ck_244_t1_h (List.forall_mem_cons.mpr ⟨ck_244_t1_0, List.forall_mem_cons.mpr ⟨ck_244_t1_1, List.forall_mem_cons.mpr ⟨ck_244_t1_2, List.forall_mem_cons.mpr ⟨ck_244_t1_3, List.forall_mem_cons.mpr ⟨ck_244_t1_4, List.forall_mem_cons.mpr ⟨ck_244_t1_5, List.forall_mem_cons.mpr ⟨ck_244_t1_6, fun _ h => nomatch h⟩⟩⟩⟩⟩⟩⟩)
theorem ck_244 : ab_smC tb_X11_isSaid (ab_ev2 ab_ME2 1000000 5) 1000000 (some .boolean) 0 0 0 sm_244 = true := ab_smC_of 2 rfl ck_244_e (fun i hi => (show ∀ j ∈ List.range 2, ab_smP tb_X11_isSaid (ab_ev2 ab_ME2 1000000 5) 1000000 (some .boolean) 0 0 sm_244 j = true from by
    have e : List.range 2 = [0, 1] := by decide
    rw [e]
    exact List.forall_mem_cons.mpr ⟨ck_244_t0, List.forall_mem_cons.mpr ⟨ck_244_t1, fun _ h => nomatch h⟩⟩) i (List.mem_range.mpr hi))
set_option maxRecDepth 1000000 in
theorem ck_245 : ab_smC tb_X11_kept (ab_ev2 ab_ME2 1000000 5) 1000000 (some .int) 0 0 0 sm_245 = true := by decide +kernel
set_option maxRecDepth 1000000 in
theorem ck_246 : ab_smC tb_X11_now (ab_ev2 ab_ME2 1000000 5) 1000000 (some .int) 0 0 0 sm_246 = true := by decide +kernel
set_option maxRecDepth 1000000 in
theorem ck_247_e : ab_smE tb_X11_shadows (ab_ev2 ab_ME2 1000000 5) 1000000 (some .int) 0 0 0 sm_247 = true := by decide +kernel
set_option maxRecDepth 1000000 in
theorem ck_247_t0 : ab_smP tb_X11_shadows (ab_ev2 ab_ME2 1000000 5) 1000000 (some .int) 0 0 sm_247 0 = true := by decide +kernel
set_option maxRecDepth 1000000 in
theorem ck_247_t1 : ab_smP tb_X11_shadows (ab_ev2 ab_ME2 1000000 5) 1000000 (some .int) 0 0 sm_247 1 = true := by decide +kernel
set_option maxRecDepth 1000000 in
theorem ck_247_t2 : ab_smP tb_X11_shadows (ab_ev2 ab_ME2 1000000 5) 1000000 (some .int) 0 0 sm_247 2 = true := by decide +kernel
set_option maxRecDepth 1000000 in
theorem ck_247_t3 : ab_smP tb_X11_shadows (ab_ev2 ab_ME2 1000000 5) 1000000 (some .int) 0 0 sm_247 3 = true := by decide +kernel
set_option maxRecDepth 1000000 in
theorem ck_247_t4 : ab_smP tb_X11_shadows (ab_ev2 ab_ME2 1000000 5) 1000000 (some .int) 0 0 sm_247 4 = true := by decide +kernel
set_option maxRecDepth 1000000 in
theorem ck_247_t5 : ab_smP tb_X11_shadows (ab_ev2 ab_ME2 1000000 5) 1000000 (some .int) 0 0 sm_247 5 = true := by decide +kernel
set_option maxRecDepth 1000000 in
theorem ck_247_t6 : ab_smP tb_X11_shadows (ab_ev2 ab_ME2 1000000 5) 1000000 (some .int) 0 0 sm_247 6 = true := by decide +kernel
set_option maxRecDepth 1000000 in
theorem ck_247_t7 : ab_smP tb_X11_shadows (ab_ev2 ab_ME2 1000000 5) 1000000 (some .int) 0 0 sm_247 7 = true := by decide +kernel
set_option maxRecDepth 1000000 in
theorem ck_247_t8 : ab_smP tb_X11_shadows (ab_ev2 ab_ME2 1000000 5) 1000000 (some .int) 0 0 sm_247 8 = true := by decide +kernel
set_option maxRecDepth 1000000 in
theorem ck_247_t9 : ab_smP tb_X11_shadows (ab_ev2 ab_ME2 1000000 5) 1000000 (some .int) 0 0 sm_247 9 = true := by decide +kernel
set_option maxRecDepth 1000000 in
theorem ck_247_t10 : ab_smP tb_X11_shadows (ab_ev2 ab_ME2 1000000 5) 1000000 (some .int) 0 0 sm_247 10 = true := by decide +kernel
set_option maxRecDepth 1000000 in
theorem ck_247_t11 : ab_smP tb_X11_shadows (ab_ev2 ab_ME2 1000000 5) 1000000 (some .int) 0 0 sm_247 11 = true := by decide +kernel
set_option maxRecDepth 1000000 in
theorem ck_247_t12 : ab_smP tb_X11_shadows (ab_ev2 ab_ME2 1000000 5) 1000000 (some .int) 0 0 sm_247 12 = true := by decide +kernel
set_option maxRecDepth 1000000 in
theorem ck_247_t13 : ab_smP tb_X11_shadows (ab_ev2 ab_ME2 1000000 5) 1000000 (some .int) 0 0 sm_247 13 = true := by decide +kernel
set_option maxRecDepth 1000000 in
theorem ck_247_t14 : ab_smP tb_X11_shadows (ab_ev2 ab_ME2 1000000 5) 1000000 (some .int) 0 0 sm_247 14 = true := by decide +kernel
set_option maxRecDepth 1000000 in
theorem ck_247_t15 : ab_smP tb_X11_shadows (ab_ev2 ab_ME2 1000000 5) 1000000 (some .int) 0 0 sm_247 15 = true := by decide +kernel
set_option maxRecDepth 1000000 in
theorem ck_247_t16 : ab_smP tb_X11_shadows (ab_ev2 ab_ME2 1000000 5) 1000000 (some .int) 0 0 sm_247 16 = true := by decide +kernel
set_option maxRecDepth 1000000 in
theorem ck_247_t17 : ab_smP tb_X11_shadows (ab_ev2 ab_ME2 1000000 5) 1000000 (some .int) 0 0 sm_247 17 = true := by decide +kernel
set_option maxRecDepth 1000000 in
theorem ck_247_t18 : ab_smP tb_X11_shadows (ab_ev2 ab_ME2 1000000 5) 1000000 (some .int) 0 0 sm_247 18 = true := by decide +kernel
set_option maxRecDepth 1000000 in
theorem ck_247_t19 : ab_smP tb_X11_shadows (ab_ev2 ab_ME2 1000000 5) 1000000 (some .int) 0 0 sm_247 19 = true := by decide +kernel
set_option maxRecDepth 1000000 in
theorem ck_247_t20 : ab_smP tb_X11_shadows (ab_ev2 ab_ME2 1000000 5) 1000000 (some .int) 0 0 sm_247 20 = true := by decide +kernel
set_option maxRecDepth 1000000 in
theorem ck_247_t21 : ab_smP tb_X11_shadows (ab_ev2 ab_ME2 1000000 5) 1000000 (some .int) 0 0 sm_247 21 = true := by decide +kernel
set_option maxRecDepth 1000000 in
theorem ck_247_t22 : ab_smP tb_X11_shadows (ab_ev2 ab_ME2 1000000 5) 1000000 (some .int) 0 0 sm_247 22 = true := by decide +kernel
set_option maxRecDepth 1000000 in
theorem ck_247_t23 : ab_smP tb_X11_shadows (ab_ev2 ab_ME2 1000000 5) 1000000 (some .int) 0 0 sm_247 23 = true := by decide +kernel
set_option maxRecDepth 1000000 in
theorem ck_247_t24 : ab_smP tb_X11_shadows (ab_ev2 ab_ME2 1000000 5) 1000000 (some .int) 0 0 sm_247 24 = true := by decide +kernel
set_option maxRecDepth 1000000 in
theorem ck_247_t25 : ab_smP tb_X11_shadows (ab_ev2 ab_ME2 1000000 5) 1000000 (some .int) 0 0 sm_247 25 = true := by decide +kernel
set_option maxRecDepth 1000000 in
theorem ck_247_t26 : ab_smP tb_X11_shadows (ab_ev2 ab_ME2 1000000 5) 1000000 (some .int) 0 0 sm_247 26 = true := by decide +kernel
set_option maxRecDepth 1000000 in
theorem ck_247_t27 : ab_smP tb_X11_shadows (ab_ev2 ab_ME2 1000000 5) 1000000 (some .int) 0 0 sm_247 27 = true := by decide +kernel
set_option maxRecDepth 1000000 in
theorem ck_247_t28 : ab_smP tb_X11_shadows (ab_ev2 ab_ME2 1000000 5) 1000000 (some .int) 0 0 sm_247 28 = true := by decide +kernel
set_option maxRecDepth 1000000 in
theorem ck_247_t29 : ab_smP tb_X11_shadows (ab_ev2 ab_ME2 1000000 5) 1000000 (some .int) 0 0 sm_247 29 = true := by decide +kernel
set_option maxRecDepth 1000000 in
theorem ck_247_t30 : ab_smP tb_X11_shadows (ab_ev2 ab_ME2 1000000 5) 1000000 (some .int) 0 0 sm_247 30 = true := by decide +kernel
set_option maxRecDepth 1000000 in
theorem ck_247_t31 : ab_smP tb_X11_shadows (ab_ev2 ab_ME2 1000000 5) 1000000 (some .int) 0 0 sm_247 31 = true := by decide +kernel
set_option maxRecDepth 1000000 in
theorem ck_247_t32 : ab_smP tb_X11_shadows (ab_ev2 ab_ME2 1000000 5) 1000000 (some .int) 0 0 sm_247 32 = true := by decide +kernel
set_option maxRecDepth 1000000 in
theorem ck_247_t33 : ab_smP tb_X11_shadows (ab_ev2 ab_ME2 1000000 5) 1000000 (some .int) 0 0 sm_247 33 = true := by decide +kernel
set_option maxRecDepth 1000000 in
theorem ck_247_t34 : ab_smP tb_X11_shadows (ab_ev2 ab_ME2 1000000 5) 1000000 (some .int) 0 0 sm_247 34 = true := by decide +kernel
set_option maxRecDepth 1000000 in
theorem ck_247_t35 : ab_smP tb_X11_shadows (ab_ev2 ab_ME2 1000000 5) 1000000 (some .int) 0 0 sm_247 35 = true := by decide +kernel
set_option maxRecDepth 1000000 in
theorem ck_247_t36 : ab_smP tb_X11_shadows (ab_ev2 ab_ME2 1000000 5) 1000000 (some .int) 0 0 sm_247 36 = true := by decide +kernel
set_option maxRecDepth 1000000 in
theorem ck_247_t37 : ab_smP tb_X11_shadows (ab_ev2 ab_ME2 1000000 5) 1000000 (some .int) 0 0 sm_247 37 = true := by decide +kernel
set_option maxRecDepth 1000000 in
theorem ck_247_t38 : ab_smP tb_X11_shadows (ab_ev2 ab_ME2 1000000 5) 1000000 (some .int) 0 0 sm_247 38 = true := by decide +kernel
set_option maxRecDepth 1000000 in
theorem ck_247_t39 : ab_smP tb_X11_shadows (ab_ev2 ab_ME2 1000000 5) 1000000 (some .int) 0 0 sm_247 39 = true := by decide +kernel
set_option maxRecDepth 1000000 in
theorem ck_247_t40 : ab_smP tb_X11_shadows (ab_ev2 ab_ME2 1000000 5) 1000000 (some .int) 0 0 sm_247 40 = true := by decide +kernel
set_option maxRecDepth 1000000 in
theorem ck_247_t41 : ab_smP tb_X11_shadows (ab_ev2 ab_ME2 1000000 5) 1000000 (some .int) 0 0 sm_247 41 = true := by decide +kernel
set_option maxRecDepth 1000000 in
theorem ck_247_t42 : ab_smP tb_X11_shadows (ab_ev2 ab_ME2 1000000 5) 1000000 (some .int) 0 0 sm_247 42 = true := by decide +kernel
set_option maxRecDepth 1000000 in
theorem ck_247_t43 : ab_smP tb_X11_shadows (ab_ev2 ab_ME2 1000000 5) 1000000 (some .int) 0 0 sm_247 43 = true := by decide +kernel
set_option maxRecDepth 1000000 in
theorem ck_247_t44 : ab_smP tb_X11_shadows (ab_ev2 ab_ME2 1000000 5) 1000000 (some .int) 0 0 sm_247 44 = true := by decide +kernel
set_option maxRecDepth 1000000 in
theorem ck_247_t45 : ab_smP tb_X11_shadows (ab_ev2 ab_ME2 1000000 5) 1000000 (some .int) 0 0 sm_247 45 = true := by decide +kernel
set_option maxRecDepth 1000000 in
theorem ck_247_t46 : ab_smP tb_X11_shadows (ab_ev2 ab_ME2 1000000 5) 1000000 (some .int) 0 0 sm_247 46 = true := by decide +kernel
set_option maxRecDepth 1000000 in
theorem ck_247_t47 : ab_smP tb_X11_shadows (ab_ev2 ab_ME2 1000000 5) 1000000 (some .int) 0 0 sm_247 47 = true := by decide +kernel
set_option maxRecDepth 1000000 in
theorem ck_247_t48 : ab_smP tb_X11_shadows (ab_ev2 ab_ME2 1000000 5) 1000000 (some .int) 0 0 sm_247 48 = true := by decide +kernel
set_option maxRecDepth 1000000 in
theorem ck_247_t49 : ab_smP tb_X11_shadows (ab_ev2 ab_ME2 1000000 5) 1000000 (some .int) 0 0 sm_247 49 = true := by decide +kernel
set_option maxRecDepth 1000000 in
theorem ck_247_t50 : ab_smP tb_X11_shadows (ab_ev2 ab_ME2 1000000 5) 1000000 (some .int) 0 0 sm_247 50 = true := by decide +kernel
set_option maxRecDepth 1000000 in
theorem ck_247_t51 : ab_smP tb_X11_shadows (ab_ev2 ab_ME2 1000000 5) 1000000 (some .int) 0 0 sm_247 51 = true := by decide +kernel
set_option maxRecDepth 1000000 in
theorem ck_247_t52 : ab_smP tb_X11_shadows (ab_ev2 ab_ME2 1000000 5) 1000000 (some .int) 0 0 sm_247 52 = true := by decide +kernel
set_option maxRecDepth 1000000 in
theorem ck_247_t53 : ab_smP tb_X11_shadows (ab_ev2 ab_ME2 1000000 5) 1000000 (some .int) 0 0 sm_247 53 = true := by decide +kernel
set_option maxRecDepth 1000000 in
theorem ck_247_t54 : ab_smP tb_X11_shadows (ab_ev2 ab_ME2 1000000 5) 1000000 (some .int) 0 0 sm_247 54 = true := by decide +kernel
set_option maxRecDepth 1000000 in
theorem ck_247_t55 : ab_smP tb_X11_shadows (ab_ev2 ab_ME2 1000000 5) 1000000 (some .int) 0 0 sm_247 55 = true := by decide +kernel
set_option maxRecDepth 1000000 in
theorem ck_247_t56 : ab_smP tb_X11_shadows (ab_ev2 ab_ME2 1000000 5) 1000000 (some .int) 0 0 sm_247 56 = true := by decide +kernel
set_option maxRecDepth 1000000 in
theorem ck_247_t57 : ab_smP tb_X11_shadows (ab_ev2 ab_ME2 1000000 5) 1000000 (some .int) 0 0 sm_247 57 = true := by decide +kernel
set_option maxRecDepth 1000000 in
theorem ck_247_t58 : ab_smP tb_X11_shadows (ab_ev2 ab_ME2 1000000 5) 1000000 (some .int) 0 0 sm_247 58 = true := by decide +kernel
set_option maxRecDepth 1000000 in
theorem ck_247_t59 : ab_smP tb_X11_shadows (ab_ev2 ab_ME2 1000000 5) 1000000 (some .int) 0 0 sm_247 59 = true := by decide +kernel
set_option maxRecDepth 1000000 in
theorem ck_247_t60 : ab_smP tb_X11_shadows (ab_ev2 ab_ME2 1000000 5) 1000000 (some .int) 0 0 sm_247 60 = true := by decide +kernel
set_option maxRecDepth 1000000 in
theorem ck_247_t61 : ab_smP tb_X11_shadows (ab_ev2 ab_ME2 1000000 5) 1000000 (some .int) 0 0 sm_247 61 = true := by decide +kernel
set_option maxRecDepth 1000000 in
theorem ck_247_t62 : ab_smP tb_X11_shadows (ab_ev2 ab_ME2 1000000 5) 1000000 (some .int) 0 0 sm_247 62 = true := by decide +kernel
set_option maxRecDepth 1000000 in
theorem ck_247_t63 : ab_smP tb_X11_shadows (ab_ev2 ab_ME2 1000000 5) 1000000 (some .int) 0 0 sm_247 63 = true := by decide +kernel
set_option maxRecDepth 1000000 in
theorem ck_247_t64 : ab_smP tb_X11_shadows (ab_ev2 ab_ME2 1000000 5) 1000000 (some .int) 0 0 sm_247 64 = true := by decide +kernel
set_option maxRecDepth 1000000 in
theorem ck_247_t65 : ab_smP tb_X11_shadows (ab_ev2 ab_ME2 1000000 5) 1000000 (some .int) 0 0 sm_247 65 = true := by decide +kernel
set_option maxRecDepth 1000000 in
theorem ck_247_t66 : ab_smP tb_X11_shadows (ab_ev2 ab_ME2 1000000 5) 1000000 (some .int) 0 0 sm_247 66 = true := by decide +kernel
set_option maxRecDepth 1000000 in
theorem ck_247_t67 : ab_smP tb_X11_shadows (ab_ev2 ab_ME2 1000000 5) 1000000 (some .int) 0 0 sm_247 67 = true := by decide +kernel
set_option maxRecDepth 1000000 in
theorem ck_247_t68 : ab_smP tb_X11_shadows (ab_ev2 ab_ME2 1000000 5) 1000000 (some .int) 0 0 sm_247 68 = true := by decide +kernel
set_option maxRecDepth 1000000 in
theorem ck_247_t69 : ab_smP tb_X11_shadows (ab_ev2 ab_ME2 1000000 5) 1000000 (some .int) 0 0 sm_247 69 = true := by decide +kernel
set_option maxRecDepth 1000000 in
theorem ck_247_t70 : ab_smP tb_X11_shadows (ab_ev2 ab_ME2 1000000 5) 1000000 (some .int) 0 0 sm_247 70 = true := by decide +kernel
set_option maxRecDepth 1000000 in
theorem ck_247_t71 : ab_smP tb_X11_shadows (ab_ev2 ab_ME2 1000000 5) 1000000 (some .int) 0 0 sm_247 71 = true := by decide +kernel
set_option maxRecDepth 1000000 in
theorem ck_247_t72 : ab_smP tb_X11_shadows (ab_ev2 ab_ME2 1000000 5) 1000000 (some .int) 0 0 sm_247 72 = true := by decide +kernel
set_option maxRecDepth 1000000 in
theorem ck_247_t73 : ab_smP tb_X11_shadows (ab_ev2 ab_ME2 1000000 5) 1000000 (some .int) 0 0 sm_247 73 = true := by decide +kernel
set_option maxRecDepth 1000000 in
theorem ck_247_t74 : ab_smP tb_X11_shadows (ab_ev2 ab_ME2 1000000 5) 1000000 (some .int) 0 0 sm_247 74 = true := by decide +kernel
set_option maxRecDepth 1000000 in
theorem ck_247_t75 : ab_smP tb_X11_shadows (ab_ev2 ab_ME2 1000000 5) 1000000 (some .int) 0 0 sm_247 75 = true := by decide +kernel
theorem ck_247 : ab_smC tb_X11_shadows (ab_ev2 ab_ME2 1000000 5) 1000000 (some .int) 0 0 0 sm_247 = true := ab_smC_of 76 rfl ck_247_e (fun i hi => (show ∀ j ∈ List.range 76, ab_smP tb_X11_shadows (ab_ev2 ab_ME2 1000000 5) 1000000 (some .int) 0 0 sm_247 j = true from by
    have e : List.range 76 = [0, 1, 2, 3, 4, 5, 6, 7, 8, 9, 10, 11, 12, 13, 14, 15, 16, 17, 18, 19, 20, 21, 22, 23, 24, 25, 26, 27, 28, 29, 30, 31, 32, 33, 34, 35, 36, 37, 38, 39, 40, 41, 42, 43, 44, 45, 46, 47, 48, 49, 50, 51, 52, 53, 54, 55, 56, 57, 58, 59, 60, 61, 62, 63, 64, 65, 66, 67, 68, 69, 70, 71, 72, 73, 74, 75] := by decide
    rw [e]
    exact List.forall_mem_cons.mpr ⟨ck_247_t0, List.forall_mem_cons.mpr ⟨ck_247_t1, List.forall_mem_cons.mpr ⟨ck_247_t2, List.forall_mem_cons.mpr ⟨ck_247_t3, List.forall_mem_cons.mpr ⟨ck_247_t4, List.forall_mem_cons.mpr ⟨ck_247_t5, List.forall_mem_cons.mpr ⟨ck_247_t6, List.forall_mem_cons.mpr ⟨ck_247_t7, List.forall_mem_cons.mpr ⟨ck_247_t8, List.forall_mem_cons.mpr ⟨ck_247_t9, List.forall_mem_cons.mpr ⟨ck_247_t10, List.forall_mem_cons.mpr ⟨ck_247_t11, List.forall_mem_cons.mpr ⟨ck_247_t12, List.forall_mem_cons.mpr ⟨ck_247_t13, List.forall_mem_cons.mpr ⟨ck_247_t14, List.forall_mem_cons.mpr ⟨ck_247_t15, List.forall_mem_cons.mpr ⟨ck_247_t16, List.forall_mem_cons.mpr ⟨ck_247_t17, List.forall_mem_cons.mpr ⟨ck_247_t18, List.forall_mem_cons.mpr ⟨ck_247_t19, List.forall_mem_cons.mpr ⟨ck_247_t20, List.forall_mem_cons.mpr ⟨ck_247_t21, List.forall_mem_cons.mpr ⟨ck_247_t22, List.forall_mem_cons.mpr ⟨ck_247_t23, List.forall_mem_cons.mpr ⟨ck_247_t24, List.forall_mem_cons.mpr ⟨ck_247_t25, List.forall_mem_cons.mpr ⟨ck_247_t26, List.forall_mem_cons.mpr ⟨ck_247_t27, List.forall_mem_cons.mpr ⟨ck_247_t28, List.forall_mem_cons.mpr ⟨ck_247_t29, List.forall_mem_cons.mpr ⟨ck_247_t30, List.forall_mem_cons.mpr ⟨ck_247_t31, List.forall_mem_cons.mpr ⟨ck_247_t32, List.forall_mem_cons.mpr ⟨ck_247_t33, List.forall_mem_cons.mpr ⟨ck_247_t34, List.forall_mem_cons.mpr ⟨ck_247_t35, List.forall_mem_cons.mpr ⟨ck_247_t36, List.forall_mem_cons.mpr ⟨ck_247_t37, List.forall_mem_cons.mpr ⟨ck_247_t38, List.forall_mem_cons.mpr ⟨ck_247_t39, List.forall_mem_cons.mpr ⟨ck_247_t40, List.forall_mem_cons.mpr ⟨ck_247_t41, List.forall_mem_cons.mpr ⟨ck_247_t42, List.forall_mem_cons.mpr ⟨ck_247_t43, List.forall_mem_cons.mpr ⟨ck_247_t44, List.forall_mem_cons.mpr ⟨ck_247_t45, List.forall_mem_cons.mpr ⟨ck_247_t46, List.forall_mem_cons.mpr ⟨ck_247_t47, List.forall_mem_cons.mpr ⟨ck_247_t48, List.forall_mem_cons.mpr ⟨ck_247_t49, List.forall_mem_cons.mpr ⟨ck_247_t50, List.forall_mem_cons.mpr ⟨ck_247_t51, List.forall_mem_cons.mpr ⟨ck_247_t52, List.forall_mem_cons.mpr ⟨ck_247_t53, List.forall_mem_cons.mpr ⟨ck_247_t54, List.forall_mem_cons.mpr ⟨ck_247_t55, List.forall_mem_cons.mpr ⟨ck_247_t56, List.forall_mem_cons.mpr ⟨ck_247_t57, List.forall_mem_cons.mpr ⟨ck_247_t58, List.forall_mem_cons.mpr ⟨ck_247_t59, List.forall_mem_cons.mpr ⟨ck_247_t60, List.forall_mem_cons.mpr ⟨ck_247_t61, List.forall_mem_cons.mpr ⟨ck_247_t62, List.forall_mem_cons.mpr ⟨ck_247_t63, List.forall_mem_cons.mpr ⟨ck_247_t64, List.forall_mem_cons.mpr ⟨ck_247_t65, List.forall_mem_cons.mpr ⟨ck_247_t66, List.forall_mem_cons.mpr ⟨ck_247_t67, List.forall_mem_cons.mpr ⟨ck_247_t68, List.forall_mem_cons.mpr ⟨ck_247_t69, List.forall_mem_cons.mpr ⟨ck_247_t70, List.forall_mem_cons.mpr ⟨ck_247_t71, List.forall_mem_cons.mpr ⟨ck_247_t72, List.forall_mem_cons.mpr ⟨ck_247_t73, List.forall_mem_cons.mpr ⟨ck_247_t74, List.forall_mem_cons.mpr ⟨ck_247_t75, fun _ h => nomatch h⟩⟩⟩⟩⟩⟩⟩⟩⟩⟩⟩⟩⟩⟩⟩⟩⟩⟩⟩⟩⟩⟩⟩⟩⟩⟩⟩⟩⟩⟩⟩⟩⟩⟩⟩⟩⟩⟩⟩⟩⟩⟩⟩⟩⟩⟩⟩⟩⟩⟩⟩⟩⟩⟩⟩⟩⟩⟩⟩⟩⟩⟩⟩⟩⟩⟩⟩⟩⟩⟩⟩⟩⟩⟩⟩⟩) i (List.mem_range.mpr hi))
set_option maxRecDepth 1000000 in
theorem ck_248 : ab_smC tb_X11_worst (ab_ev2 ab_ME2 1000000 5) 1000000 (some .int) 0 0 0 sm_248 = true := by decide +kernel
set_option maxRecDepth 1000000 in
theorem ck_249 : ab_smC tb_X3_write (ab_ev2 ab_ME2 1000000 5) 1000000 (none) 0 0 0 sm_249 = true := by decide +kernel
set_option maxRecDepth 1000000 in
theorem ck_250 : ab_smC tb_X5_search (ab_ev2 ab_ME2 1000000 5) 1000000 (none) 0 0 0 sm_250 = true := by decide +kernel
set_option maxRecDepth 1000000 in
theorem ck_251 : ab_smC tb_X5_search (ab_ev2 ab_ME2 1000000 5) 1000000 (none) 0 0 0 sm_251 = true := by decide +kernel
set_option maxRecDepth 1000000 in
theorem ck_252 : ab_smC tb_X6_readOne (ab_ev2 ab_ME2 1000000 5) 1000000 (some .boolean) 0 0 0 sm_252 = true := by decide +kernel
set_option maxRecDepth 1000000 in
theorem ck_253 : ab_smC tb_X6_readOne (ab_ev2 ab_ME2 1000000 5) 1000000 (some .boolean) 0 0 0 sm_253 = true := by decide +kernel
set_option maxRecDepth 1000000 in
theorem ck_254 : ab_smC tb_X6_readOne (ab_ev2 ab_ME2 1000000 5) 1000000 (some .boolean) 0 0 0 sm_254 = true := by decide +kernel
set_option maxRecDepth 1000000 in
theorem ck_255 : ab_smC tb_X6_readOne (ab_ev2 ab_ME2 1000000 5) 1000000 (some .boolean) 0 0 0 sm_255 = true := by decide +kernel
set_option maxRecDepth 1000000 in
theorem ck_256 : ab_smC tb_X9_readLine (ab_ev2 ab_ME2 1000000 5) 1000000 (some .boolean) 0 0 0 sm_256 = true := by decide +kernel
set_option maxRecDepth 1000000 in
theorem ck_257 : ab_smC tb_X9_readLine (ab_ev2 ab_ME2 1000000 5) 1000000 (some .boolean) 0 0 0 sm_257 = true := by decide +kernel
set_option maxRecDepth 1000000 in
theorem ck_258 : ab_smC tb_X0_live (ab_ev2 ab_ME2 1000000 6) 1000000 (some .int) 0 0 0 sm_258 = true := by decide +kernel
set_option maxRecDepth 1000000 in
theorem ck_259 : ab_smC tb_X0_live (ab_ev2 ab_ME2 1000000 6) 1000000 (some .int) 0 0 0 sm_259 = true := by decide +kernel
set_option maxRecDepth 1000000 in
theorem ck_260 : ab_smC tb_X10_motto (ab_ev2 ab_ME2 1000000 6) 1000000 (some .int) 0 0 0 sm_260 = true := by decide +kernel
set_option maxRecDepth 1000000 in
theorem ck_261_e : ab_smE tb_X11_book (ab_ev2 ab_ME2 1000000 6) 1000000 (some .int) 0 0 0 sm_261 = true := by decide +kernel
set_option maxRecDepth 1000000 in
theorem ck_261_t0 : ab_smP tb_X11_book (ab_ev2 ab_ME2 1000000 6) 1000000 (some .int) 0 0 sm_261 0 = true := by decide +kernel
set_option maxRecDepth 1000000 in
theorem ck_261_t1 : ab_smP tb_X11_book (ab_ev2 ab_ME2 1000000 6) 1000000 (some .int) 0 0 sm_261 1 = true := by decide +kernel
set_option maxRecDepth 1000000 in
theorem ck_261_t2_h : ab_smQ tb_X11_book (ab_ev2 ab_ME2 1000000 6) sm_261 2 (kk_hd tb_X11_book (ab_ev2 ab_ME2 1000000 6) (some .int) 0 0 sm_261.2.2.1 0 41) = true := by decide +kernel
set_option maxRecDepth 1000000 in
theorem ck_261_t2_0 : ab_smQ tb_X11_book (ab_ev2 ab_ME2 1000000 6) sm_261 2 (kk_sl tb_X11_book (ab_ev2 ab_ME2 1000000 6) 20000 (some .int) 0 0 sm_261.2.2.1 0 0 12) = true := by decide +kernel
set_option maxRecDepth 1000000 in
theorem ck_261_t2_1 : ab_smQ tb_X11_book (ab_ev2 ab_ME2 1000000 6) sm_261 2 (kk_sl tb_X11_book (ab_ev2 ab_ME2 1000000 6) 20000 (some .int) 0 0 sm_261.2.2.1 0 12 12) = true := by decide +kernel
set_option maxRecDepth 1000000 in
theorem ck_261_t2_2 : ab_smQ tb_X11_book (ab_ev2 ab_ME2 1000000 6) sm_261 2 (kk_sl tb_X11_book (ab_ev2 ab_ME2 1000000 6) 20000 (some .int) 0 0 sm_261.2.2.1 0 24 12) = true := by decide +kernel
set_option maxRecDepth 1000000 in
theorem ck_261_t2_3 : ab_smQ tb_X11_book (ab_ev2 ab_ME2 1000000 6) sm_261 2 (kk_sl tb_X11_book (ab_ev2 ab_ME2 1000000 6) 20000 (some .int) 0 0 sm_261.2.2.1 0 36 5) = true := by decide +kernel
theorem ck_261_t2 : ab_smP tb_X11_book (ab_ev2 ab_ME2 1000000 6) 1000000 (some .int) 0 0 sm_261 2 = true := ab_tpl_sl (F := 20000) (k := 0) (N := 41) (L := [(0, 12), (12, 12), (24, 12), (36, 5)]) (by decide +kernel) (by decide) ck_261_t2_h (List.forall_mem_cons.mpr ⟨ck_261_t2_0, List.forall_mem_cons.mpr ⟨ck_261_t2_1, List.forall_mem_cons.mpr ⟨ck_261_t2_2, List.forall_mem_cons.mpr ⟨ck_261_t2_3, fun _ h => nomatch h⟩⟩⟩⟩)
set_option maxRecDepth 1000000 in
theorem ck_261_t3 : ab_smP tb_X11_book (ab_ev2 ab_ME2 1000000 6) 1000000 (some .int) 0 0 sm_261 3 = true := by decide +kernel
set_option maxRecDepth 1000000 in
theorem ck_261_t4 : ab_smP tb_X11_book (ab_ev2 ab_ME2 1000000 6) 1000000 (some .int) 0 0 sm_261 4 = true := by decide +kernel
theorem ck_261 : ab_smC tb_X11_book (ab_ev2 ab_ME2 1000000 6) 1000000 (some .int) 0 0 0 sm_261 = true := ab_smC_of 5 rfl ck_261_e (fun i hi => (show ∀ j ∈ List.range 5, ab_smP tb_X11_book (ab_ev2 ab_ME2 1000000 6) 1000000 (some .int) 0 0 sm_261 j = true from by
    have e : List.range 5 = [0, 1, 2, 3, 4] := by decide
    rw [e]
    exact List.forall_mem_cons.mpr ⟨ck_261_t0, List.forall_mem_cons.mpr ⟨ck_261_t1, List.forall_mem_cons.mpr ⟨ck_261_t2, List.forall_mem_cons.mpr ⟨ck_261_t3, List.forall_mem_cons.mpr ⟨ck_261_t4, fun _ h => nomatch h⟩⟩⟩⟩⟩) i (List.mem_range.mpr hi))
