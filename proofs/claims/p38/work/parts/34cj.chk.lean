/-! The contexts are right. -/
set_option maxRecDepth 1000000 in
theorem ck_252_t1_2 : ab_smQ tb_X11_isSaid (ab_ev2 ab_ME2 1000000 5) sm_252 1 (kk_sl tb_X11_isSaid (ab_ev2 ab_ME2 1000000 5) 20000 (some .boolean) 0 0 sm_252.2.2.1 0 12 6) = true := by decide +kernel
set_option maxRecDepth 1000000 in
theorem ck_252_t1_3 : ab_smQ tb_X11_isSaid (ab_ev2 ab_ME2 1000000 5) sm_252 1 (kk_sl tb_X11_isSaid (ab_ev2 ab_ME2 1000000 5) 20000 (some .boolean) 0 0 sm_252.2.2.1 0 18 6) = true := by decide +kernel
set_option maxRecDepth 1000000 in
theorem ck_252_t1_4 : ab_smQ tb_X11_isSaid (ab_ev2 ab_ME2 1000000 5) sm_252 1 (kk_sl tb_X11_isSaid (ab_ev2 ab_ME2 1000000 5) 20000 (some .boolean) 0 0 sm_252.2.2.1 0 24 6) = true := by decide +kernel
set_option maxRecDepth 1000000 in
theorem ck_252_t1_5 : ab_smQ tb_X11_isSaid (ab_ev2 ab_ME2 1000000 5) sm_252 1 (kk_sl tb_X11_isSaid (ab_ev2 ab_ME2 1000000 5) 20000 (some .boolean) 0 0 sm_252.2.2.1 0 30 6) = true := by decide +kernel
set_option maxRecDepth 1000000 in
theorem ck_252_t1_6 : ab_smQ tb_X11_isSaid (ab_ev2 ab_ME2 1000000 5) sm_252 1 (kk_sl tb_X11_isSaid (ab_ev2 ab_ME2 1000000 5) 20000 (some .boolean) 0 0 sm_252.2.2.1 0 36 3) = true := by decide +kernel
theorem ck_252_t1 : ab_smP tb_X11_isSaid (ab_ev2 ab_ME2 1000000 5) 1000000 (some .boolean) 0 0 sm_252 1 = true := ab_tpl_sl (F := 20000) (k := 0) (N := 39) (L := [(0, 6), (6, 6), (12, 6), (18, 6), (24, 6), (30, 6), (36, 3)]) (by decide +kernel) (by decide) ck_252_t1_h (List.forall_mem_cons.mpr ⟨ck_252_t1_0, List.forall_mem_cons.mpr ⟨ck_252_t1_1, List.forall_mem_cons.mpr ⟨ck_252_t1_2, List.forall_mem_cons.mpr ⟨ck_252_t1_3, List.forall_mem_cons.mpr ⟨ck_252_t1_4, List.forall_mem_cons.mpr ⟨ck_252_t1_5, List.forall_mem_cons.mpr ⟨ck_252_t1_6, fun _ h => nomatch h⟩⟩⟩⟩⟩⟩⟩)
theorem ck_252 : ab_smC tb_X11_isSaid (ab_ev2 ab_ME2 1000000 5) 1000000 (some .boolean) 0 0 0 sm_252 = true := ab_smC_of 2 rfl ck_252_e (fun i hi => (show ∀ j ∈ List.range 2, ab_smP tb_X11_isSaid (ab_ev2 ab_ME2 1000000 5) 1000000 (some .boolean) 0 0 sm_252 j = true from by
    have e : List.range 2 = [0, 1] := by decide
    rw [e]
    exact List.forall_mem_cons.mpr ⟨ck_252_t0, List.forall_mem_cons.mpr ⟨ck_252_t1, fun _ h => nomatch h⟩⟩) i (List.mem_range.mpr hi))
set_option maxRecDepth 1000000 in
theorem ck_253 : ab_smC tb_X11_kept (ab_ev2 ab_ME2 1000000 5) 1000000 (some .int) 0 0 0 sm_253 = true := by decide +kernel
set_option maxRecDepth 1000000 in
theorem ck_254 : ab_smC tb_X11_now (ab_ev2 ab_ME2 1000000 5) 1000000 (some .int) 0 0 0 sm_254 = true := by decide +kernel
set_option maxRecDepth 1000000 in
theorem ck_255_e : ab_smE tb_X11_shadows (ab_ev2 ab_ME2 1000000 5) 1000000 (some .int) 0 0 0 sm_255 = true := by decide +kernel
set_option maxRecDepth 1000000 in
theorem ck_255_t0 : ab_smP tb_X11_shadows (ab_ev2 ab_ME2 1000000 5) 1000000 (some .int) 0 0 sm_255 0 = true := by decide +kernel
set_option maxRecDepth 1000000 in
theorem ck_255_t1 : ab_smP tb_X11_shadows (ab_ev2 ab_ME2 1000000 5) 1000000 (some .int) 0 0 sm_255 1 = true := by decide +kernel
set_option maxRecDepth 1000000 in
theorem ck_255_t2 : ab_smP tb_X11_shadows (ab_ev2 ab_ME2 1000000 5) 1000000 (some .int) 0 0 sm_255 2 = true := by decide +kernel
set_option maxRecDepth 1000000 in
theorem ck_255_t3 : ab_smP tb_X11_shadows (ab_ev2 ab_ME2 1000000 5) 1000000 (some .int) 0 0 sm_255 3 = true := by decide +kernel
set_option maxRecDepth 1000000 in
theorem ck_255_t4 : ab_smP tb_X11_shadows (ab_ev2 ab_ME2 1000000 5) 1000000 (some .int) 0 0 sm_255 4 = true := by decide +kernel
set_option maxRecDepth 1000000 in
theorem ck_255_t5 : ab_smP tb_X11_shadows (ab_ev2 ab_ME2 1000000 5) 1000000 (some .int) 0 0 sm_255 5 = true := by decide +kernel
set_option maxRecDepth 1000000 in
theorem ck_255_t6 : ab_smP tb_X11_shadows (ab_ev2 ab_ME2 1000000 5) 1000000 (some .int) 0 0 sm_255 6 = true := by decide +kernel
set_option maxRecDepth 1000000 in
theorem ck_255_t7 : ab_smP tb_X11_shadows (ab_ev2 ab_ME2 1000000 5) 1000000 (some .int) 0 0 sm_255 7 = true := by decide +kernel
set_option maxRecDepth 1000000 in
theorem ck_255_t8 : ab_smP tb_X11_shadows (ab_ev2 ab_ME2 1000000 5) 1000000 (some .int) 0 0 sm_255 8 = true := by decide +kernel
set_option maxRecDepth 1000000 in
theorem ck_255_t9 : ab_smP tb_X11_shadows (ab_ev2 ab_ME2 1000000 5) 1000000 (some .int) 0 0 sm_255 9 = true := by decide +kernel
set_option maxRecDepth 1000000 in
theorem ck_255_t10 : ab_smP tb_X11_shadows (ab_ev2 ab_ME2 1000000 5) 1000000 (some .int) 0 0 sm_255 10 = true := by decide +kernel
set_option maxRecDepth 1000000 in
theorem ck_255_t11 : ab_smP tb_X11_shadows (ab_ev2 ab_ME2 1000000 5) 1000000 (some .int) 0 0 sm_255 11 = true := by decide +kernel
set_option maxRecDepth 1000000 in
theorem ck_255_t12 : ab_smP tb_X11_shadows (ab_ev2 ab_ME2 1000000 5) 1000000 (some .int) 0 0 sm_255 12 = true := by decide +kernel
set_option maxRecDepth 1000000 in
theorem ck_255_t13 : ab_smP tb_X11_shadows (ab_ev2 ab_ME2 1000000 5) 1000000 (some .int) 0 0 sm_255 13 = true := by decide +kernel
set_option maxRecDepth 1000000 in
theorem ck_255_t14 : ab_smP tb_X11_shadows (ab_ev2 ab_ME2 1000000 5) 1000000 (some .int) 0 0 sm_255 14 = true := by decide +kernel
set_option maxRecDepth 1000000 in
theorem ck_255_t15 : ab_smP tb_X11_shadows (ab_ev2 ab_ME2 1000000 5) 1000000 (some .int) 0 0 sm_255 15 = true := by decide +kernel
set_option maxRecDepth 1000000 in
theorem ck_255_t16 : ab_smP tb_X11_shadows (ab_ev2 ab_ME2 1000000 5) 1000000 (some .int) 0 0 sm_255 16 = true := by decide +kernel
set_option maxRecDepth 1000000 in
theorem ck_255_t17 : ab_smP tb_X11_shadows (ab_ev2 ab_ME2 1000000 5) 1000000 (some .int) 0 0 sm_255 17 = true := by decide +kernel
set_option maxRecDepth 1000000 in
theorem ck_255_t18 : ab_smP tb_X11_shadows (ab_ev2 ab_ME2 1000000 5) 1000000 (some .int) 0 0 sm_255 18 = true := by decide +kernel
set_option maxRecDepth 1000000 in
theorem ck_255_t19 : ab_smP tb_X11_shadows (ab_ev2 ab_ME2 1000000 5) 1000000 (some .int) 0 0 sm_255 19 = true := by decide +kernel
set_option maxRecDepth 1000000 in
theorem ck_255_t20 : ab_smP tb_X11_shadows (ab_ev2 ab_ME2 1000000 5) 1000000 (some .int) 0 0 sm_255 20 = true := by decide +kernel
set_option maxRecDepth 1000000 in
theorem ck_255_t21 : ab_smP tb_X11_shadows (ab_ev2 ab_ME2 1000000 5) 1000000 (some .int) 0 0 sm_255 21 = true := by decide +kernel
set_option maxRecDepth 1000000 in
theorem ck_255_t22 : ab_smP tb_X11_shadows (ab_ev2 ab_ME2 1000000 5) 1000000 (some .int) 0 0 sm_255 22 = true := by decide +kernel
set_option maxRecDepth 1000000 in
theorem ck_255_t23 : ab_smP tb_X11_shadows (ab_ev2 ab_ME2 1000000 5) 1000000 (some .int) 0 0 sm_255 23 = true := by decide +kernel
set_option maxRecDepth 1000000 in
theorem ck_255_t24 : ab_smP tb_X11_shadows (ab_ev2 ab_ME2 1000000 5) 1000000 (some .int) 0 0 sm_255 24 = true := by decide +kernel
set_option maxRecDepth 1000000 in
theorem ck_255_t25 : ab_smP tb_X11_shadows (ab_ev2 ab_ME2 1000000 5) 1000000 (some .int) 0 0 sm_255 25 = true := by decide +kernel
set_option maxRecDepth 1000000 in
theorem ck_255_t26 : ab_smP tb_X11_shadows (ab_ev2 ab_ME2 1000000 5) 1000000 (some .int) 0 0 sm_255 26 = true := by decide +kernel
set_option maxRecDepth 1000000 in
theorem ck_255_t27 : ab_smP tb_X11_shadows (ab_ev2 ab_ME2 1000000 5) 1000000 (some .int) 0 0 sm_255 27 = true := by decide +kernel
set_option maxRecDepth 1000000 in
theorem ck_255_t28 : ab_smP tb_X11_shadows (ab_ev2 ab_ME2 1000000 5) 1000000 (some .int) 0 0 sm_255 28 = true := by decide +kernel
set_option maxRecDepth 1000000 in
theorem ck_255_t29 : ab_smP tb_X11_shadows (ab_ev2 ab_ME2 1000000 5) 1000000 (some .int) 0 0 sm_255 29 = true := by decide +kernel
set_option maxRecDepth 1000000 in
theorem ck_255_t30 : ab_smP tb_X11_shadows (ab_ev2 ab_ME2 1000000 5) 1000000 (some .int) 0 0 sm_255 30 = true := by decide +kernel
set_option maxRecDepth 1000000 in
theorem ck_255_t31 : ab_smP tb_X11_shadows (ab_ev2 ab_ME2 1000000 5) 1000000 (some .int) 0 0 sm_255 31 = true := by decide +kernel
set_option maxRecDepth 1000000 in
theorem ck_255_t32 : ab_smP tb_X11_shadows (ab_ev2 ab_ME2 1000000 5) 1000000 (some .int) 0 0 sm_255 32 = true := by decide +kernel
set_option maxRecDepth 1000000 in
theorem ck_255_t33 : ab_smP tb_X11_shadows (ab_ev2 ab_ME2 1000000 5) 1000000 (some .int) 0 0 sm_255 33 = true := by decide +kernel
set_option maxRecDepth 1000000 in
theorem ck_255_t34 : ab_smP tb_X11_shadows (ab_ev2 ab_ME2 1000000 5) 1000000 (some .int) 0 0 sm_255 34 = true := by decide +kernel
set_option maxRecDepth 1000000 in
theorem ck_255_t35 : ab_smP tb_X11_shadows (ab_ev2 ab_ME2 1000000 5) 1000000 (some .int) 0 0 sm_255 35 = true := by decide +kernel
set_option maxRecDepth 1000000 in
theorem ck_255_t36 : ab_smP tb_X11_shadows (ab_ev2 ab_ME2 1000000 5) 1000000 (some .int) 0 0 sm_255 36 = true := by decide +kernel
set_option maxRecDepth 1000000 in
theorem ck_255_t37 : ab_smP tb_X11_shadows (ab_ev2 ab_ME2 1000000 5) 1000000 (some .int) 0 0 sm_255 37 = true := by decide +kernel
set_option maxRecDepth 1000000 in
theorem ck_255_t38 : ab_smP tb_X11_shadows (ab_ev2 ab_ME2 1000000 5) 1000000 (some .int) 0 0 sm_255 38 = true := by decide +kernel
set_option maxRecDepth 1000000 in
theorem ck_255_t39 : ab_smP tb_X11_shadows (ab_ev2 ab_ME2 1000000 5) 1000000 (some .int) 0 0 sm_255 39 = true := by decide +kernel
set_option maxRecDepth 1000000 in
theorem ck_255_t40 : ab_smP tb_X11_shadows (ab_ev2 ab_ME2 1000000 5) 1000000 (some .int) 0 0 sm_255 40 = true := by decide +kernel
set_option maxRecDepth 1000000 in
theorem ck_255_t41 : ab_smP tb_X11_shadows (ab_ev2 ab_ME2 1000000 5) 1000000 (some .int) 0 0 sm_255 41 = true := by decide +kernel
set_option maxRecDepth 1000000 in
theorem ck_255_t42 : ab_smP tb_X11_shadows (ab_ev2 ab_ME2 1000000 5) 1000000 (some .int) 0 0 sm_255 42 = true := by decide +kernel
set_option maxRecDepth 1000000 in
theorem ck_255_t43 : ab_smP tb_X11_shadows (ab_ev2 ab_ME2 1000000 5) 1000000 (some .int) 0 0 sm_255 43 = true := by decide +kernel
set_option maxRecDepth 1000000 in
theorem ck_255_t44 : ab_smP tb_X11_shadows (ab_ev2 ab_ME2 1000000 5) 1000000 (some .int) 0 0 sm_255 44 = true := by decide +kernel
set_option maxRecDepth 1000000 in
theorem ck_255_t45 : ab_smP tb_X11_shadows (ab_ev2 ab_ME2 1000000 5) 1000000 (some .int) 0 0 sm_255 45 = true := by decide +kernel
set_option maxRecDepth 1000000 in
theorem ck_255_t46 : ab_smP tb_X11_shadows (ab_ev2 ab_ME2 1000000 5) 1000000 (some .int) 0 0 sm_255 46 = true := by decide +kernel
set_option maxRecDepth 1000000 in
theorem ck_255_t47 : ab_smP tb_X11_shadows (ab_ev2 ab_ME2 1000000 5) 1000000 (some .int) 0 0 sm_255 47 = true := by decide +kernel
set_option maxRecDepth 1000000 in
theorem ck_255_t48 : ab_smP tb_X11_shadows (ab_ev2 ab_ME2 1000000 5) 1000000 (some .int) 0 0 sm_255 48 = true := by decide +kernel
set_option maxRecDepth 1000000 in
theorem ck_255_t49 : ab_smP tb_X11_shadows (ab_ev2 ab_ME2 1000000 5) 1000000 (some .int) 0 0 sm_255 49 = true := by decide +kernel
set_option maxRecDepth 1000000 in
theorem ck_255_t50 : ab_smP tb_X11_shadows (ab_ev2 ab_ME2 1000000 5) 1000000 (some .int) 0 0 sm_255 50 = true := by decide +kernel
set_option maxRecDepth 1000000 in
theorem ck_255_t51 : ab_smP tb_X11_shadows (ab_ev2 ab_ME2 1000000 5) 1000000 (some .int) 0 0 sm_255 51 = true := by decide +kernel
set_option maxRecDepth 1000000 in
theorem ck_255_t52 : ab_smP tb_X11_shadows (ab_ev2 ab_ME2 1000000 5) 1000000 (some .int) 0 0 sm_255 52 = true := by decide +kernel
set_option maxRecDepth 1000000 in
theorem ck_255_t53 : ab_smP tb_X11_shadows (ab_ev2 ab_ME2 1000000 5) 1000000 (some .int) 0 0 sm_255 53 = true := by decide +kernel
set_option maxRecDepth 1000000 in
theorem ck_255_t54 : ab_smP tb_X11_shadows (ab_ev2 ab_ME2 1000000 5) 1000000 (some .int) 0 0 sm_255 54 = true := by decide +kernel
set_option maxRecDepth 1000000 in
theorem ck_255_t55 : ab_smP tb_X11_shadows (ab_ev2 ab_ME2 1000000 5) 1000000 (some .int) 0 0 sm_255 55 = true := by decide +kernel
set_option maxRecDepth 1000000 in
theorem ck_255_t56 : ab_smP tb_X11_shadows (ab_ev2 ab_ME2 1000000 5) 1000000 (some .int) 0 0 sm_255 56 = true := by decide +kernel
set_option maxRecDepth 1000000 in
theorem ck_255_t57 : ab_smP tb_X11_shadows (ab_ev2 ab_ME2 1000000 5) 1000000 (some .int) 0 0 sm_255 57 = true := by decide +kernel
set_option maxRecDepth 1000000 in
theorem ck_255_t58 : ab_smP tb_X11_shadows (ab_ev2 ab_ME2 1000000 5) 1000000 (some .int) 0 0 sm_255 58 = true := by decide +kernel
set_option maxRecDepth 1000000 in
theorem ck_255_t59 : ab_smP tb_X11_shadows (ab_ev2 ab_ME2 1000000 5) 1000000 (some .int) 0 0 sm_255 59 = true := by decide +kernel
set_option maxRecDepth 1000000 in
theorem ck_255_t60 : ab_smP tb_X11_shadows (ab_ev2 ab_ME2 1000000 5) 1000000 (some .int) 0 0 sm_255 60 = true := by decide +kernel
set_option maxRecDepth 1000000 in
theorem ck_255_t61 : ab_smP tb_X11_shadows (ab_ev2 ab_ME2 1000000 5) 1000000 (some .int) 0 0 sm_255 61 = true := by decide +kernel
set_option maxRecDepth 1000000 in
theorem ck_255_t62 : ab_smP tb_X11_shadows (ab_ev2 ab_ME2 1000000 5) 1000000 (some .int) 0 0 sm_255 62 = true := by decide +kernel
set_option maxRecDepth 1000000 in
theorem ck_255_t63 : ab_smP tb_X11_shadows (ab_ev2 ab_ME2 1000000 5) 1000000 (some .int) 0 0 sm_255 63 = true := by decide +kernel
set_option maxRecDepth 1000000 in
theorem ck_255_t64 : ab_smP tb_X11_shadows (ab_ev2 ab_ME2 1000000 5) 1000000 (some .int) 0 0 sm_255 64 = true := by decide +kernel
set_option maxRecDepth 1000000 in
theorem ck_255_t65 : ab_smP tb_X11_shadows (ab_ev2 ab_ME2 1000000 5) 1000000 (some .int) 0 0 sm_255 65 = true := by decide +kernel
set_option maxRecDepth 1000000 in
theorem ck_255_t66 : ab_smP tb_X11_shadows (ab_ev2 ab_ME2 1000000 5) 1000000 (some .int) 0 0 sm_255 66 = true := by decide +kernel
set_option maxRecDepth 1000000 in
theorem ck_255_t67 : ab_smP tb_X11_shadows (ab_ev2 ab_ME2 1000000 5) 1000000 (some .int) 0 0 sm_255 67 = true := by decide +kernel
set_option maxRecDepth 1000000 in
theorem ck_255_t68 : ab_smP tb_X11_shadows (ab_ev2 ab_ME2 1000000 5) 1000000 (some .int) 0 0 sm_255 68 = true := by decide +kernel
set_option maxRecDepth 1000000 in
theorem ck_255_t69 : ab_smP tb_X11_shadows (ab_ev2 ab_ME2 1000000 5) 1000000 (some .int) 0 0 sm_255 69 = true := by decide +kernel
set_option maxRecDepth 1000000 in
theorem ck_255_t70 : ab_smP tb_X11_shadows (ab_ev2 ab_ME2 1000000 5) 1000000 (some .int) 0 0 sm_255 70 = true := by decide +kernel
set_option maxRecDepth 1000000 in
theorem ck_255_t71 : ab_smP tb_X11_shadows (ab_ev2 ab_ME2 1000000 5) 1000000 (some .int) 0 0 sm_255 71 = true := by decide +kernel
set_option maxRecDepth 1000000 in
theorem ck_255_t72 : ab_smP tb_X11_shadows (ab_ev2 ab_ME2 1000000 5) 1000000 (some .int) 0 0 sm_255 72 = true := by decide +kernel
set_option maxRecDepth 1000000 in
theorem ck_255_t73 : ab_smP tb_X11_shadows (ab_ev2 ab_ME2 1000000 5) 1000000 (some .int) 0 0 sm_255 73 = true := by decide +kernel
set_option maxRecDepth 1000000 in
theorem ck_255_t74 : ab_smP tb_X11_shadows (ab_ev2 ab_ME2 1000000 5) 1000000 (some .int) 0 0 sm_255 74 = true := by decide +kernel
set_option maxRecDepth 1000000 in
theorem ck_255_t75 : ab_smP tb_X11_shadows (ab_ev2 ab_ME2 1000000 5) 1000000 (some .int) 0 0 sm_255 75 = true := by decide +kernel
theorem ck_255 : ab_smC tb_X11_shadows (ab_ev2 ab_ME2 1000000 5) 1000000 (some .int) 0 0 0 sm_255 = true := ab_smC_of 76 rfl ck_255_e (fun i hi => (show ∀ j ∈ List.range 76, ab_smP tb_X11_shadows (ab_ev2 ab_ME2 1000000 5) 1000000 (some .int) 0 0 sm_255 j = true from by
    have e : List.range 76 = [0, 1, 2, 3, 4, 5, 6, 7, 8, 9, 10, 11, 12, 13, 14, 15, 16, 17, 18, 19, 20, 21, 22, 23, 24, 25, 26, 27, 28, 29, 30, 31, 32, 33, 34, 35, 36, 37, 38, 39, 40, 41, 42, 43, 44, 45, 46, 47, 48, 49, 50, 51, 52, 53, 54, 55, 56, 57, 58, 59, 60, 61, 62, 63, 64, 65, 66, 67, 68, 69, 70, 71, 72, 73, 74, 75] := by decide
    rw [e]
    exact List.forall_mem_cons.mpr ⟨ck_255_t0, List.forall_mem_cons.mpr ⟨ck_255_t1, List.forall_mem_cons.mpr ⟨ck_255_t2, List.forall_mem_cons.mpr ⟨ck_255_t3, List.forall_mem_cons.mpr ⟨ck_255_t4, List.forall_mem_cons.mpr ⟨ck_255_t5, List.forall_mem_cons.mpr ⟨ck_255_t6, List.forall_mem_cons.mpr ⟨ck_255_t7, List.forall_mem_cons.mpr ⟨ck_255_t8, List.forall_mem_cons.mpr ⟨ck_255_t9, List.forall_mem_cons.mpr ⟨ck_255_t10, List.forall_mem_cons.mpr ⟨ck_255_t11, List.forall_mem_cons.mpr ⟨ck_255_t12, List.forall_mem_cons.mpr ⟨ck_255_t13, List.forall_mem_cons.mpr ⟨ck_255_t14, List.forall_mem_cons.mpr ⟨ck_255_t15, List.forall_mem_cons.mpr ⟨ck_255_t16, List.forall_mem_cons.mpr ⟨ck_255_t17, List.forall_mem_cons.mpr ⟨ck_255_t18, List.forall_mem_cons.mpr ⟨ck_255_t19, List.forall_mem_cons.mpr ⟨ck_255_t20, List.forall_mem_cons.mpr ⟨ck_255_t21, List.forall_mem_cons.mpr ⟨ck_255_t22, List.forall_mem_cons.mpr ⟨ck_255_t23, List.forall_mem_cons.mpr ⟨ck_255_t24, List.forall_mem_cons.mpr ⟨ck_255_t25, List.forall_mem_cons.mpr ⟨ck_255_t26, List.forall_mem_cons.mpr ⟨ck_255_t27, List.forall_mem_cons.mpr ⟨ck_255_t28, List.forall_mem_cons.mpr ⟨ck_255_t29, List.forall_mem_cons.mpr ⟨ck_255_t30, List.forall_mem_cons.mpr ⟨ck_255_t31, List.forall_mem_cons.mpr ⟨ck_255_t32, List.forall_mem_cons.mpr ⟨ck_255_t33, List.forall_mem_cons.mpr ⟨ck_255_t34, List.forall_mem_cons.mpr ⟨ck_255_t35, List.forall_mem_cons.mpr ⟨ck_255_t36, List.forall_mem_cons.mpr ⟨ck_255_t37, List.forall_mem_cons.mpr ⟨ck_255_t38, List.forall_mem_cons.mpr ⟨ck_255_t39, List.forall_mem_cons.mpr ⟨ck_255_t40, List.forall_mem_cons.mpr ⟨ck_255_t41, List.forall_mem_cons.mpr ⟨ck_255_t42, List.forall_mem_cons.mpr ⟨ck_255_t43, List.forall_mem_cons.mpr ⟨ck_255_t44, List.forall_mem_cons.mpr ⟨ck_255_t45, List.forall_mem_cons.mpr ⟨ck_255_t46, List.forall_mem_cons.mpr ⟨ck_255_t47, List.forall_mem_cons.mpr ⟨ck_255_t48, List.forall_mem_cons.mpr ⟨ck_255_t49, List.forall_mem_cons.mpr ⟨ck_255_t50, List.forall_mem_cons.mpr ⟨ck_255_t51, List.forall_mem_cons.mpr ⟨ck_255_t52, List.forall_mem_cons.mpr ⟨ck_255_t53, List.forall_mem_cons.mpr ⟨ck_255_t54, List.forall_mem_cons.mpr ⟨ck_255_t55, List.forall_mem_cons.mpr ⟨ck_255_t56, List.forall_mem_cons.mpr ⟨ck_255_t57, List.forall_mem_cons.mpr ⟨ck_255_t58, List.forall_mem_cons.mpr ⟨ck_255_t59, List.forall_mem_cons.mpr ⟨ck_255_t60, List.forall_mem_cons.mpr ⟨ck_255_t61, List.forall_mem_cons.mpr ⟨ck_255_t62, List.forall_mem_cons.mpr ⟨ck_255_t63, List.forall_mem_cons.mpr ⟨ck_255_t64, List.forall_mem_cons.mpr ⟨ck_255_t65, List.forall_mem_cons.mpr ⟨ck_255_t66, List.forall_mem_cons.mpr ⟨ck_255_t67, List.forall_mem_cons.mpr ⟨ck_255_t68, List.forall_mem_cons.mpr ⟨ck_255_t69, List.forall_mem_cons.mpr ⟨ck_255_t70, List.forall_mem_cons.mpr ⟨ck_255_t71, List.forall_mem_cons.mpr ⟨ck_255_t72, List.forall_mem_cons.mpr ⟨ck_255_t73, List.forall_mem_cons.mpr ⟨ck_255_t74, List.forall_mem_cons.mpr ⟨ck_255_t75, fun _ h => nomatch h⟩⟩⟩⟩⟩⟩⟩⟩⟩⟩⟩⟩⟩⟩⟩⟩⟩⟩⟩⟩⟩⟩⟩⟩⟩⟩⟩⟩⟩⟩⟩⟩⟩⟩⟩⟩⟩⟩⟩⟩⟩⟩⟩⟩⟩⟩⟩⟩⟩⟩⟩⟩⟩⟩⟩⟩⟩⟩⟩⟩⟩⟩⟩⟩⟩⟩⟩⟩⟩⟩⟩⟩⟩⟩⟩⟩) i (List.mem_range.mpr hi))
set_option maxRecDepth 1000000 in
theorem ck_256 : ab_smC tb_X11_worst (ab_ev2 ab_ME2 1000000 5) 1000000 (some .int) 0 0 0 sm_256 = true := by decide +kernel
set_option maxRecDepth 1000000 in
theorem ck_257 : ab_smC tb_X3_write (ab_ev2 ab_ME2 1000000 5) 1000000 (none) 0 0 0 sm_257 = true := by decide +kernel
set_option maxRecDepth 1000000 in
theorem ck_258 : ab_smC tb_X5_search (ab_ev2 ab_ME2 1000000 5) 1000000 (none) 0 0 0 sm_258 = true := by decide +kernel
set_option maxRecDepth 1000000 in
theorem ck_259 : ab_smC tb_X5_search (ab_ev2 ab_ME2 1000000 5) 1000000 (none) 0 0 0 sm_259 = true := by decide +kernel
set_option maxRecDepth 1000000 in
theorem ck_260 : ab_smC tb_X6_readOne (ab_ev2 ab_ME2 1000000 5) 1000000 (some .boolean) 0 0 0 sm_260 = true := by decide +kernel
set_option maxRecDepth 1000000 in
theorem ck_261 : ab_smC tb_X6_readOne (ab_ev2 ab_ME2 1000000 5) 1000000 (some .boolean) 0 0 0 sm_261 = true := by decide +kernel
set_option maxRecDepth 1000000 in
theorem ck_262 : ab_smC tb_X6_readOne (ab_ev2 ab_ME2 1000000 5) 1000000 (some .boolean) 0 0 0 sm_262 = true := by decide +kernel
set_option maxRecDepth 1000000 in
theorem ck_263 : ab_smC tb_X6_readOne (ab_ev2 ab_ME2 1000000 5) 1000000 (some .boolean) 0 0 0 sm_263 = true := by decide +kernel
set_option maxRecDepth 1000000 in
theorem ck_264 : ab_smC tb_X9_readLine (ab_ev2 ab_ME2 1000000 5) 1000000 (some .boolean) 0 0 0 sm_264 = true := by decide +kernel
set_option maxRecDepth 1000000 in
theorem ck_265 : ab_smC tb_X9_readLine (ab_ev2 ab_ME2 1000000 5) 1000000 (some .boolean) 0 0 0 sm_265 = true := by decide +kernel
set_option maxRecDepth 1000000 in
theorem ck_266 : ab_smC tb_X0_live (ab_ev2 ab_ME2 1000000 6) 1000000 (some .int) 0 0 0 sm_266 = true := by decide +kernel
set_option maxRecDepth 1000000 in
theorem ck_267 : ab_smC tb_X0_live (ab_ev2 ab_ME2 1000000 6) 1000000 (some .int) 0 0 0 sm_267 = true := by decide +kernel
set_option maxRecDepth 1000000 in
theorem ck_268 : ab_smC tb_X10_motto (ab_ev2 ab_ME2 1000000 6) 1000000 (some .int) 0 0 0 sm_268 = true := by decide +kernel
set_option maxRecDepth 1000000 in
theorem ck_269_e : ab_smE tb_X11_book (ab_ev2 ab_ME2 1000000 6) 1000000 (some .int) 0 0 0 sm_269 = true := by decide +kernel
set_option maxRecDepth 1000000 in
theorem ck_269_t0 : ab_smP tb_X11_book (ab_ev2 ab_ME2 1000000 6) 1000000 (some .int) 0 0 sm_269 0 = true := by decide +kernel
set_option maxRecDepth 1000000 in
theorem ck_269_t1 : ab_smP tb_X11_book (ab_ev2 ab_ME2 1000000 6) 1000000 (some .int) 0 0 sm_269 1 = true := by decide +kernel
set_option maxRecDepth 1000000 in
theorem ck_269_t2_h : ab_smQ tb_X11_book (ab_ev2 ab_ME2 1000000 6) sm_269 2 (kk_hd tb_X11_book (ab_ev2 ab_ME2 1000000 6) (some .int) 0 0 sm_269.2.2.1 0 41) = true := by decide +kernel
set_option maxRecDepth 1000000 in
theorem ck_269_t2_0 : ab_smQ tb_X11_book (ab_ev2 ab_ME2 1000000 6) sm_269 2 (kk_sl tb_X11_book (ab_ev2 ab_ME2 1000000 6) 20000 (some .int) 0 0 sm_269.2.2.1 0 0 12) = true := by decide +kernel
