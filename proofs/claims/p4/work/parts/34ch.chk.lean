/-! The contexts are right. -/
set_option maxRecDepth 1000000 in
theorem ck_198_t2_5 : ab_smQ tb_X11_sentence (ab_ev2 ab_ME2 1000000 4) sm_198 2 (kk_sl tb_X11_sentence (ab_ev2 ab_ME2 1000000 4) 20000 (some .int) 0 0 sm_198.2.2.1 2 22 2) = true := by decide +kernel
set_option maxRecDepth 1000000 in
theorem ck_198_t2_6 : ab_smQ tb_X11_sentence (ab_ev2 ab_ME2 1000000 4) sm_198 2 (kk_sl tb_X11_sentence (ab_ev2 ab_ME2 1000000 4) 20000 (some .int) 0 0 sm_198.2.2.1 2 24 2) = true := by decide +kernel
set_option maxRecDepth 1000000 in
theorem ck_198_t2_7 : ab_smQ tb_X11_sentence (ab_ev2 ab_ME2 1000000 4) sm_198 2 (kk_sl tb_X11_sentence (ab_ev2 ab_ME2 1000000 4) 20000 (some .int) 0 0 sm_198.2.2.1 2 26 2) = true := by decide +kernel
set_option maxRecDepth 1000000 in
theorem ck_198_t2_8 : ab_smQ tb_X11_sentence (ab_ev2 ab_ME2 1000000 4) sm_198 2 (kk_sl tb_X11_sentence (ab_ev2 ab_ME2 1000000 4) 20000 (some .int) 0 0 sm_198.2.2.1 2 28 2) = true := by decide +kernel
set_option maxRecDepth 1000000 in
theorem ck_198_t2_9 : ab_smQ tb_X11_sentence (ab_ev2 ab_ME2 1000000 4) sm_198 2 (kk_sl tb_X11_sentence (ab_ev2 ab_ME2 1000000 4) 20000 (some .int) 0 0 sm_198.2.2.1 2 30 2) = true := by decide +kernel
set_option maxRecDepth 1000000 in
theorem ck_198_t2_10 : ab_smQ tb_X11_sentence (ab_ev2 ab_ME2 1000000 4) sm_198 2 (kk_sl tb_X11_sentence (ab_ev2 ab_ME2 1000000 4) 20000 (some .int) 0 0 sm_198.2.2.1 2 32 1) = true := by decide +kernel
set_option maxRecDepth 1000000 in
theorem ck_198_t2_11 : ab_smQ tb_X11_sentence (ab_ev2 ab_ME2 1000000 4) sm_198 2 (kk_sl tb_X11_sentence (ab_ev2 ab_ME2 1000000 4) 20000 (some .int) 0 0 sm_198.2.2.1 2 33 1) = true := by decide +kernel
set_option maxRecDepth 1000000 in
theorem ck_198_t2_12 : ab_smQ tb_X11_sentence (ab_ev2 ab_ME2 1000000 4) sm_198 2 (kk_sl tb_X11_sentence (ab_ev2 ab_ME2 1000000 4) 20000 (some .int) 0 0 sm_198.2.2.1 2 34 1) = true := by decide +kernel
set_option maxRecDepth 1000000 in
theorem ck_198_t2_13 : ab_smQ tb_X11_sentence (ab_ev2 ab_ME2 1000000 4) sm_198 2 (kk_sl tb_X11_sentence (ab_ev2 ab_ME2 1000000 4) 20000 (some .int) 0 0 sm_198.2.2.1 2 35 1) = true := by decide +kernel
set_option maxRecDepth 1000000 in
theorem ck_198_t2_14 : ab_smQ tb_X11_sentence (ab_ev2 ab_ME2 1000000 4) sm_198 2 (kk_sl tb_X11_sentence (ab_ev2 ab_ME2 1000000 4) 20000 (some .int) 0 0 sm_198.2.2.1 2 36 1) = true := by decide +kernel
set_option maxRecDepth 1000000 in
theorem ck_198_t2_15 : ab_smQ tb_X11_sentence (ab_ev2 ab_ME2 1000000 4) sm_198 2 (kk_sl tb_X11_sentence (ab_ev2 ab_ME2 1000000 4) 20000 (some .int) 0 0 sm_198.2.2.1 2 37 1) = true := by decide +kernel
set_option maxRecDepth 1000000 in
theorem ck_198_t2_16 : ab_smQ tb_X11_sentence (ab_ev2 ab_ME2 1000000 4) sm_198 2 (kk_sl tb_X11_sentence (ab_ev2 ab_ME2 1000000 4) 20000 (some .int) 0 0 sm_198.2.2.1 2 38 1) = true := by decide +kernel
theorem ck_198_t2 : ab_smP tb_X11_sentence (ab_ev2 ab_ME2 1000000 4) 1000000 (some .int) 0 0 sm_198 2 = true := ab_tpl_sl (F := 20000) (k := 2) (N := 39) (L := [(0, 10), (10, 4), (14, 3), (17, 3), (20, 2), (22, 2), (24, 2), (26, 2), (28, 2), (30, 2), (32, 1), (33, 1), (34, 1), (35, 1), (36, 1), (37, 1), (38, 1)]) (by decide +kernel) (by decide) ck_198_t2_h (List.forall_mem_cons.mpr ⟨ck_198_t2_0, List.forall_mem_cons.mpr ⟨ck_198_t2_1, List.forall_mem_cons.mpr ⟨ck_198_t2_2, List.forall_mem_cons.mpr ⟨ck_198_t2_3, List.forall_mem_cons.mpr ⟨ck_198_t2_4, List.forall_mem_cons.mpr ⟨ck_198_t2_5, List.forall_mem_cons.mpr ⟨ck_198_t2_6, List.forall_mem_cons.mpr ⟨ck_198_t2_7, List.forall_mem_cons.mpr ⟨ck_198_t2_8, List.forall_mem_cons.mpr ⟨ck_198_t2_9, List.forall_mem_cons.mpr ⟨ck_198_t2_10, List.forall_mem_cons.mpr ⟨ck_198_t2_11, List.forall_mem_cons.mpr ⟨ck_198_t2_12, List.forall_mem_cons.mpr ⟨ck_198_t2_13, List.forall_mem_cons.mpr ⟨ck_198_t2_14, List.forall_mem_cons.mpr ⟨ck_198_t2_15, List.forall_mem_cons.mpr ⟨ck_198_t2_16, fun _ h => nomatch h⟩⟩⟩⟩⟩⟩⟩⟩⟩⟩⟩⟩⟩⟩⟩⟩⟩)
theorem ck_198 : ab_smC tb_X11_sentence (ab_ev2 ab_ME2 1000000 4) 1000000 (some .int) 0 0 0 sm_198 = true := ab_smC_of 3 rfl ck_198_e (fun i hi => (show ∀ j ∈ List.range 3, ab_smP tb_X11_sentence (ab_ev2 ab_ME2 1000000 4) 1000000 (some .int) 0 0 sm_198 j = true from by
    have e : List.range 3 = [0, 1, 2] := by decide
    rw [e]
    exact List.forall_mem_cons.mpr ⟨ck_198_t0, List.forall_mem_cons.mpr ⟨ck_198_t1, List.forall_mem_cons.mpr ⟨ck_198_t2, fun _ h => nomatch h⟩⟩⟩) i (List.mem_range.mpr hi))
set_option maxRecDepth 1000000 in
theorem ck_199 : ab_smC tb_X11_town (ab_ev2 ab_ME2 1000000 4) 1000000 (some .int) 0 0 0 sm_199 = true := by decide +kernel
set_option maxRecDepth 1000000 in
theorem ck_200 : ab_smC tb_X3_put (ab_ev2 ab_ME2 1000000 4) 1000000 (none) 0 0 0 sm_200 = true := by decide +kernel
set_option maxRecDepth 1000000 in
theorem ck_201 : ab_smC tb_X3_put (ab_ev2 ab_ME2 1000000 4) 1000000 (none) 0 0 0 sm_201 = true := by decide +kernel
set_option maxRecDepth 1000000 in
theorem ck_202 : ab_smC tb_X3_put (ab_ev2 ab_ME2 1000000 4) 1000000 (none) 0 0 0 sm_202 = true := by decide +kernel
set_option maxRecDepth 1000000 in
theorem ck_203 : ab_smC tb_X3_put (ab_ev2 ab_ME2 1000000 4) 1000000 (none) 0 0 0 sm_203 = true := by decide +kernel
set_option maxRecDepth 1000000 in
theorem ck_204 : ab_smC tb_X3_put (ab_ev2 ab_ME2 1000000 4) 1000000 (none) 0 0 0 sm_204 = true := by decide +kernel
set_option maxRecDepth 1000000 in
theorem ck_205 : ab_smC tb_X5_search (ab_ev2 ab_ME2 1000000 4) 1000000 (none) 0 0 0 sm_205 = true := by decide +kernel
set_option maxRecDepth 1000000 in
theorem ck_206 : ab_smC tb_X5_search (ab_ev2 ab_ME2 1000000 4) 1000000 (none) 0 0 0 sm_206 = true := by decide +kernel
set_option maxRecDepth 1000000 in
theorem ck_207 : ab_smC tb_X6_holds (ab_ev2 ab_ME2 1000000 4) 1000000 (some .boolean) 0 0 0 sm_207 = true := by decide +kernel
set_option maxRecDepth 1000000 in
theorem ck_208 : ab_smC tb_X6_holds (ab_ev2 ab_ME2 1000000 4) 1000000 (some .boolean) 0 0 0 sm_208 = true := by decide +kernel
set_option maxRecDepth 1000000 in
theorem ck_209 : ab_smC tb_X6_holds (ab_ev2 ab_ME2 1000000 4) 1000000 (some .boolean) 0 0 0 sm_209 = true := by decide +kernel
set_option maxRecDepth 1000000 in
theorem ck_210 : ab_smC tb_X6_holds (ab_ev2 ab_ME2 1000000 4) 1000000 (some .boolean) 0 0 0 sm_210 = true := by decide +kernel
set_option maxRecDepth 1000000 in
theorem ck_211 : ab_smC tb_X6_readPlain (ab_ev2 ab_ME2 1000000 4) 1000000 (some .boolean) 0 0 0 sm_211 = true := by decide +kernel
set_option maxRecDepth 1000000 in
theorem ck_212 : ab_smC tb_X6_readPlain (ab_ev2 ab_ME2 1000000 4) 1000000 (some .boolean) 0 0 0 sm_212 = true := by decide +kernel
set_option maxRecDepth 1000000 in
theorem ck_213 : ab_smC tb_X6_readPlain (ab_ev2 ab_ME2 1000000 4) 1000000 (some .boolean) 0 0 0 sm_213 = true := by decide +kernel
set_option maxRecDepth 1000000 in
theorem ck_214 : ab_smC tb_X6_readPlain (ab_ev2 ab_ME2 1000000 4) 1000000 (some .boolean) 0 0 0 sm_214 = true := by decide +kernel
set_option maxRecDepth 1000000 in
theorem ck_215 : ab_smC tb_X7_drawDays (ab_ev2 ab_ME2 1000000 4) 1000000 (none) 0 0 0 sm_215 = true := by decide +kernel
set_option maxRecDepth 1000000 in
theorem ck_216 : ab_smC tb_X7_drawDays (ab_ev2 ab_ME2 1000000 4) 1000000 (none) 0 0 0 sm_216 = true := by decide +kernel
set_option maxRecDepth 1000000 in
theorem ck_217 : ab_smC tb_X7_drawDays (ab_ev2 ab_ME2 1000000 4) 1000000 (none) 0 0 0 sm_217 = true := by decide +kernel
