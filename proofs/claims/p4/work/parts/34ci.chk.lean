/-! The contexts are right. -/
set_option maxRecDepth 1000000 in
theorem ck_218 : ab_smC tb_X7_drawDays (ab_ev2 ab_ME2 1000000 4) 1000000 (none) 0 0 0 sm_218 = true := by decide +kernel
set_option maxRecDepth 1000000 in
theorem ck_219 : ab_smC tb_X7_passDays (ab_ev2 ab_ME2 1000000 4) 1000000 (none) 0 0 0 sm_219 = true := by decide +kernel
set_option maxRecDepth 1000000 in
theorem ck_220 : ab_smC tb_X7_passDays (ab_ev2 ab_ME2 1000000 4) 1000000 (none) 0 0 0 sm_220 = true := by decide +kernel
set_option maxRecDepth 1000000 in
theorem ck_221 : ab_smC tb_X7_passDays (ab_ev2 ab_ME2 1000000 4) 1000000 (none) 0 0 0 sm_221 = true := by decide +kernel
set_option maxRecDepth 1000000 in
theorem ck_222 : ab_smC tb_X7_passDays (ab_ev2 ab_ME2 1000000 4) 1000000 (none) 0 0 0 sm_222 = true := by decide +kernel
set_option maxRecDepth 1000000 in
theorem ck_223 : ab_smC tb_X9_readSetting (ab_ev2 ab_ME2 1000000 4) 1000000 (some .boolean) 0 0 0 sm_223 = true := by decide +kernel
set_option maxRecDepth 1000000 in
theorem ck_224 : ab_smC tb_X9_readSetting (ab_ev2 ab_ME2 1000000 4) 1000000 (some .boolean) 0 0 0 sm_224 = true := by decide +kernel
set_option maxRecDepth 1000000 in
theorem ck_225 : ab_smC tb_X9_readTerm (ab_ev2 ab_ME2 1000000 4) 1000000 (some .boolean) 0 0 0 sm_225 = true := by decide +kernel
set_option maxRecDepth 1000000 in
theorem ck_226 : ab_smC tb_X9_readTerm (ab_ev2 ab_ME2 1000000 4) 1000000 (some .boolean) 0 0 0 sm_226 = true := by decide +kernel
set_option maxRecDepth 1000000 in
theorem ck_227 : ab_smC tb_X9_readTown (ab_ev2 ab_ME2 1000000 4) 1000000 (some .boolean) 0 0 0 sm_227 = true := by decide +kernel
set_option maxRecDepth 1000000 in
theorem ck_228 : ab_smC tb_X9_readTown (ab_ev2 ab_ME2 1000000 4) 1000000 (some .boolean) 0 0 0 sm_228 = true := by decide +kernel
set_option maxRecDepth 1000000 in
theorem ck_229 : ab_smC tb_X9_readTrain (ab_ev2 ab_ME2 1000000 4) 1000000 (some .boolean) 0 0 0 sm_229 = true := by decide +kernel
set_option maxRecDepth 1000000 in
theorem ck_230 : ab_smC tb_X9_readTrain (ab_ev2 ab_ME2 1000000 4) 1000000 (some .boolean) 0 0 0 sm_230 = true := by decide +kernel
set_option maxRecDepth 1000000 in
theorem ck_231 : ab_smC tb_X0_liveDays (ab_ev2 ab_ME2 1000000 5) 1000000 (some .int) 0 0 0 sm_231 = true := by decide +kernel
set_option maxRecDepth 1000000 in
theorem ck_232 : ab_smC tb_X0_liveDays (ab_ev2 ab_ME2 1000000 5) 1000000 (some .int) 0 0 0 sm_232 = true := by decide +kernel
set_option maxRecDepth 1000000 in
theorem ck_233 : ab_smC tb_X0_read (ab_ev2 ab_ME2 1000000 5) 1000000 (some .boolean) 0 0 0 sm_233 = true := by decide +kernel
set_option maxRecDepth 1000000 in
theorem ck_234 : ab_smC tb_X0_read (ab_ev2 ab_ME2 1000000 5) 1000000 (some .boolean) 0 0 0 sm_234 = true := by decide +kernel
set_option maxRecDepth 1000000 in
theorem ck_235 : ab_smC tb_X10_days (ab_ev2 ab_ME2 1000000 5) 1000000 (some .int) 0 0 0 sm_235 = true := by decide +kernel
set_option maxRecDepth 1000000 in
theorem ck_236 : ab_smC tb_X10_drawn (ab_ev2 ab_ME2 1000000 5) 1000000 (some .int) 0 0 0 sm_236 = true := by decide +kernel
set_option maxRecDepth 1000000 in
theorem ck_237 : ab_smC tb_X10_odds (ab_ev2 ab_ME2 1000000 5) 1000000 (some .int) 0 0 0 sm_237 = true := by decide +kernel
set_option maxRecDepth 1000000 in
theorem ck_238 : ab_smC tb_X10_said (ab_ev2 ab_ME2 1000000 5) 1000000 (some .int) 0 0 0 sm_238 = true := by decide +kernel
set_option maxRecDepth 1000000 in
theorem ck_239 : ab_smC tb_X10_worst (ab_ev2 ab_ME2 1000000 5) 1000000 (some .int) 0 0 0 sm_239 = true := by decide +kernel
set_option maxRecDepth 1000000 in
theorem ck_240_e_h : ab_smR sm_240 (kk_hd tb_X11_days (ab_ev2 ab_ME2 1000000 5) (some .int) 0 0 sm_240.2.2.1 14 5) = true := by decide +kernel
set_option maxRecDepth 1000000 in
theorem ck_240_e_0 : ab_smR sm_240 (kk_sl tb_X11_days (ab_ev2 ab_ME2 1000000 5) 20000 (some .int) 0 0 sm_240.2.2.1 14 0 1) = true := by decide +kernel
set_option maxRecDepth 1000000 in
theorem ck_240_e_1 : ab_smR sm_240 (kk_sl tb_X11_days (ab_ev2 ab_ME2 1000000 5) 20000 (some .int) 0 0 sm_240.2.2.1 14 1 1) = true := by decide +kernel
set_option maxRecDepth 1000000 in
theorem ck_240_e_2 : ab_smR sm_240 (kk_sl tb_X11_days (ab_ev2 ab_ME2 1000000 5) 20000 (some .int) 0 0 sm_240.2.2.1 14 2 3) = true := by decide +kernel
set_option maxRecDepth 1000000 in
theorem ck_240_e : ab_smE tb_X11_days (ab_ev2 ab_ME2 1000000 5) 1000000 (some .int) 0 0 0 sm_240 = true := ab_ent_sl (F := 20000) (k := 14) (N := 5) (L := [(0, 1), (1, 1), (2, 3)]) (by decide +kernel) (by decide) ck_240_e_h (List.forall_mem_cons.mpr ⟨ck_240_e_0, List.forall_mem_cons.mpr ⟨ck_240_e_1, List.forall_mem_cons.mpr ⟨ck_240_e_2, fun _ h => nomatch h⟩⟩⟩) (by decide +kernel)
theorem ck_240 : ab_smC tb_X11_days (ab_ev2 ab_ME2 1000000 5) 1000000 (some .int) 0 0 0 sm_240 = true := ab_smC_of 0 rfl ck_240_e (fun i hi => absurd hi (Nat.not_lt_zero i))
set_option maxRecDepth 1000000 in
theorem ck_241 : ab_smC tb_X11_does (ab_ev2 ab_ME2 1000000 5) 1000000 (some .int) 0 0 0 sm_241 = true := by decide +kernel
set_option maxRecDepth 1000000 in
theorem ck_242 : ab_smC tb_X11_does (ab_ev2 ab_ME2 1000000 5) 1000000 (some .int) 0 0 0 sm_242 = true := by decide +kernel
set_option maxRecDepth 1000000 in
theorem ck_243 : ab_smC tb_X11_draws (ab_ev2 ab_ME2 1000000 5) 1000000 (some .int) 0 0 0 sm_243 = true := by decide +kernel
set_option maxRecDepth 1000000 in
theorem ck_244_e : ab_smE tb_X11_isSaid (ab_ev2 ab_ME2 1000000 5) 1000000 (some .boolean) 0 0 0 sm_244 = true := by decide +kernel
set_option maxRecDepth 1000000 in
theorem ck_244_t0 : ab_smP tb_X11_isSaid (ab_ev2 ab_ME2 1000000 5) 1000000 (some .boolean) 0 0 sm_244 0 = true := by decide +kernel
set_option maxRecDepth 1000000 in
theorem ck_244_t1_h : ab_smQ tb_X11_isSaid (ab_ev2 ab_ME2 1000000 5) sm_244 1 (kk_hd tb_X11_isSaid (ab_ev2 ab_ME2 1000000 5) (some .boolean) 0 0 sm_244.2.2.1 0 39) = true := by decide +kernel
set_option maxRecDepth 1000000 in
theorem ck_244_t1_0 : ab_smQ tb_X11_isSaid (ab_ev2 ab_ME2 1000000 5) sm_244 1 (kk_sl tb_X11_isSaid (ab_ev2 ab_ME2 1000000 5) 20000 (some .boolean) 0 0 sm_244.2.2.1 0 0 6) = true := by decide +kernel
set_option maxRecDepth 1000000 in
theorem ck_244_t1_1 : ab_smQ tb_X11_isSaid (ab_ev2 ab_ME2 1000000 5) sm_244 1 (kk_sl tb_X11_isSaid (ab_ev2 ab_ME2 1000000 5) 20000 (some .boolean) 0 0 sm_244.2.2.1 0 6 6) = true := by decide +kernel
set_option maxRecDepth 1000000 in
theorem ck_244_t1_2 : ab_smQ tb_X11_isSaid (ab_ev2 ab_ME2 1000000 5) sm_244 1 (kk_sl tb_X11_isSaid (ab_ev2 ab_ME2 1000000 5) 20000 (some .boolean) 0 0 sm_244.2.2.1 0 12 6) = true := by decide +kernel
set_option maxRecDepth 1000000 in
theorem ck_244_t1_3 : ab_smQ tb_X11_isSaid (ab_ev2 ab_ME2 1000000 5) sm_244 1 (kk_sl tb_X11_isSaid (ab_ev2 ab_ME2 1000000 5) 20000 (some .boolean) 0 0 sm_244.2.2.1 0 18 6) = true := by decide +kernel
set_option maxRecDepth 1000000 in
theorem ck_244_t1_4 : ab_smQ tb_X11_isSaid (ab_ev2 ab_ME2 1000000 5) sm_244 1 (kk_sl tb_X11_isSaid (ab_ev2 ab_ME2 1000000 5) 20000 (some .boolean) 0 0 sm_244.2.2.1 0 24 6) = true := by decide +kernel
set_option maxRecDepth 1000000 in
theorem ck_244_t1_5 : ab_smQ tb_X11_isSaid (ab_ev2 ab_ME2 1000000 5) sm_244 1 (kk_sl tb_X11_isSaid (ab_ev2 ab_ME2 1000000 5) 20000 (some .boolean) 0 0 sm_244.2.2.1 0 30 6) = true := by decide +kernel
