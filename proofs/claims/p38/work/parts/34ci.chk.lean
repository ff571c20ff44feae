/-! The contexts are right. -/
set_option maxRecDepth 1000000 in
theorem ck_206_t2_16 : ab_smQ tb_X11_sentence (ab_ev2 ab_ME2 1000000 4) sm_206 2 (kk_sl tb_X11_sentence (ab_ev2 ab_ME2 1000000 4) 20000 (some .int) 0 0 sm_206.2.2.1 2 38 1) = true := by decide +kernel
theorem ck_206_t2 : ab_smP tb_X11_sentence (ab_ev2 ab_ME2 1000000 4) 1000000 (some .int) 0 0 sm_206 2 = true := ab_tpl_sl (F := 20000) (k := 2) (N := 39) (L := [(0, 10), (10, 4), (14, 3), (17, 3), (20, 2), (22, 2), (24, 2), (26, 2), (28, 2), (30, 2), (32, 1), (33, 1), (34, 1), (35, 1), (36, 1), (37, 1), (38, 1)]) (by decide +kernel) (by decide) ck_206_t2_h (List.forall_mem_cons.mpr ⟨ck_206_t2_0, List.forall_mem_cons.mpr ⟨ck_206_t2_1, List.forall_mem_cons.mpr ⟨ck_206_t2_2, List.forall_mem_cons.mpr ⟨ck_206_t2_3, List.forall_mem_cons.mpr ⟨ck_206_t2_4, List.forall_mem_cons.mpr ⟨ck_206_t2_5, List.forall_mem_cons.mpr ⟨ck_206_t2_6, List.forall_mem_cons.mpr ⟨ck_206_t2_7, List.forall_mem_cons.mpr ⟨ck_206_t2_8, List.forall_mem_cons.mpr ⟨ck_206_t2_9, List.forall_mem_cons.mpr ⟨ck_206_t2_10, List.forall_mem_cons.mpr ⟨ck_206_t2_11, List.forall_mem_cons.mpr ⟨ck_206_t2_12, List.forall_mem_cons.mpr ⟨ck_206_t2_13, List.forall_mem_cons.mpr ⟨ck_206_t2_14, List.forall_mem_cons.mpr ⟨ck_206_t2_15, List.forall_mem_cons.mpr ⟨ck_206_t2_16, fun _ h => nomatch h⟩⟩⟩⟩⟩⟩⟩⟩⟩⟩⟩⟩⟩⟩⟩⟩⟩)
theorem ck_206 : ab_smC tb_X11_sentence (ab_ev2 ab_ME2 1000000 4) 1000000 (some .int) 0 0 0 sm_206 = true := ab_smC_of 3 rfl ck_206_e (fun i hi => (show ∀ j ∈ List.range 3, ab_smP tb_X11_sentence (ab_ev2 ab_ME2 1000000 4) 1000000 (some .int) 0 0 sm_206 j = true from by
    have e : List.range 3 = [0, 1, 2] := by decide
    rw [e]
    exact List.forall_mem_cons.mpr ⟨ck_206_t0, List.forall_mem_cons.mpr ⟨ck_206_t1, List.forall_mem_cons.mpr ⟨ck_206_t2, fun _ h => nomatch h⟩⟩⟩) i (List.mem_range.mpr hi))
set_option maxRecDepth 1000000 in
theorem ck_207 : ab_smC tb_X11_town (ab_ev2 ab_ME2 1000000 4) 1000000 (some .int) 0 0 0 sm_207 = true := by decide +kernel
set_option maxRecDepth 1000000 in
theorem ck_208 : ab_smC tb_X3_put (ab_ev2 ab_ME2 1000000 4) 1000000 (none) 0 0 0 sm_208 = true := by decide +kernel
set_option maxRecDepth 1000000 in
theorem ck_209 : ab_smC tb_X3_put (ab_ev2 ab_ME2 1000000 4) 1000000 (none) 0 0 0 sm_209 = true := by decide +kernel
set_option maxRecDepth 1000000 in
theorem ck_210 : ab_smC tb_X3_put (ab_ev2 ab_ME2 1000000 4) 1000000 (none) 0 0 0 sm_210 = true := by decide +kernel
set_option maxRecDepth 1000000 in
theorem ck_211 : ab_smC tb_X3_put (ab_ev2 ab_ME2 1000000 4) 1000000 (none) 0 0 0 sm_211 = true := by decide +kernel
set_option maxRecDepth 1000000 in
theorem ck_212 : ab_smC tb_X3_put (ab_ev2 ab_ME2 1000000 4) 1000000 (none) 0 0 0 sm_212 = true := by decide +kernel
set_option maxRecDepth 1000000 in
theorem ck_213 : ab_smC tb_X5_search (ab_ev2 ab_ME2 1000000 4) 1000000 (none) 0 0 0 sm_213 = true := by decide +kernel
set_option maxRecDepth 1000000 in
theorem ck_214 : ab_smC tb_X5_search (ab_ev2 ab_ME2 1000000 4) 1000000 (none) 0 0 0 sm_214 = true := by decide +kernel
set_option maxRecDepth 1000000 in
theorem ck_215 : ab_smC tb_X6_holds (ab_ev2 ab_ME2 1000000 4) 1000000 (some .boolean) 0 0 0 sm_215 = true := by decide +kernel
set_option maxRecDepth 1000000 in
theorem ck_216 : ab_smC tb_X6_holds (ab_ev2 ab_ME2 1000000 4) 1000000 (some .boolean) 0 0 0 sm_216 = true := by decide +kernel
set_option maxRecDepth 1000000 in
theorem ck_217 : ab_smC tb_X6_holds (ab_ev2 ab_ME2 1000000 4) 1000000 (some .boolean) 0 0 0 sm_217 = true := by decide +kernel
set_option maxRecDepth 1000000 in
theorem ck_218 : ab_smC tb_X6_holds (ab_ev2 ab_ME2 1000000 4) 1000000 (some .boolean) 0 0 0 sm_218 = true := by decide +kernel
set_option maxRecDepth 1000000 in
theorem ck_219 : ab_smC tb_X6_readPlain (ab_ev2 ab_ME2 1000000 4) 1000000 (some .boolean) 0 0 0 sm_219 = true := by decide +kernel
set_option maxRecDepth 1000000 in
theorem ck_220 : ab_smC tb_X6_readPlain (ab_ev2 ab_ME2 1000000 4) 1000000 (some .boolean) 0 0 0 sm_220 = true := by decide +kernel
set_option maxRecDepth 1000000 in
theorem ck_221 : ab_smC tb_X6_readPlain (ab_ev2 ab_ME2 1000000 4) 1000000 (some .boolean) 0 0 0 sm_221 = true := by decide +kernel
set_option maxRecDepth 1000000 in
theorem ck_222 : ab_smC tb_X6_readPlain (ab_ev2 ab_ME2 1000000 4) 1000000 (some .boolean) 0 0 0 sm_222 = true := by decide +kernel
set_option maxRecDepth 1000000 in
theorem ck_223 : ab_smC tb_X7_drawDays (ab_ev2 ab_ME2 1000000 4) 1000000 (none) 0 0 0 sm_223 = true := by decide +kernel
set_option maxRecDepth 1000000 in
theorem ck_224 : ab_smC tb_X7_drawDays (ab_ev2 ab_ME2 1000000 4) 1000000 (none) 0 0 0 sm_224 = true := by decide +kernel
set_option maxRecDepth 1000000 in
theorem ck_225 : ab_smC tb_X7_drawDays (ab_ev2 ab_ME2 1000000 4) 1000000 (none) 0 0 0 sm_225 = true := by decide +kernel
set_option maxRecDepth 1000000 in
theorem ck_226 : ab_smC tb_X7_drawDays (ab_ev2 ab_ME2 1000000 4) 1000000 (none) 0 0 0 sm_226 = true := by decide +kernel
set_option maxRecDepth 1000000 in
theorem ck_227 : ab_smC tb_X7_passDays (ab_ev2 ab_ME2 1000000 4) 1000000 (none) 0 0 0 sm_227 = true := by decide +kernel
set_option maxRecDepth 1000000 in
theorem ck_228 : ab_smC tb_X7_passDays (ab_ev2 ab_ME2 1000000 4) 1000000 (none) 0 0 0 sm_228 = true := by decide +kernel
set_option maxRecDepth 1000000 in
theorem ck_229 : ab_smC tb_X7_passDays (ab_ev2 ab_ME2 1000000 4) 1000000 (none) 0 0 0 sm_229 = true := by decide +kernel
set_option maxRecDepth 1000000 in
theorem ck_230 : ab_smC tb_X7_passDays (ab_ev2 ab_ME2 1000000 4) 1000000 (none) 0 0 0 sm_230 = true := by decide +kernel
set_option maxRecDepth 1000000 in
theorem ck_231 : ab_smC tb_X9_readSetting (ab_ev2 ab_ME2 1000000 4) 1000000 (some .boolean) 0 0 0 sm_231 = true := by decide +kernel
set_option maxRecDepth 1000000 in
theorem ck_232 : ab_smC tb_X9_readSetting (ab_ev2 ab_ME2 1000000 4) 1000000 (some .boolean) 0 0 0 sm_232 = true := by decide +kernel
set_option maxRecDepth 1000000 in
theorem ck_233 : ab_smC tb_X9_readTerm (ab_ev2 ab_ME2 1000000 4) 1000000 (some .boolean) 0 0 0 sm_233 = true := by decide +kernel
set_option maxRecDepth 1000000 in
theorem ck_234 : ab_smC tb_X9_readTerm (ab_ev2 ab_ME2 1000000 4) 1000000 (some .boolean) 0 0 0 sm_234 = true := by decide +kernel
set_option maxRecDepth 1000000 in
theorem ck_235 : ab_smC tb_X9_readTown (ab_ev2 ab_ME2 1000000 4) 1000000 (some .boolean) 0 0 0 sm_235 = true := by decide +kernel
set_option maxRecDepth 1000000 in
theorem ck_236 : ab_smC tb_X9_readTown (ab_ev2 ab_ME2 1000000 4) 1000000 (some .boolean) 0 0 0 sm_236 = true := by decide +kernel
set_option maxRecDepth 1000000 in
theorem ck_237 : ab_smC tb_X9_readTrain (ab_ev2 ab_ME2 1000000 4) 1000000 (some .boolean) 0 0 0 sm_237 = true := by decide +kernel
set_option maxRecDepth 1000000 in
theorem ck_238 : ab_smC tb_X9_readTrain (ab_ev2 ab_ME2 1000000 4) 1000000 (some .boolean) 0 0 0 sm_238 = true := by decide +kernel
set_option maxRecDepth 1000000 in
theorem ck_239 : ab_smC tb_X0_liveDays (ab_ev2 ab_ME2 1000000 5) 1000000 (some .int) 0 0 0 sm_239 = true := by decide +kernel
set_option maxRecDepth 1000000 in
theorem ck_240 : ab_smC tb_X0_liveDays (ab_ev2 ab_ME2 1000000 5) 1000000 (some .int) 0 0 0 sm_240 = true := by decide +kernel
set_option maxRecDepth 1000000 in
theorem ck_241 : ab_smC tb_X0_read (ab_ev2 ab_ME2 1000000 5) 1000000 (some .boolean) 0 0 0 sm_241 = true := by decide +kernel
set_option maxRecDepth 1000000 in
theorem ck_242 : ab_smC tb_X0_read (ab_ev2 ab_ME2 1000000 5) 1000000 (some .boolean) 0 0 0 sm_242 = true := by decide +kernel
set_option maxRecDepth 1000000 in
theorem ck_243 : ab_smC tb_X10_days (ab_ev2 ab_ME2 1000000 5) 1000000 (some .int) 0 0 0 sm_243 = true := by decide +kernel
set_option maxRecDepth 1000000 in
theorem ck_244 : ab_smC tb_X10_drawn (ab_ev2 ab_ME2 1000000 5) 1000000 (some .int) 0 0 0 sm_244 = true := by decide +kernel
set_option maxRecDepth 1000000 in
theorem ck_245 : ab_smC tb_X10_odds (ab_ev2 ab_ME2 1000000 5) 1000000 (some .int) 0 0 0 sm_245 = true := by decide +kernel
set_option maxRecDepth 1000000 in
theorem ck_246 : ab_smC tb_X10_said (ab_ev2 ab_ME2 1000000 5) 1000000 (some .int) 0 0 0 sm_246 = true := by decide +kernel
set_option maxRecDepth 1000000 in
theorem ck_247 : ab_smC tb_X10_worst (ab_ev2 ab_ME2 1000000 5) 1000000 (some .int) 0 0 0 sm_247 = true := by decide +kernel
set_option maxRecDepth 1000000 in
theorem ck_248_e_h : ab_smR sm_248 (kk_hd tb_X11_days (ab_ev2 ab_ME2 1000000 5) (some .int) 0 0 sm_248.2.2.1 14 5) = true := by decide +kernel
set_option maxRecDepth 1000000 in
theorem ck_248_e_0 : ab_smR sm_248 (kk_sl tb_X11_days (ab_ev2 ab_ME2 1000000 5) 20000 (some .int) 0 0 sm_248.2.2.1 14 0 1) = true := by decide +kernel
set_option maxRecDepth 1000000 in
theorem ck_248_e_1 : ab_smR sm_248 (kk_sl tb_X11_days (ab_ev2 ab_ME2 1000000 5) 20000 (some .int) 0 0 sm_248.2.2.1 14 1 1) = true := by decide +kernel
set_option maxRecDepth 1000000 in
theorem ck_248_e_2 : ab_smR sm_248 (kk_sl tb_X11_days (ab_ev2 ab_ME2 1000000 5) 20000 (some .int) 0 0 sm_248.2.2.1 14 2 3) = true := by decide +kernel
set_option maxRecDepth 1000000 in
theorem ck_248_e : ab_smE tb_X11_days (ab_ev2 ab_ME2 1000000 5) 1000000 (some .int) 0 0 0 sm_248 = true := ab_ent_sl (F := 20000) (k := 14) (N := 5) (L := [(0, 1), (1, 1), (2, 3)]) (by decide +kernel) (by decide) ck_248_e_h (List.forall_mem_cons.mpr ⟨ck_248_e_0, List.forall_mem_cons.mpr ⟨ck_248_e_1, List.forall_mem_cons.mpr ⟨ck_248_e_2, fun _ h => nomatch h⟩⟩⟩) (by decide +kernel)
theorem ck_248 : ab_smC tb_X11_days (ab_ev2 ab_ME2 1000000 5) 1000000 (some .int) 0 0 0 sm_248 = true := ab_smC_of 0 rfl ck_248_e (fun i hi => absurd hi (Nat.not_lt_zero i))
set_option maxRecDepth 1000000 in
theorem ck_249 : ab_smC tb_X11_does (ab_ev2 ab_ME2 1000000 5) 1000000 (some .int) 0 0 0 sm_249 = true := by decide +kernel
set_option maxRecDepth 1000000 in
theorem ck_250 : ab_smC tb_X11_does (ab_ev2 ab_ME2 1000000 5) 1000000 (some .int) 0 0 0 sm_250 = true := by decide +kernel
set_option maxRecDepth 1000000 in
theorem ck_251 : ab_smC tb_X11_draws (ab_ev2 ab_ME2 1000000 5) 1000000 (some .int) 0 0 0 sm_251 = true := by decide +kernel
set_option maxRecDepth 1000000 in
theorem ck_252_e : ab_smE tb_X11_isSaid (ab_ev2 ab_ME2 1000000 5) 1000000 (some .boolean) 0 0 0 sm_252 = true := by decide +kernel
set_option maxRecDepth 1000000 in
theorem ck_252_t0 : ab_smP tb_X11_isSaid (ab_ev2 ab_ME2 1000000 5) 1000000 (some .boolean) 0 0 sm_252 0 = true := by decide +kernel
set_option maxRecDepth 1000000 in
theorem ck_252_t1_h : ab_smQ tb_X11_isSaid (ab_ev2 ab_ME2 1000000 5) sm_252 1 (kk_hd tb_X11_isSaid (ab_ev2 ab_ME2 1000000 5) (some .boolean) 0 0 sm_252.2.2.1 0 39) = true := by decide +kernel
set_option maxRecDepth 1000000 in
theorem ck_252_t1_0 : ab_smQ tb_X11_isSaid (ab_ev2 ab_ME2 1000000 5) sm_252 1 (kk_sl tb_X11_isSaid (ab_ev2 ab_ME2 1000000 5) 20000 (some .boolean) 0 0 sm_252.2.2.1 0 0 6) = true := by decide +kernel
set_option maxRecDepth 1000000 in
theorem ck_252_t1_1 : ab_smQ tb_X11_isSaid (ab_ev2 ab_ME2 1000000 5) sm_252 1 (kk_sl tb_X11_isSaid (ab_ev2 ab_ME2 1000000 5) 20000 (some .boolean) 0 0 sm_252.2.2.1 0 6 6) = true := by decide +kernel
