/-! The contexts are right. -/
set_option maxRecDepth 1000000 in
theorem ck_262_e_h : ab_smR sm_262 (kk_hd tb_X11_drawn (ab_ev2 ab_ME2 1000000 6) (some .int) 0 0 sm_262.2.2.1 26 5) = true := by decide +kernel
set_option maxRecDepth 1000000 in
theorem ck_262_e_0 : ab_smR sm_262 (kk_sl tb_X11_drawn (ab_ev2 ab_ME2 1000000 6) 20000 (some .int) 0 0 sm_262.2.2.1 26 0 5) = true := by decide +kernel
set_option maxRecDepth 1000000 in
theorem ck_262_e : ab_smE tb_X11_drawn (ab_ev2 ab_ME2 1000000 6) 1000000 (some .int) 0 0 0 sm_262 = true := ab_ent_sl (F := 20000) (k := 26) (N := 5) (L := [(0, 5)]) (by decide +kernel) (by decide) ck_262_e_h (List.forall_mem_cons.mpr ⟨ck_262_e_0, fun _ h => nomatch h⟩) (by decide +kernel)
theorem ck_262 : ab_smC tb_X11_drawn (ab_ev2 ab_ME2 1000000 6) 1000000 (some .int) 0 0 0 sm_262 = true := ab_smC_of 0 rfl ck_262_e (fun i hi => absurd hi (Nat.not_lt_zero i))
set_option maxRecDepth 1000000 in
theorem ck_263 : ab_smC tb_X11_odds (ab_ev2 ab_ME2 1000000 6) 1000000 (some .int) 0 0 0 sm_263 = true := by decide +kernel
set_option maxRecDepth 1000000 in
theorem ck_264 : ab_smC tb_X11_said (ab_ev2 ab_ME2 1000000 6) 1000000 (some .int) 0 0 0 sm_264 = true := by decide +kernel
set_option maxRecDepth 1000000 in
theorem ck_265_e : ab_smE tb_X11_valley (ab_ev2 ab_ME2 1000000 6) 1000000 (some .int) 0 0 0 sm_265 = true := by decide +kernel
set_option maxRecDepth 1000000 in
theorem ck_265_t0 : ab_smP tb_X11_valley (ab_ev2 ab_ME2 1000000 6) 1000000 (some .int) 0 0 sm_265 0 = true := by decide +kernel
set_option maxRecDepth 1000000 in
theorem ck_265_t1_h : ab_smQ tb_X11_valley (ab_ev2 ab_ME2 1000000 6) sm_265 1 (kk_hd tb_X11_valley (ab_ev2 ab_ME2 1000000 6) (some .int) 0 0 sm_265.2.2.1 885 1) = true := by decide +kernel
set_option maxRecDepth 1000000 in
theorem ck_265_t1_0 : ab_smQ tb_X11_valley (ab_ev2 ab_ME2 1000000 6) sm_265 1 (kk_sl tb_X11_valley (ab_ev2 ab_ME2 1000000 6) 20000 (some .int) 0 0 sm_265.2.2.1 885 0 1) = true := by decide +kernel
theorem ck_265_t1 : ab_smP tb_X11_valley (ab_ev2 ab_ME2 1000000 6) 1000000 (some .int) 0 0 sm_265 1 = true := ab_tpl_sl (F := 20000) (k := 885) (N := 1) (L := [(0, 1)]) (by decide +kernel) (by decide) ck_265_t1_h (List.forall_mem_cons.mpr ⟨ck_265_t1_0, fun _ h => nomatch h⟩)
set_option maxRecDepth 1000000 in
theorem ck_265_t2 : ab_smP tb_X11_valley (ab_ev2 ab_ME2 1000000 6) 1000000 (some .int) 0 0 sm_265 2 = true := by decide +kernel
set_option maxRecDepth 1000000 in
theorem ck_265_t3 : ab_smP tb_X11_valley (ab_ev2 ab_ME2 1000000 6) 1000000 (some .int) 0 0 sm_265 3 = true := by decide +kernel
set_option maxRecDepth 1000000 in
theorem ck_265_t4 : ab_smP tb_X11_valley (ab_ev2 ab_ME2 1000000 6) 1000000 (some .int) 0 0 sm_265 4 = true := by decide +kernel
set_option maxRecDepth 1000000 in
theorem ck_265_t5 : ab_smP tb_X11_valley (ab_ev2 ab_ME2 1000000 6) 1000000 (some .int) 0 0 sm_265 5 = true := by decide +kernel
set_option maxRecDepth 1000000 in
theorem ck_265_t6 : ab_smP tb_X11_valley (ab_ev2 ab_ME2 1000000 6) 1000000 (some .int) 0 0 sm_265 6 = true := by decide +kernel
set_option maxRecDepth 1000000 in
theorem ck_265_t7 : ab_smP tb_X11_valley (ab_ev2 ab_ME2 1000000 6) 1000000 (some .int) 0 0 sm_265 7 = true := by decide +kernel
set_option maxRecDepth 1000000 in
theorem ck_265_t8 : ab_smP tb_X11_valley (ab_ev2 ab_ME2 1000000 6) 1000000 (some .int) 0 0 sm_265 8 = true := by decide +kernel
set_option maxRecDepth 1000000 in
theorem ck_265_t9 : ab_smP tb_X11_valley (ab_ev2 ab_ME2 1000000 6) 1000000 (some .int) 0 0 sm_265 9 = true := by decide +kernel
set_option maxRecDepth 1000000 in
theorem ck_265_t10 : ab_smP tb_X11_valley (ab_ev2 ab_ME2 1000000 6) 1000000 (some .int) 0 0 sm_265 10 = true := by decide +kernel
theorem ck_265 : ab_smC tb_X11_valley (ab_ev2 ab_ME2 1000000 6) 1000000 (some .int) 0 0 0 sm_265 = true := ab_smC_of 11 rfl ck_265_e (fun i hi => (show ∀ j ∈ List.range 11, ab_smP tb_X11_valley (ab_ev2 ab_ME2 1000000 6) 1000000 (some .int) 0 0 sm_265 j = true from by
    have e : List.range 11 = [0, 1, 2, 3, 4, 5, 6, 7, 8, 9, 10] := by decide
    rw [e]
    exact List.forall_mem_cons.mpr ⟨ck_265_t0, List.forall_mem_cons.mpr ⟨ck_265_t1, List.forall_mem_cons.mpr ⟨ck_265_t2, List.forall_mem_cons.mpr ⟨ck_265_t3, List.forall_mem_cons.mpr ⟨ck_265_t4, List.forall_mem_cons.mpr ⟨ck_265_t5, List.forall_mem_cons.mpr ⟨ck_265_t6, List.forall_mem_cons.mpr ⟨ck_265_t7, List.forall_mem_cons.mpr ⟨ck_265_t8, List.forall_mem_cons.mpr ⟨ck_265_t9, List.forall_mem_cons.mpr ⟨ck_265_t10, fun _ h => nomatch h⟩⟩⟩⟩⟩⟩⟩⟩⟩⟩⟩) i (List.mem_range.mpr hi))
set_option maxRecDepth 1000000 in
theorem ck_266 : ab_smC tb_X5_search (ab_ev2 ab_ME2 1000000 6) 1000000 (none) 0 0 0 sm_266 = true := by decide +kernel
set_option maxRecDepth 1000000 in
theorem ck_267 : ab_smC tb_X5_search (ab_ev2 ab_ME2 1000000 6) 1000000 (none) 0 0 0 sm_267 = true := by decide +kernel
set_option maxRecDepth 1000000 in
theorem ck_268 : ab_smC tb_X6_readAll (ab_ev2 ab_ME2 1000000 6) 1000000 (some .boolean) 0 0 0 sm_268 = true := by decide +kernel
set_option maxRecDepth 1000000 in
theorem ck_269 : ab_smC tb_X6_readAll (ab_ev2 ab_ME2 1000000 6) 1000000 (some .boolean) 0 0 0 sm_269 = true := by decide +kernel
set_option maxRecDepth 1000000 in
theorem ck_270 : ab_smC tb_X6_readAll (ab_ev2 ab_ME2 1000000 6) 1000000 (some .boolean) 0 0 0 sm_270 = true := by decide +kernel
set_option maxRecDepth 1000000 in
theorem ck_271 : ab_smC tb_X6_readAll (ab_ev2 ab_ME2 1000000 6) 1000000 (some .boolean) 0 0 0 sm_271 = true := by decide +kernel
set_option maxRecDepth 1000000 in
theorem ck_272 : ab_smC tb_X9_readInto (ab_ev2 ab_ME2 1000000 6) 1000000 (some .int) 0 0 0 sm_272 = true := by decide +kernel
set_option maxRecDepth 1000000 in
theorem ck_273 : ab_smC tb_X9_readInto (ab_ev2 ab_ME2 1000000 6) 1000000 (some .int) 0 0 0 sm_273 = true := by decide +kernel
set_option maxRecDepth 1000000 in
theorem ck_274 : ab_smC tb_X0_judge (ab_ev2 ab_ME2 1000000 7) 1000000 (none) 0 0 0 sm_274 = true := by decide +kernel
set_option maxRecDepth 1000000 in
theorem ck_275 : ab_smC tb_X0_judge (ab_ev2 ab_ME2 1000000 7) 1000000 (none) 0 0 0 sm_275 = true := by decide +kernel
set_option maxRecDepth 1000000 in
theorem ck_276 : ab_smC tb_X10_valley (ab_ev2 ab_ME2 1000000 7) 1000000 (some .int) 0 0 0 sm_276 = true := by decide +kernel
set_option maxRecDepth 1000000 in
theorem ck_277 : ab_smC tb_X5_search (ab_ev2 ab_ME2 1000000 7) 1000000 (none) 0 0 0 sm_277 = true := by decide +kernel
set_option maxRecDepth 1000000 in
theorem ck_278 : ab_smC tb_X5_search (ab_ev2 ab_ME2 1000000 7) 1000000 (none) 0 0 0 sm_278 = true := by decide +kernel
set_option maxRecDepth 1000000 in
theorem ck_279 : ab_smC tb_X6_readCond (ab_ev2 ab_ME2 1000000 7) 1000000 (some .boolean) 0 0 0 sm_279 = true := by decide +kernel
set_option maxRecDepth 1000000 in
theorem ck_280 : ab_smC tb_X6_readCond (ab_ev2 ab_ME2 1000000 7) 1000000 (some .boolean) 0 0 0 sm_280 = true := by decide +kernel
set_option maxRecDepth 1000000 in
theorem ck_281 : ab_smC tb_X6_readCond (ab_ev2 ab_ME2 1000000 7) 1000000 (some .boolean) 0 0 0 sm_281 = true := by decide +kernel
set_option maxRecDepth 1000000 in
theorem ck_282 : ab_smC tb_X6_readCond (ab_ev2 ab_ME2 1000000 7) 1000000 (some .boolean) 0 0 0 sm_282 = true := by decide +kernel
set_option maxRecDepth 1000000 in
theorem ck_283 : ab_smC tb_X10_book (ab_ev2 ab_ME2 1000000 8) 1000000 (some .int) 0 0 0 sm_283 = true := by decide +kernel
set_option maxRecDepth 1000000 in
theorem ck_284 : ab_smC tb_X5_search (ab_ev2 ab_ME2 1000000 8) 1000000 (none) 0 0 0 sm_284 = true := by decide +kernel
set_option maxRecDepth 1000000 in
theorem ck_285 : ab_smC tb_X5_search (ab_ev2 ab_ME2 1000000 8) 1000000 (none) 0 0 0 sm_285 = true := by decide +kernel
set_option maxRecDepth 1000000 in
theorem ck_286 : ab_smC tb_X6_readOne (ab_ev2 ab_ME2 1000000 8) 1000000 (some .boolean) 0 0 0 sm_286 = true := by decide +kernel
set_option maxRecDepth 1000000 in
theorem ck_287 : ab_smC tb_X6_readOne (ab_ev2 ab_ME2 1000000 8) 1000000 (some .boolean) 0 0 0 sm_287 = true := by decide +kernel
set_option maxRecDepth 1000000 in
theorem ck_288 : ab_smC tb_X6_readOne (ab_ev2 ab_ME2 1000000 8) 1000000 (some .boolean) 0 0 0 sm_288 = true := by decide +kernel
set_option maxRecDepth 1000000 in
theorem ck_289 : ab_smC tb_X6_readOne (ab_ev2 ab_ME2 1000000 8) 1000000 (some .boolean) 0 0 0 sm_289 = true := by decide +kernel
set_option maxRecDepth 1000000 in
theorem ck_290 : ab_smC tb_X5_search (ab_ev2 ab_ME2 1000000 9) 1000000 (none) 0 0 0 sm_290 = true := by decide +kernel
set_option maxRecDepth 1000000 in
theorem ck_291 : ab_smC tb_X5_search (ab_ev2 ab_ME2 1000000 9) 1000000 (none) 0 0 0 sm_291 = true := by decide +kernel
set_option maxRecDepth 1000000 in
theorem ck_292 : ab_smC tb_X6_readAll (ab_ev2 ab_ME2 1000000 9) 1000000 (some .boolean) 0 0 0 sm_292 = true := by decide +kernel
set_option maxRecDepth 1000000 in
theorem ck_293 : ab_smC tb_X6_readAll (ab_ev2 ab_ME2 1000000 9) 1000000 (some .boolean) 0 0 0 sm_293 = true := by decide +kernel
set_option maxRecDepth 1000000 in
theorem ck_294 : ab_smC tb_X6_readAll (ab_ev2 ab_ME2 1000000 9) 1000000 (some .boolean) 0 0 0 sm_294 = true := by decide +kernel
set_option maxRecDepth 1000000 in
theorem ck_295 : ab_smC tb_X6_readAll (ab_ev2 ab_ME2 1000000 9) 1000000 (some .boolean) 0 0 0 sm_295 = true := by decide +kernel
set_option maxRecDepth 1000000 in
theorem ck_296 : ab_smC tb_X5_search (ab_ev2 ab_ME2 1000000 10) 1000000 (none) 0 0 0 sm_296 = true := by decide +kernel
set_option maxRecDepth 1000000 in
theorem ck_297 : ab_smC tb_X5_search (ab_ev2 ab_ME2 1000000 10) 1000000 (none) 0 0 0 sm_297 = true := by decide +kernel
set_option maxRecDepth 1000000 in
theorem ck_298 : ab_smC tb_X6_readCond (ab_ev2 ab_ME2 1000000 10) 1000000 (some .boolean) 0 0 0 sm_298 = true := by decide +kernel
set_option maxRecDepth 1000000 in
theorem ck_299 : ab_smC tb_X6_readCond (ab_ev2 ab_ME2 1000000 10) 1000000 (some .boolean) 0 0 0 sm_299 = true := by decide +kernel
set_option maxRecDepth 1000000 in
theorem ck_300 : ab_smC tb_X6_readCond (ab_ev2 ab_ME2 1000000 10) 1000000 (some .boolean) 0 0 0 sm_300 = true := by decide +kernel
set_option maxRecDepth 1000000 in
theorem ck_301 : ab_smC tb_X6_readCond (ab_ev2 ab_ME2 1000000 10) 1000000 (some .boolean) 0 0 0 sm_301 = true := by decide +kernel
set_option maxRecDepth 1000000 in
theorem ck_302 : ab_smC tb_X6_readOne (ab_ev2 ab_ME2 1000000 11) 1000000 (some .boolean) 0 0 0 sm_302 = true := by decide +kernel
