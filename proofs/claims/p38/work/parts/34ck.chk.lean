/-! The contexts are right. -/
set_option maxRecDepth 1000000 in
theorem ck_269_t2_1 : ab_smQ tb_X11_book (ab_ev2 ab_ME2 1000000 6) sm_269 2 (kk_sl tb_X11_book (ab_ev2 ab_ME2 1000000 6) 20000 (some .int) 0 0 sm_269.2.2.1 0 12 12) = true := by decide +kernel
set_option maxRecDepth 1000000 in
theorem ck_269_t2_2 : ab_smQ tb_X11_book (ab_ev2 ab_ME2 1000000 6) sm_269 2 (kk_sl tb_X11_book (ab_ev2 ab_ME2 1000000 6) 20000 (some .int) 0 0 sm_269.2.2.1 0 24 12) = true := by decide +kernel
set_option maxRecDepth 1000000 in
theorem ck_269_t2_3 : ab_smQ tb_X11_book (ab_ev2 ab_ME2 1000000 6) sm_269 2 (kk_sl tb_X11_book (ab_ev2 ab_ME2 1000000 6) 20000 (some .int) 0 0 sm_269.2.2.1 0 36 5) = true := by decide +kernel
theorem ck_269_t2 : ab_smP tb_X11_book (ab_ev2 ab_ME2 1000000 6) 1000000 (some .int) 0 0 sm_269 2 = true := ab_tpl_sl (F := 20000) (k := 0) (N := 41) (L := [(0, 12), (12, 12), (24, 12), (36, 5)]) (by decide +kernel) (by decide) ck_269_t2_h (List.forall_mem_cons.mpr ⟨ck_269_t2_0, List.forall_mem_cons.mpr ⟨ck_269_t2_1, List.forall_mem_cons.mpr ⟨ck_269_t2_2, List.forall_mem_cons.mpr ⟨ck_269_t2_3, fun _ h => nomatch h⟩⟩⟩⟩)
set_option maxRecDepth 1000000 in
theorem ck_269_t3 : ab_smP tb_X11_book (ab_ev2 ab_ME2 1000000 6) 1000000 (some .int) 0 0 sm_269 3 = true := by decide +kernel
set_option maxRecDepth 1000000 in
theorem ck_269_t4 : ab_smP tb_X11_book (ab_ev2 ab_ME2 1000000 6) 1000000 (some .int) 0 0 sm_269 4 = true := by decide +kernel
theorem ck_269 : ab_smC tb_X11_book (ab_ev2 ab_ME2 1000000 6) 1000000 (some .int) 0 0 0 sm_269 = true := ab_smC_of 5 rfl ck_269_e (fun i hi => (show ∀ j ∈ List.range 5, ab_smP tb_X11_book (ab_ev2 ab_ME2 1000000 6) 1000000 (some .int) 0 0 sm_269 j = true from by
    have e : List.range 5 = [0, 1, 2, 3, 4] := by decide
    rw [e]
    exact List.forall_mem_cons.mpr ⟨ck_269_t0, List.forall_mem_cons.mpr ⟨ck_269_t1, List.forall_mem_cons.mpr ⟨ck_269_t2, List.forall_mem_cons.mpr ⟨ck_269_t3, List.forall_mem_cons.mpr ⟨ck_269_t4, fun _ h => nomatch h⟩⟩⟩⟩⟩) i (List.mem_range.mpr hi))
set_option maxRecDepth 1000000 in
theorem ck_270_e_h : ab_smR sm_270 (kk_hd tb_X11_drawn (ab_ev2 ab_ME2 1000000 6) (some .int) 0 0 sm_270.2.2.1 26 5) = true := by decide +kernel
set_option maxRecDepth 1000000 in
theorem ck_270_e_0 : ab_smR sm_270 (kk_sl tb_X11_drawn (ab_ev2 ab_ME2 1000000 6) 20000 (some .int) 0 0 sm_270.2.2.1 26 0 5) = true := by decide +kernel
set_option maxRecDepth 1000000 in
theorem ck_270_e : ab_smE tb_X11_drawn (ab_ev2 ab_ME2 1000000 6) 1000000 (some .int) 0 0 0 sm_270 = true := ab_ent_sl (F := 20000) (k := 26) (N := 5) (L := [(0, 5)]) (by decide +kernel) (by decide) ck_270_e_h (List.forall_mem_cons.mpr ⟨ck_270_e_0, fun _ h => nomatch h⟩) (by decide +kernel)
theorem ck_270 : ab_smC tb_X11_drawn (ab_ev2 ab_ME2 1000000 6) 1000000 (some .int) 0 0 0 sm_270 = true := ab_smC_of 0 rfl ck_270_e (fun i hi => absurd hi (Nat.not_lt_zero i))
set_option maxRecDepth 1000000 in
theorem ck_271 : ab_smC tb_X11_odds (ab_ev2 ab_ME2 1000000 6) 1000000 (some .int) 0 0 0 sm_271 = true := by decide +kernel
set_option maxRecDepth 1000000 in
theorem ck_272 : ab_smC tb_X11_said (ab_ev2 ab_ME2 1000000 6) 1000000 (some .int) 0 0 0 sm_272 = true := by decide +kernel
set_option maxRecDepth 1000000 in
theorem ck_273_e : ab_smE tb_X11_valley (ab_ev2 ab_ME2 1000000 6) 1000000 (some .int) 0 0 0 sm_273 = true := by decide +kernel
set_option maxRecDepth 1000000 in
theorem ck_273_t0 : ab_smP tb_X11_valley (ab_ev2 ab_ME2 1000000 6) 1000000 (some .int) 0 0 sm_273 0 = true := by decide +kernel
set_option maxRecDepth 1000000 in
theorem ck_273_t1_h : ab_smQ tb_X11_valley (ab_ev2 ab_ME2 1000000 6) sm_273 1 (kk_hd tb_X11_valley (ab_ev2 ab_ME2 1000000 6) (some .int) 0 0 sm_273.2.2.1 885 1) = true := by decide +kernel
set_option maxRecDepth 1000000 in
theorem ck_273_t1_0 : ab_smQ tb_X11_valley (ab_ev2 ab_ME2 1000000 6) sm_273 1 (kk_sl tb_X11_valley (ab_ev2 ab_ME2 1000000 6) 20000 (some .int) 0 0 sm_273.2.2.1 885 0 1) = true := by decide +kernel
theorem ck_273_t1 : ab_smP tb_X11_valley (ab_ev2 ab_ME2 1000000 6) 1000000 (some .int) 0 0 sm_273 1 = true := ab_tpl_sl (F := 20000) (k := 885) (N := 1) (L := [(0, 1)]) (by decide +kernel) (by decide) ck_273_t1_h (List.forall_mem_cons.mpr ⟨ck_273_t1_0, fun _ h => nomatch h⟩)
set_option maxRecDepth 1000000 in
theorem ck_273_t2 : ab_smP tb_X11_valley (ab_ev2 ab_ME2 1000000 6) 1000000 (some .int) 0 0 sm_273 2 = true := by decide +kernel
set_option maxRecDepth 1000000 in
theorem ck_273_t3 : ab_smP tb_X11_valley (ab_ev2 ab_ME2 1000000 6) 1000000 (some .int) 0 0 sm_273 3 = true := by decide +kernel
set_option maxRecDepth 1000000 in
theorem ck_273_t4 : ab_smP tb_X11_valley (ab_ev2 ab_ME2 1000000 6) 1000000 (some .int) 0 0 sm_273 4 = true := by decide +kernel
set_option maxRecDepth 1000000 in
theorem ck_273_t5 : ab_smP tb_X11_valley (ab_ev2 ab_ME2 1000000 6) 1000000 (some .int) 0 0 sm_273 5 = true := by decide +kernel
set_option maxRecDepth 1000000 in
theorem ck_273_t6 : ab_smP tb_X11_valley (ab_ev2 ab_ME2 1000000 6) 1000000 (some .int) 0 0 sm_273 6 = true := by decide +kernel
set_option maxRecDepth 1000000 in
theorem ck_273_t7 : ab_smP tb_X11_valley (ab_ev2 ab_ME2 1000000 6) 1000000 (some .int) 0 0 sm_273 7 = true := by decide +kernel
set_option maxRecDepth 1000000 in
theorem ck_273_t8 : ab_smP tb_X11_valley (ab_ev2 ab_ME2 1000000 6) 1000000 (some .int) 0 0 sm_273 8 = true := by decide +kernel
set_option maxRecDepth 1000000 in
theorem ck_273_t9 : ab_smP tb_X11_valley (ab_ev2 ab_ME2 1000000 6) 1000000 (some .int) 0 0 sm_273 9 = true := by decide +kernel
set_option maxRecDepth 1000000 in
theorem ck_273_t10 : ab_smP tb_X11_valley (ab_ev2 ab_ME2 1000000 6) 1000000 (some .int) 0 0 sm_273 10 = true := by decide +kernel
theorem ck_273 : ab_smC tb_X11_valley (ab_ev2 ab_ME2 1000000 6) 1000000 (some .int) 0 0 0 sm_273 = true := ab_smC_of 11 rfl ck_273_e (fun i hi => (show ∀ j ∈ List.range 11, ab_smP tb_X11_valley (ab_ev2 ab_ME2 1000000 6) 1000000 (some .int) 0 0 sm_273 j = true from by
    have e : List.range 11 = [0, 1, 2, 3, 4, 5, 6, 7, 8, 9, 10] := by decide
    rw [e]
    exact List.forall_mem_cons.mpr ⟨ck_273_t0, List.forall_mem_cons.mpr ⟨ck_273_t1, List.forall_mem_cons.mpr ⟨ck_273_t2, List.forall_mem_cons.mpr ⟨ck_273_t3, List.forall_mem_cons.mpr ⟨ck_273_t4, List.forall_mem_cons.mpr ⟨ck_273_t5, List.forall_mem_cons.mpr ⟨ck_273_t6, List.forall_mem_cons.mpr ⟨ck_273_t7, List.forall_mem_cons.mpr ⟨ck_273_t8, List.forall_mem_cons.mpr ⟨ck_273_t9, List.forall_mem_cons.mpr ⟨ck_273_t10, fun _ h => nomatch h⟩⟩⟩⟩⟩⟩⟩⟩⟩⟩⟩) i (List.mem_range.mpr hi))
set_option maxRecDepth 1000000 in
theorem ck_274 : ab_smC tb_X5_search (ab_ev2 ab_ME2 1000000 6) 1000000 (none) 0 0 0 sm_274 = true := by decide +kernel
set_option maxRecDepth 1000000 in
theorem ck_275 : ab_smC tb_X5_search (ab_ev2 ab_ME2 1000000 6) 1000000 (none) 0 0 0 sm_275 = true := by decide +kernel
set_option maxRecDepth 1000000 in
theorem ck_276 : ab_smC tb_X6_readAll (ab_ev2 ab_ME2 1000000 6) 1000000 (some .boolean) 0 0 0 sm_276 = true := by decide +kernel
set_option maxRecDepth 1000000 in
theorem ck_277 : ab_smC tb_X6_readAll (ab_ev2 ab_ME2 1000000 6) 1000000 (some .boolean) 0 0 0 sm_277 = true := by decide +kernel
set_option maxRecDepth 1000000 in
theorem ck_278 : ab_smC tb_X6_readAll (ab_ev2 ab_ME2 1000000 6) 1000000 (some .boolean) 0 0 0 sm_278 = true := by decide +kernel
set_option maxRecDepth 1000000 in
theorem ck_279 : ab_smC tb_X6_readAll (ab_ev2 ab_ME2 1000000 6) 1000000 (some .boolean) 0 0 0 sm_279 = true := by decide +kernel
set_option maxRecDepth 1000000 in
theorem ck_280 : ab_smC tb_X9_readInto (ab_ev2 ab_ME2 1000000 6) 1000000 (some .int) 0 0 0 sm_280 = true := by decide +kernel
set_option maxRecDepth 1000000 in
theorem ck_281 : ab_smC tb_X9_readInto (ab_ev2 ab_ME2 1000000 6) 1000000 (some .int) 0 0 0 sm_281 = true := by decide +kernel
set_option maxRecDepth 1000000 in
theorem ck_282 : ab_smC tb_X0_judge (ab_ev2 ab_ME2 1000000 7) 1000000 (none) 0 0 0 sm_282 = true := by decide +kernel
set_option maxRecDepth 1000000 in
theorem ck_283 : ab_smC tb_X0_judge (ab_ev2 ab_ME2 1000000 7) 1000000 (none) 0 0 0 sm_283 = true := by decide +kernel
set_option maxRecDepth 1000000 in
theorem ck_284 : ab_smC tb_X10_valley (ab_ev2 ab_ME2 1000000 7) 1000000 (some .int) 0 0 0 sm_284 = true := by decide +kernel
set_option maxRecDepth 1000000 in
theorem ck_285 : ab_smC tb_X5_search (ab_ev2 ab_ME2 1000000 7) 1000000 (none) 0 0 0 sm_285 = true := by decide +kernel
