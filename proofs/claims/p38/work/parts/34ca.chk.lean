/-! The contexts are right. -/
set_option maxRecDepth 1000000 in
theorem ck_0 : ab_smC tb_X10_added (ab_ev2 ab_ME2 1000000 1) 1000000 (some .int) 0 0 0 sm_0 = true := by decide +kernel
set_option maxRecDepth 1000000 in
theorem ck_1 : ab_smC tb_X10_added (ab_ev2 ab_ME2 1000000 1) 1000000 (some .int) 0 0 0 sm_1 = true := by decide +kernel
set_option maxRecDepth 1000000 in
theorem ck_2 : ab_smC tb_X10_added (ab_ev2 ab_ME2 1000000 1) 1000000 (some .int) 0 0 0 sm_2 = true := by decide +kernel
set_option maxRecDepth 1000000 in
theorem ck_3 : ab_smC tb_X10_book (ab_ev2 ab_ME2 1000000 1) 1000000 (some .int) 0 0 0 sm_3 = true := by decide +kernel
set_option maxRecDepth 1000000 in
theorem ck_4 : ab_smC tb_X10_book (ab_ev2 ab_ME2 1000000 1) 1000000 (some .int) 0 0 0 sm_4 = true := by decide +kernel
set_option maxRecDepth 1000000 in
theorem ck_5 : ab_smC tb_X10_count (ab_ev2 ab_ME2 1000000 1) 1000000 (some .int) 0 0 0 sm_5 = true := by decide +kernel
set_option maxRecDepth 1000000 in
theorem ck_6 : ab_smC tb_X10_image (ab_ev2 ab_ME2 1000000 1) 1000000 (some .boolean) 0 0 0 sm_6 = true := by decide +kernel
set_option maxRecDepth 1000000 in
theorem ck_7 : ab_smC tb_X10_image (ab_ev2 ab_ME2 1000000 1) 1000000 (some .boolean) 0 0 0 sm_7 = true := by decide +kernel
set_option maxRecDepth 1000000 in
theorem ck_8 : ab_smC tb_X10_minutesOff (ab_ev2 ab_ME2 1000000 1) 1000000 (some .int) 0 0 0 sm_8 = true := by decide +kernel
set_option maxRecDepth 1000000 in
theorem ck_9 : ab_smC tb_X10_noonLong (ab_ev2 ab_ME2 1000000 1) 1000000 (some .int) 1 6 1 sm_9 = true := by decide +kernel
set_option maxRecDepth 1000000 in
theorem ck_10 : ab_smC tb_X10_restore (ab_ev2 ab_ME2 1000000 1) 1000000 (some .boolean) 0 0 0 sm_10 = true := by decide +kernel
set_option maxRecDepth 1000000 in
theorem ck_11 : ab_smC tb_X10_restore (ab_ev2 ab_ME2 1000000 1) 1000000 (some .boolean) 0 0 0 sm_11 = true := by decide +kernel
set_option maxRecDepth 1000000 in
theorem ck_12 : ab_smC tb_X10_votes (ab_ev2 ab_ME2 1000000 1) 1000000 (some .int) 1 6 1 sm_12 = true := by decide +kernel
set_option maxRecDepth 1000000 in
theorem ck_13 : ab_smC tb_X11_back (ab_ev2 ab_ME2 1000000 1) 1000000 (none) 0 0 0 sm_13 = true := by decide +kernel
set_option maxRecDepth 1000000 in
theorem ck_14 : ab_smC tb_X11_book (ab_ev2 ab_ME2 1000000 1) 1000000 (some .int) 0 0 0 sm_14 = true := by decide +kernel
set_option maxRecDepth 1000000 in
theorem ck_15 : ab_smC tb_X11_book (ab_ev2 ab_ME2 1000000 1) 1000000 (some .int) 0 0 0 sm_15 = true := by decide +kernel
set_option maxRecDepth 1000000 in
theorem ck_16 : ab_smC tb_X11_dueOf (ab_ev2 ab_ME2 1000000 1) 1000000 (some .int) 0 0 0 sm_16 = true := by decide +kernel
set_option maxRecDepth 1000000 in
theorem ck_17 : ab_smC tb_X11_find (ab_ev2 ab_ME2 1000000 1) 1000000 (some .int) 0 0 0 sm_17 = true := by decide +kernel
set_option maxRecDepth 1000000 in
theorem ck_18 : ab_smC tb_X11_find (ab_ev2 ab_ME2 1000000 1) 1000000 (some .int) 0 0 0 sm_18 = true := by decide +kernel
set_option maxRecDepth 1000000 in
theorem ck_19 : ab_smC tb_X11_find (ab_ev2 ab_ME2 1000000 1) 1000000 (some .int) 0 0 0 sm_19 = true := by decide +kernel
set_option maxRecDepth 1000000 in
theorem ck_20 : ab_smC tb_X11_find (ab_ev2 ab_ME2 1000000 1) 1000000 (some .int) 0 0 0 sm_20 = true := by decide +kernel
set_option maxRecDepth 1000000 in
theorem ck_21 : ab_smC tb_X11_find (ab_ev2 ab_ME2 1000000 1) 1000000 (some .int) 0 0 0 sm_21 = true := by decide +kernel
set_option maxRecDepth 1000000 in
theorem ck_22 : ab_smC tb_X11_find (ab_ev2 ab_ME2 1000000 1) 1000000 (some .int) 0 0 0 sm_22 = true := by decide +kernel
set_option maxRecDepth 1000000 in
theorem ck_23 : ab_smC tb_X11_freezes (ab_ev2 ab_ME2 1000000 1) 1000000 (some .int) 0 0 0 sm_23 = true := by decide +kernel
set_option maxRecDepth 1000000 in
theorem ck_24_e_h : ab_smR sm_24 (kk_hd tb_X11_image (ab_ev2 ab_ME2 1000000 1) (some .boolean) 0 0 sm_24.2.2.1 1493 1) = true := by decide +kernel
set_option maxRecDepth 1000000 in
theorem ck_24_e_0 : ab_smR sm_24 (kk_sl tb_X11_image (ab_ev2 ab_ME2 1000000 1) 20000 (some .boolean) 0 0 sm_24.2.2.1 1493 0 1) = true := by decide +kernel
set_option maxRecDepth 1000000 in
theorem ck_24_e : ab_smE tb_X11_image (ab_ev2 ab_ME2 1000000 1) 1000000 (some .boolean) 0 0 0 sm_24 = true := ab_ent_sl (F := 20000) (k := 1493) (N := 1) (L := [(0, 1)]) (by decide +kernel) (by decide) ck_24_e_h (List.forall_mem_cons.mpr ⟨ck_24_e_0, fun _ h => nomatch h⟩) (by decide +kernel)
set_option maxRecDepth 1000000 in
theorem ck_24_t0 : ab_smP tb_X11_image (ab_ev2 ab_ME2 1000000 1) 1000000 (some .boolean) 0 0 sm_24 0 = true := by decide +kernel
theorem ck_24 : ab_smC tb_X11_image (ab_ev2 ab_ME2 1000000 1) 1000000 (some .boolean) 0 0 0 sm_24 = true := ab_smC_of 1 rfl ck_24_e (fun i hi => (show ∀ j ∈ List.range 1, ab_smP tb_X11_image (ab_ev2 ab_ME2 1000000 1) 1000000 (some .boolean) 0 0 sm_24 j = true from by
    have e : List.range 1 = [0] := by decide
    rw [e]
    exact List.forall_mem_cons.mpr ⟨ck_24_t0, fun _ h => nomatch h⟩) i (List.mem_range.mpr hi))
set_option maxRecDepth 1000000 in
theorem ck_25_e_h : ab_smR sm_25 (kk_hd tb_X11_image (ab_ev2 ab_ME2 1000000 1) (some .boolean) 0 0 sm_25.2.2.1 1493 1) = true := by decide +kernel
set_option maxRecDepth 1000000 in
theorem ck_25_e_0 : ab_smR sm_25 (kk_sl tb_X11_image (ab_ev2 ab_ME2 1000000 1) 20000 (some .boolean) 0 0 sm_25.2.2.1 1493 0 1) = true := by decide +kernel
set_option maxRecDepth 1000000 in
theorem ck_25_e : ab_smE tb_X11_image (ab_ev2 ab_ME2 1000000 1) 1000000 (some .boolean) 0 0 0 sm_25 = true := ab_ent_sl (F := 20000) (k := 1493) (N := 1) (L := [(0, 1)]) (by decide +kernel) (by decide) ck_25_e_h (List.forall_mem_cons.mpr ⟨ck_25_e_0, fun _ h => nomatch h⟩) (by decide +kernel)
set_option maxRecDepth 1000000 in
theorem ck_25_t0 : ab_smP tb_X11_image (ab_ev2 ab_ME2 1000000 1) 1000000 (some .boolean) 0 0 sm_25 0 = true := by decide +kernel
theorem ck_25 : ab_smC tb_X11_image (ab_ev2 ab_ME2 1000000 1) 1000000 (some .boolean) 0 0 0 sm_25 = true := ab_smC_of 1 rfl ck_25_e (fun i hi => (show ∀ j ∈ List.range 1, ab_smP tb_X11_image (ab_ev2 ab_ME2 1000000 1) 1000000 (some .boolean) 0 0 sm_25 j = true from by
    have e : List.range 1 = [0] := by decide
    rw [e]
    exact List.forall_mem_cons.mpr ⟨ck_25_t0, fun _ h => nomatch h⟩) i (List.mem_range.mpr hi))
set_option maxRecDepth 1000000 in
theorem ck_26 : ab_smC tb_X11_image (ab_ev2 ab_ME2 1000000 1) 1000000 (some .boolean) 0 0 0 sm_26 = true := by decide +kernel
set_option maxRecDepth 1000000 in
theorem ck_27 : ab_smC tb_X11_image (ab_ev2 ab_ME2 1000000 1) 1000000 (some .boolean) 0 0 0 sm_27 = true := by decide +kernel
set_option maxRecDepth 1000000 in
theorem ck_28 : ab_smC tb_X11_isLeaf (ab_ev2 ab_ME2 1000000 1) 1000000 (some .boolean) 0 0 0 sm_28 = true := by decide +kernel
set_option maxRecDepth 1000000 in
theorem ck_29 : ab_smC tb_X11_isLeaf (ab_ev2 ab_ME2 1000000 1) 1000000 (some .boolean) 0 0 0 sm_29 = true := by decide +kernel
set_option maxRecDepth 1000000 in
theorem ck_30 : ab_smC tb_X11_isName (ab_ev2 ab_ME2 1000000 1) 1000000 (some .boolean) 0 0 0 sm_30 = true := by decide +kernel
set_option maxRecDepth 1000000 in
theorem ck_31 : ab_smC tb_X11_isSign (ab_ev2 ab_ME2 1000000 1) 1000000 (some .boolean) 0 0 0 sm_31 = true := by decide +kernel
set_option maxRecDepth 1000000 in
theorem ck_32 : ab_smC tb_X11_isWord (ab_ev2 ab_ME2 1000000 1) 1000000 (some .boolean) 0 0 0 sm_32 = true := by decide +kernel
set_option maxRecDepth 1000000 in
theorem ck_33 : ab_smC tb_X11_joins (ab_ev2 ab_ME2 1000000 1) 1000000 (none) 0 0 0 sm_33 = true := by decide +kernel
set_option maxRecDepth 1000000 in
theorem ck_34_e_h : ab_smR sm_34 (kk_hd tb_X11_next (ab_ev2 ab_ME2 1000000 1) (none) 0 0 sm_34.2.2.1 4 4) = true := by decide +kernel
set_option maxRecDepth 1000000 in
theorem ck_34_e_0 : ab_smR sm_34 (kk_sl tb_X11_next (ab_ev2 ab_ME2 1000000 1) 20000 (none) 0 0 sm_34.2.2.1 4 0 2) = true := by decide +kernel
set_option maxRecDepth 1000000 in
theorem ck_34_e_1 : ab_smR sm_34 (kk_sl tb_X11_next (ab_ev2 ab_ME2 1000000 1) 20000 (none) 0 0 sm_34.2.2.1 4 2 1) = true := by decide +kernel
set_option maxRecDepth 1000000 in
theorem ck_34_e_2 : ab_smR sm_34 (kk_sl tb_X11_next (ab_ev2 ab_ME2 1000000 1) 20000 (none) 0 0 sm_34.2.2.1 4 3 1) = true := by decide +kernel
set_option maxRecDepth 1000000 in
theorem ck_34_e : ab_smE tb_X11_next (ab_ev2 ab_ME2 1000000 1) 1000000 (none) 0 0 0 sm_34 = true := ab_ent_sl (F := 20000) (k := 4) (N := 4) (L := [(0, 2), (2, 1), (3, 1)]) (by decide +kernel) (by decide) ck_34_e_h (List.forall_mem_cons.mpr ⟨ck_34_e_0, List.forall_mem_cons.mpr ⟨ck_34_e_1, List.forall_mem_cons.mpr ⟨ck_34_e_2, fun _ h => nomatch h⟩⟩⟩) (by decide +kernel)
set_option maxRecDepth 1000000 in
theorem ck_34_t0_h : ab_smQ tb_X11_next (ab_ev2 ab_ME2 1000000 1) sm_34 0 (kk_hd tb_X11_next (ab_ev2 ab_ME2 1000000 1) (none) 0 0 sm_34.2.2.1 10 4) = true := by decide +kernel
set_option maxRecDepth 1000000 in
theorem ck_34_t0_0 : ab_smQ tb_X11_next (ab_ev2 ab_ME2 1000000 1) sm_34 0 (kk_sl tb_X11_next (ab_ev2 ab_ME2 1000000 1) 20000 (none) 0 0 sm_34.2.2.1 10 0 2) = true := by decide +kernel
set_option maxRecDepth 1000000 in
theorem ck_34_t0_1 : ab_smQ tb_X11_next (ab_ev2 ab_ME2 1000000 1) sm_34 0 (kk_sl tb_X11_next (ab_ev2 ab_ME2 1000000 1) 20000 (none) 0 0 sm_34.2.2.1 10 2 1) = true := by decide +kernel
set_option maxRecDepth 1000000 in
theorem ck_34_t0_2 : ab_smQ tb_X11_next (ab_ev2 ab_ME2 1000000 1) sm_34 0 (kk_sl tb_X11_next (ab_ev2 ab_ME2 1000000 1) 20000 (none) 0 0 sm_34.2.2.1 10 3 1) = true := by decide +kernel
theorem ck_34_t0 : ab_smP tb_X11_next (ab_ev2 ab_ME2 1000000 1) 1000000 (none) 0 0 sm_34 0 = true := ab_tpl_sl (F := 20000) (k := 10) (N := 4) (L := [(0, 2), (2, 1), (3, 1)]) (by decide +kernel) (by decide) ck_34_t0_h (List.forall_mem_cons.mpr ⟨ck_34_t0_0, List.forall_mem_cons.mpr ⟨ck_34_t0_1, List.forall_mem_cons.mpr ⟨ck_34_t0_2, fun _ h => nomatch h⟩⟩⟩)
set_option maxRecDepth 1000000 in
theorem ck_34_t1_h : ab_smQ tb_X11_next (ab_ev2 ab_ME2 1000000 1) sm_34 1 (kk_hd tb_X11_next (ab_ev2 ab_ME2 1000000 1) (none) 0 0 sm_34.2.2.1 2 4) = true := by decide +kernel
set_option maxRecDepth 1000000 in
theorem ck_34_t1_0 : ab_smQ tb_X11_next (ab_ev2 ab_ME2 1000000 1) sm_34 1 (kk_sl tb_X11_next (ab_ev2 ab_ME2 1000000 1) 20000 (none) 0 0 sm_34.2.2.1 2 0 1) = true := by decide +kernel
set_option maxRecDepth 1000000 in
theorem ck_34_t1_1 : ab_smQ tb_X11_next (ab_ev2 ab_ME2 1000000 1) sm_34 1 (kk_sl tb_X11_next (ab_ev2 ab_ME2 1000000 1) 20000 (none) 0 0 sm_34.2.2.1 2 1 1) = true := by decide +kernel
set_option maxRecDepth 1000000 in
theorem ck_34_t1_2 : ab_smQ tb_X11_next (ab_ev2 ab_ME2 1000000 1) sm_34 1 (kk_sl tb_X11_next (ab_ev2 ab_ME2 1000000 1) 20000 (none) 0 0 sm_34.2.2.1 2 2 1) = true := by decide +kernel
