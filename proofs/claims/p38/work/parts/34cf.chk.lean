/-! The contexts are right. -/
set_option maxRecDepth 1000000 in
theorem ck_175_e_6 : ab_smR sm_175 (kk_sl tb_X6_plainHolds (ab_ev2 ab_ME2 1000000 3) 20000 (some .boolean) 0 0 sm_175.2.2.1 1 30 5) = true := by decide +kernel
set_option maxRecDepth 1000000 in
theorem ck_175_e_7 : ab_smR sm_175 (kk_sl tb_X6_plainHolds (ab_ev2 ab_ME2 1000000 3) 20000 (some .boolean) 0 0 sm_175.2.2.1 1 35 5) = true := by decide +kernel
set_option maxRecDepth 1000000 in
theorem ck_175_e : ab_smE tb_X6_plainHolds (ab_ev2 ab_ME2 1000000 3) 1000000 (some .boolean) 0 0 0 sm_175 = true := ab_ent_sl (F := 20000) (k := 1) (N := 40) (L := [(0, 5), (5, 5), (10, 5), (15, 5), (20, 5), (25, 5), (30, 5), (35, 5)]) (by decide +kernel) (by decide) ck_175_e_h (List.forall_mem_cons.mpr ⟨ck_175_e_0, List.forall_mem_cons.mpr ⟨ck_175_e_1, List.forall_mem_cons.mpr ⟨ck_175_e_2, List.forall_mem_cons.mpr ⟨ck_175_e_3, List.forall_mem_cons.mpr ⟨ck_175_e_4, List.forall_mem_cons.mpr ⟨ck_175_e_5, List.forall_mem_cons.mpr ⟨ck_175_e_6, List.forall_mem_cons.mpr ⟨ck_175_e_7, fun _ h => nomatch h⟩⟩⟩⟩⟩⟩⟩⟩) (by decide +kernel)
theorem ck_175 : ab_smC tb_X6_plainHolds (ab_ev2 ab_ME2 1000000 3) 1000000 (some .boolean) 0 0 0 sm_175 = true := ab_smC_of 0 rfl ck_175_e (fun i hi => absurd hi (Nat.not_lt_zero i))
set_option maxRecDepth 1000000 in
theorem ck_176_e_h : ab_smR sm_176 (kk_hd tb_X6_plainHolds (ab_ev2 ab_ME2 1000000 3) (some .boolean) 0 0 sm_176.2.2.1 1 40) = true := by decide +kernel
set_option maxRecDepth 1000000 in
theorem ck_176_e_0 : ab_smR sm_176 (kk_sl tb_X6_plainHolds (ab_ev2 ab_ME2 1000000 3) 20000 (some .boolean) 0 0 sm_176.2.2.1 1 0 5) = true := by decide +kernel
set_option maxRecDepth 1000000 in
theorem ck_176_e_1 : ab_smR sm_176 (kk_sl tb_X6_plainHolds (ab_ev2 ab_ME2 1000000 3) 20000 (some .boolean) 0 0 sm_176.2.2.1 1 5 5) = true := by decide +kernel
set_option maxRecDepth 1000000 in
theorem ck_176_e_2 : ab_smR sm_176 (kk_sl tb_X6_plainHolds (ab_ev2 ab_ME2 1000000 3) 20000 (some .boolean) 0 0 sm_176.2.2.1 1 10 5) = true := by decide +kernel
set_option maxRecDepth 1000000 in
theorem ck_176_e_3 : ab_smR sm_176 (kk_sl tb_X6_plainHolds (ab_ev2 ab_ME2 1000000 3) 20000 (some .boolean) 0 0 sm_176.2.2.1 1 15 5) = true := by decide +kernel
set_option maxRecDepth 1000000 in
theorem ck_176_e_4 : ab_smR sm_176 (kk_sl tb_X6_plainHolds (ab_ev2 ab_ME2 1000000 3) 20000 (some .boolean) 0 0 sm_176.2.2.1 1 20 5) = true := by decide +kernel
set_option maxRecDepth 1000000 in
theorem ck_176_e_5 : ab_smR sm_176 (kk_sl tb_X6_plainHolds (ab_ev2 ab_ME2 1000000 3) 20000 (some .boolean) 0 0 sm_176.2.2.1 1 25 5) = true := by decide +kernel
set_option maxRecDepth 1000000 in
theorem ck_176_e_6 : ab_smR sm_176 (kk_sl tb_X6_plainHolds (ab_ev2 ab_ME2 1000000 3) 20000 (some .boolean) 0 0 sm_176.2.2.1 1 30 5) = true := by decide +kernel
set_option maxRecDepth 1000000 in
theorem ck_176_e_7 : ab_smR sm_176 (kk_sl tb_X6_plainHolds (ab_ev2 ab_ME2 1000000 3) 20000 (some .boolean) 0 0 sm_176.2.2.1 1 35 5) = true := by decide +kernel
set_option maxRecDepth 1000000 in
theorem ck_176_e : ab_smE tb_X6_plainHolds (ab_ev2 ab_ME2 1000000 3) 1000000 (some .boolean) 0 0 0 sm_176 = true := ab_ent_sl (F := 20000) (k := 1) (N := 40) (L := [(0, 5), (5, 5), (10, 5), (15, 5), (20, 5), (25, 5), (30, 5), (35, 5)]) (by decide +kernel) (by decide) ck_176_e_h (List.forall_mem_cons.mpr ⟨ck_176_e_0, List.forall_mem_cons.mpr ⟨ck_176_e_1, List.forall_mem_cons.mpr ⟨ck_176_e_2, List.forall_mem_cons.mpr ⟨ck_176_e_3, List.forall_mem_cons.mpr ⟨ck_176_e_4, List.forall_mem_cons.mpr ⟨ck_176_e_5, List.forall_mem_cons.mpr ⟨ck_176_e_6, List.forall_mem_cons.mpr ⟨ck_176_e_7, fun _ h => nomatch h⟩⟩⟩⟩⟩⟩⟩⟩) (by decide +kernel)
theorem ck_176 : ab_smC tb_X6_plainHolds (ab_ev2 ab_ME2 1000000 3) 1000000 (some .boolean) 0 0 0 sm_176 = true := ab_smC_of 0 rfl ck_176_e (fun i hi => absurd hi (Nat.not_lt_zero i))
set_option maxRecDepth 1000000 in
theorem ck_177_e_h : ab_smR sm_177 (kk_hd tb_X6_plainHolds (ab_ev2 ab_ME2 1000000 3) (some .boolean) 0 0 sm_177.2.2.1 1 40) = true := by decide +kernel
set_option maxRecDepth 1000000 in
theorem ck_177_e_0 : ab_smR sm_177 (kk_sl tb_X6_plainHolds (ab_ev2 ab_ME2 1000000 3) 20000 (some .boolean) 0 0 sm_177.2.2.1 1 0 5) = true := by decide +kernel
