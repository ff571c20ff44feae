/-! The contexts are right. -/
set_option maxRecDepth 1000000 in
theorem ck_166_e_6 : ab_smR sm_166 (kk_sl tb_X6_plainHolds (ab_ev2 ab_ME2 1000000 3) 20000 (some .boolean) 0 0 sm_166.2.2.1 1 30 5) = true := by decide +kernel
set_option maxRecDepth 1000000 in
theorem ck_166_e_7 : ab_smR sm_166 (kk_sl tb_X6_plainHolds (ab_ev2 ab_ME2 1000000 3) 20000 (some .boolean) 0 0 sm_166.2.2.1 1 35 5) = true := by decide +kernel
set_option maxRecDepth 1000000 in
theorem ck_166_e : ab_smE tb_X6_plainHolds (ab_ev2 ab_ME2 1000000 3) 1000000 (some .boolean) 0 0 0 sm_166 = true := ab_ent_sl (F := 20000) (k := 1) (N := 40) (L := [(0, 5), (5, 5), (10, 5), (15, 5), (20, 5), (25, 5), (30, 5), (35, 5)]) (by decide +kernel) (by decide) ck_166_e_h (List.forall_mem_cons.mpr ⟨ck_166_e_0, List.forall_mem_cons.mpr ⟨ck_166_e_1, List.forall_mem_cons.mpr ⟨ck_166_e_2, List.forall_mem_cons.mpr ⟨ck_166_e_3, List.forall_mem_cons.mpr ⟨ck_166_e_4, List.forall_mem_cons.mpr ⟨ck_166_e_5, List.forall_mem_cons.mpr ⟨ck_166_e_6, List.forall_mem_cons.mpr ⟨ck_166_e_7, fun _ h => nomatch h⟩⟩⟩⟩⟩⟩⟩⟩) (by decide +kernel)
theorem ck_166 : ab_smC tb_X6_plainHolds (ab_ev2 ab_ME2 1000000 3) 1000000 (some .boolean) 0 0 0 sm_166 = true := ab_smC_of 0 rfl ck_166_e (fun i hi => absurd hi (Nat.not_lt_zero i))
set_option maxRecDepth 1000000 in
theorem ck_167_e_h : ab_smR sm_167 (kk_hd tb_X6_plainHolds (ab_ev2 ab_ME2 1000000 3) (some .boolean) 0 0 sm_167.2.2.1 1 40) = true := by decide +kernel
set_option maxRecDepth 1000000 in
theorem ck_167_e_0 : ab_smR sm_167 (kk_sl tb_X6_plainHolds (ab_ev2 ab_ME2 1000000 3) 20000 (some .boolean) 0 0 sm_167.2.2.1 1 0 5) = true := by decide +kernel
set_option maxRecDepth 1000000 in
theorem ck_167_e_1 : ab_smR sm_167 (kk_sl tb_X6_plainHolds (ab_ev2 ab_ME2 1000000 3) 20000 (some .boolean) 0 0 sm_167.2.2.1 1 5 5) = true := by decide +kernel
set_option maxRecDepth 1000000 in
theorem ck_167_e_2 : ab_smR sm_167 (kk_sl tb_X6_plainHolds (ab_ev2 ab_ME2 1000000 3) 20000 (some .boolean) 0 0 sm_167.2.2.1 1 10 5) = true := by decide +kernel
set_option maxRecDepth 1000000 in
theorem ck_167_e_3 : ab_smR sm_167 (kk_sl tb_X6_plainHolds (ab_ev2 ab_ME2 1000000 3) 20000 (some .boolean) 0 0 sm_167.2.2.1 1 15 5) = true := by decide +kernel
set_option maxRecDepth 1000000 in
theorem ck_167_e_4 : ab_smR sm_167 (kk_sl tb_X6_plainHolds (ab_ev2 ab_ME2 1000000 3) 20000 (some .boolean) 0 0 sm_167.2.2.1 1 20 5) = true := by decide +kernel
set_option maxRecDepth 1000000 in
theorem ck_167_e_5 : ab_smR sm_167 (kk_sl tb_X6_plainHolds (ab_ev2 ab_ME2 1000000 3) 20000 (some .boolean) 0 0 sm_167.2.2.1 1 25 5) = true := by decide +kernel
set_option maxRecDepth 1000000 in
theorem ck_167_e_6 : ab_smR sm_167 (kk_sl tb_X6_plainHolds (ab_ev2 ab_ME2 1000000 3) 20000 (some .boolean) 0 0 sm_167.2.2.1 1 30 5) = true := by decide +kernel
set_option maxRecDepth 1000000 in
theorem ck_167_e_7 : ab_smR sm_167 (kk_sl tb_X6_plainHolds (ab_ev2 ab_ME2 1000000 3) 20000 (some .boolean) 0 0 sm_167.2.2.1 1 35 5) = true := by decide +kernel
set_option maxRecDepth 1000000 in
theorem ck_167_e : ab_smE tb_X6_plainHolds (ab_ev2 ab_ME2 1000000 3) 1000000 (some .boolean) 0 0 0 sm_167 = true := ab_ent_sl (F := 20000) (k := 1) (N := 40) (L := [(0, 5), (5, 5), (10, 5), (15, 5), (20, 5), (25, 5), (30, 5), (35, 5)]) (by decide +kernel) (by decide) ck_167_e_h (List.forall_mem_cons.mpr ⟨ck_167_e_0, List.forall_mem_cons.mpr ⟨ck_167_e_1, List.forall_mem_cons.mpr ⟨ck_167_e_2, List.forall_mem_cons.mpr ⟨ck_167_e_3, List.forall_mem_cons.mpr ⟨ck_167_e_4, List.forall_mem_cons.mpr ⟨ck_167_e_5, List.forall_mem_cons.mpr ⟨ck_167_e_6, List.forall_mem_cons.mpr ⟨ck_167_e_7, fun _ h => nomatch h⟩⟩⟩⟩⟩⟩⟩⟩) (by decide +kernel)
theorem ck_167 : ab_smC tb_X6_plainHolds (ab_ev2 ab_ME2 1000000 3) 1000000 (some .boolean) 0 0 0 sm_167 = true := ab_smC_of 0 rfl ck_167_e (fun i hi => absurd hi (Nat.not_lt_zero i))
set_option maxRecDepth 1000000 in
theorem ck_168_e_h : ab_smR sm_168 (kk_hd tb_X6_plainHolds (ab_ev2 ab_ME2 1000000 3) (some .boolean) 0 0 sm_168.2.2.1 1 40) = true := by decide +kernel
set_option maxRecDepth 1000000 in
theorem ck_168_e_0 : ab_smR sm_168 (kk_sl tb_X6_plainHolds (ab_ev2 ab_ME2 1000000 3) 20000 (some .boolean) 0 0 sm_168.2.2.1 1 0 5) = true := by decide +kernel
