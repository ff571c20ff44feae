/-! The contexts are right. -/
set_option maxRecDepth 1000000 in
theorem ck_177_e_1 : ab_smR sm_177 (kk_sl tb_X6_plainHolds (ab_ev2 ab_ME2 1000000 3) 20000 (some .boolean) 0 0 sm_177.2.2.1 1 5 5) = true := by decide +kernel
set_option maxRecDepth 1000000 in
theorem ck_177_e_2 : ab_smR sm_177 (kk_sl tb_X6_plainHolds (ab_ev2 ab_ME2 1000000 3) 20000 (some .boolean) 0 0 sm_177.2.2.1 1 10 5) = true := by decide +kernel
set_option maxRecDepth 1000000 in
theorem ck_177_e_3 : ab_smR sm_177 (kk_sl tb_X6_plainHolds (ab_ev2 ab_ME2 1000000 3) 20000 (some .boolean) 0 0 sm_177.2.2.1 1 15 5) = true := by decide +kernel
set_option maxRecDepth 1000000 in
theorem ck_177_e_4 : ab_smR sm_177 (kk_sl tb_X6_plainHolds (ab_ev2 ab_ME2 1000000 3) 20000 (some .boolean) 0 0 sm_177.2.2.1 1 20 5) = true := by decide +kernel
set_option maxRecDepth 1000000 in
theorem ck_177_e_5 : ab_smR sm_177 (kk_sl tb_X6_plainHolds (ab_ev2 ab_ME2 1000000 3) 20000 (some .boolean) 0 0 sm_177.2.2.1 1 25 5) = true := by decide +kernel
set_option maxRecDepth 1000000 in
theorem ck_177_e_6 : ab_smR sm_177 (kk_sl tb_X6_plainHolds (ab_ev2 ab_ME2 1000000 3) 20000 (some .boolean) 0 0 sm_177.2.2.1 1 30 5) = true := by decide +kernel
set_option maxRecDepth 1000000 in
theorem ck_177_e_7 : ab_smR sm_177 (kk_sl tb_X6_plainHolds (ab_ev2 ab_ME2 1000000 3) 20000 (some .boolean) 0 0 sm_177.2.2.1 1 35 5) = true := by decide +kernel
set_option maxRecDepth 1000000 in
theorem ck_177_e : ab_smE tb_X6_plainHolds (ab_ev2 ab_ME2 1000000 3) 1000000 (some .boolean) 0 0 0 sm_177 = true := ab_ent_sl (F := 20000) (k := 1) (N := 40) (L := [(0, 5), (5, 5), (10, 5), (15, 5), (20, 5), (25, 5), (30, 5), (35, 5)]) (by decide +kernel) (by decide) ck_177_e_h (List.forall_mem_cons.mpr ⟨ck_177_e_0, List.forall_mem_cons.mpr ⟨ck_177_e_1, List.forall_mem_cons.mpr ⟨ck_177_e_2, List.forall_mem_cons.mpr ⟨ck_177_e_3, List.forall_mem_cons.mpr ⟨ck_177_e_4, List.forall_mem_cons.mpr ⟨ck_177_e_5, List.forall_mem_cons.mpr ⟨ck_177_e_6, List.forall_mem_cons.mpr ⟨ck_177_e_7, fun _ h => nomatch h⟩⟩⟩⟩⟩⟩⟩⟩) (by decide +kernel)
theorem ck_177 : ab_smC tb_X6_plainHolds (ab_ev2 ab_ME2 1000000 3) 1000000 (some .boolean) 0 0 0 sm_177 = true := ab_smC_of 0 rfl ck_177_e (fun i hi => absurd hi (Nat.not_lt_zero i))
set_option maxRecDepth 1000000 in
theorem ck_178 : ab_smC tb_X6_readCond (ab_ev2 ab_ME2 1000000 3) 1000000 (some .boolean) 0 0 0 sm_178 = true := by decide +kernel
set_option maxRecDepth 1000000 in
theorem ck_179 : ab_smC tb_X6_readCond (ab_ev2 ab_ME2 1000000 3) 1000000 (some .boolean) 0 0 0 sm_179 = true := by decide +kernel
set_option maxRecDepth 1000000 in
theorem ck_180 : ab_smC tb_X6_readCond (ab_ev2 ab_ME2 1000000 3) 1000000 (some .boolean) 0 0 0 sm_180 = true := by decide +kernel
set_option maxRecDepth 1000000 in
theorem ck_181 : ab_smC tb_X6_readCond (ab_ev2 ab_ME2 1000000 3) 1000000 (some .boolean) 0 0 0 sm_181 = true := by decide +kernel
set_option maxRecDepth 1000000 in
theorem ck_182 : ab_smC tb_X7_breachBits (ab_ev2 ab_ME2 1000000 3) 1000000 (some .int) 0 0 0 sm_182 = true := by decide +kernel
set_option maxRecDepth 1000000 in
theorem ck_183 : ab_smC tb_X7_breachBits (ab_ev2 ab_ME2 1000000 3) 1000000 (some .int) 0 0 0 sm_183 = true := by decide +kernel
set_option maxRecDepth 1000000 in
theorem ck_184 : ab_smC tb_X7_breachBits (ab_ev2 ab_ME2 1000000 3) 1000000 (some .int) 0 0 0 sm_184 = true := by decide +kernel
set_option maxRecDepth 1000000 in
theorem ck_185 : ab_smC tb_X7_breachBits (ab_ev2 ab_ME2 1000000 3) 1000000 (some .int) 0 0 0 sm_185 = true := by decide +kernel
set_option maxRecDepth 1000000 in
theorem ck_186 : ab_smC tb_X7_comeNearer (ab_ev2 ab_ME2 1000000 3) 1000000 (some .boolean) 0 0 0 sm_186 = true := by decide +kernel
set_option maxRecDepth 1000000 in
theorem ck_187 : ab_smC tb_X7_comeNearer (ab_ev2 ab_ME2 1000000 3) 1000000 (some .boolean) 0 0 0 sm_187 = true := by decide +kernel
set_option maxRecDepth 1000000 in
theorem ck_188 : ab_smC tb_X7_passDay (ab_ev2 ab_ME2 1000000 3) 1000000 (none) 0 0 0 sm_188 = true := by decide +kernel
set_option maxRecDepth 1000000 in
theorem ck_189 : ab_smC tb_X7_passDay (ab_ev2 ab_ME2 1000000 3) 1000000 (none) 0 0 0 sm_189 = true := by decide +kernel
set_option maxRecDepth 1000000 in
theorem ck_190 : ab_smC tb_X7_passDay (ab_ev2 ab_ME2 1000000 3) 1000000 (none) 0 0 0 sm_190 = true := by decide +kernel
set_option maxRecDepth 1000000 in
theorem ck_191 : ab_smC tb_X7_passDay (ab_ev2 ab_ME2 1000000 3) 1000000 (none) 0 0 0 sm_191 = true := by decide +kernel
set_option maxRecDepth 1000000 in
theorem ck_192 : ab_smC tb_X10_even (ab_ev2 ab_ME2 1000000 4) 1000000 (some .int) 0 0 0 sm_192 = true := by decide +kernel
set_option maxRecDepth 1000000 in
theorem ck_193 : ab_smC tb_X10_kept (ab_ev2 ab_ME2 1000000 4) 1000000 (some .int) 0 0 0 sm_193 = true := by decide +kernel
set_option maxRecDepth 1000000 in
theorem ck_194 : ab_smC tb_X10_nearer (ab_ev2 ab_ME2 1000000 4) 1000000 (some .int) 0 0 0 sm_194 = true := by decide +kernel
set_option maxRecDepth 1000000 in
theorem ck_195 : ab_smC tb_X10_now (ab_ev2 ab_ME2 1000000 4) 1000000 (some .int) 1 6 1 sm_195 = true := by decide +kernel
set_option maxRecDepth 1000000 in
theorem ck_196 : ab_smC tb_X10_shadows (ab_ev2 ab_ME2 1000000 4) 1000000 (some .int) 0 0 0 sm_196 = true := by decide +kernel
set_option maxRecDepth 1000000 in
theorem ck_197 : ab_smC tb_X11_breachSet (ab_ev2 ab_ME2 1000000 4) 1000000 (some .int) 0 0 0 sm_197 = true := by decide +kernel
set_option maxRecDepth 1000000 in
theorem ck_198 : ab_smC tb_X11_even (ab_ev2 ab_ME2 1000000 4) 1000000 (some .int) 0 0 0 sm_198 = true := by decide +kernel
set_option maxRecDepth 1000000 in
theorem ck_199 : ab_smC tb_X11_goesOn (ab_ev2 ab_ME2 1000000 4) 1000000 (some .int) 0 0 0 sm_199 = true := by decide +kernel
set_option maxRecDepth 1000000 in
theorem ck_200 : ab_smC tb_X11_isLeaf (ab_ev2 ab_ME2 1000000 4) 1000000 (some .boolean) 0 0 0 sm_200 = true := by decide +kernel
set_option maxRecDepth 1000000 in
theorem ck_201 : ab_smC tb_X11_movesToDues (ab_ev2 ab_ME2 1000000 4) 1000000 (none) 0 0 0 sm_201 = true := by decide +kernel
set_option maxRecDepth 1000000 in
theorem ck_202 : ab_smC tb_X11_nearer (ab_ev2 ab_ME2 1000000 4) 1000000 (some .int) 0 0 0 sm_202 = true := by decide +kernel
set_option maxRecDepth 1000000 in
theorem ck_203 : ab_smC tb_X11_readTerm (ab_ev2 ab_ME2 1000000 4) 1000000 (some .boolean) 0 0 0 sm_203 = true := by decide +kernel
set_option maxRecDepth 1000000 in
theorem ck_204 : ab_smC tb_X11_readTown (ab_ev2 ab_ME2 1000000 4) 1000000 (some .boolean) 0 0 0 sm_204 = true := by decide +kernel
set_option maxRecDepth 1000000 in
theorem ck_205 : ab_smC tb_X11_readTrain (ab_ev2 ab_ME2 1000000 4) 1000000 (some .boolean) 0 0 0 sm_205 = true := by decide +kernel
set_option maxRecDepth 1000000 in
theorem ck_206_e : ab_smE tb_X11_sentence (ab_ev2 ab_ME2 1000000 4) 1000000 (some .int) 0 0 0 sm_206 = true := by decide +kernel
set_option maxRecDepth 1000000 in
theorem ck_206_t0 : ab_smP tb_X11_sentence (ab_ev2 ab_ME2 1000000 4) 1000000 (some .int) 0 0 sm_206 0 = true := by decide +kernel
set_option maxRecDepth 1000000 in
theorem ck_206_t1 : ab_smP tb_X11_sentence (ab_ev2 ab_ME2 1000000 4) 1000000 (some .int) 0 0 sm_206 1 = true := by decide +kernel
set_option maxRecDepth 1000000 in
theorem ck_206_t2_h : ab_smQ tb_X11_sentence (ab_ev2 ab_ME2 1000000 4) sm_206 2 (kk_hd tb_X11_sentence (ab_ev2 ab_ME2 1000000 4) (some .int) 0 0 sm_206.2.2.1 2 39) = true := by decide +kernel
set_option maxRecDepth 1000000 in
theorem ck_206_t2_0 : ab_smQ tb_X11_sentence (ab_ev2 ab_ME2 1000000 4) sm_206 2 (kk_sl tb_X11_sentence (ab_ev2 ab_ME2 1000000 4) 20000 (some .int) 0 0 sm_206.2.2.1 2 0 10) = true := by decide +kernel
