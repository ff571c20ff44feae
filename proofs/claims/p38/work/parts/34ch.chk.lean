/-! The contexts are right. -/
set_option maxRecDepth 1000000 in
theorem ck_206_t2_1 : ab_smQ tb_X11_sentence (ab_ev2 ab_ME2 1000000 4) sm_206 2 (kk_sl tb_X11_sentence (ab_ev2 ab_ME2 1000000 4) 20000 (some .int) 0 0 sm_206.2.2.1 2 10 4) = true := by decide +kernel
set_option maxRecDepth 1000000 in
theorem ck_206_t2_2 : ab_smQ tb_X11_sentence (ab_ev2 ab_ME2 1000000 4) sm_206 2 (kk_sl tb_X11_sentence (ab_ev2 ab_ME2 1000000 4) 20000 (some .int) 0 0 sm_206.2.2.1 2 14 3) = true := by decide +kernel
set_option maxRecDepth 1000000 in
theorem ck_206_t2_3 : ab_smQ tb_X11_sentence (ab_ev2 ab_ME2 1000000 4) sm_206 2 (kk_sl tb_X11_sentence (ab_ev2 ab_ME2 1000000 4) 20000 (some .int) 0 0 sm_206.2.2.1 2 17 3) = true := by decide +kernel
set_option maxRecDepth 1000000 in
theorem ck_206_t2_4 : ab_smQ tb_X11_sentence (ab_ev2 ab_ME2 1000000 4) sm_206 2 (kk_sl tb_X11_sentence (ab_ev2 ab_ME2 1000000 4) 20000 (some .int) 0 0 sm_206.2.2.1 2 20 2) = true := by decide +kernel
set_option maxRecDepth 1000000 in
theorem ck_206_t2_5 : ab_smQ tb_X11_sentence (ab_ev2 ab_ME2 1000000 4) sm_206 2 (kk_sl tb_X11_sentence (ab_ev2 ab_ME2 1000000 4) 20000 (some .int) 0 0 sm_206.2.2.1 2 22 2) = true := by decide +kernel
set_option maxRecDepth 1000000 in
theorem ck_206_t2_6 : ab_smQ tb_X11_sentence (ab_ev2 ab_ME2 1000000 4) sm_206 2 (kk_sl tb_X11_sentence (ab_ev2 ab_ME2 1000000 4) 20000 (some .int) 0 0 sm_206.2.2.1 2 24 2) = true := by decide +kernel
set_option maxRecDepth 1000000 in
theorem ck_206_t2_7 : ab_smQ tb_X11_sentence (ab_ev2 ab_ME2 1000000 4) sm_206 2 (kk_sl tb_X11_sentence (ab_ev2 ab_ME2 1000000 4) 20000 (some .int) 0 0 sm_206.2.2.1 2 26 2) = true := by decide +kernel
set_option maxRecDepth 1000000 in
theorem ck_206_t2_8 : ab_smQ tb_X11_sentence (ab_ev2 ab_ME2 1000000 4) sm_206 2 (kk_sl tb_X11_sentence (ab_ev2 ab_ME2 1000000 4) 20000 (some .int) 0 0 sm_206.2.2.1 2 28 2) = true := by decide +kernel
set_option maxRecDepth 1000000 in
theorem ck_206_t2_9 : ab_smQ tb_X11_sentence (ab_ev2 ab_ME2 1000000 4) sm_206 2 (kk_sl tb_X11_sentence (ab_ev2 ab_ME2 1000000 4) 20000 (some .int) 0 0 sm_206.2.2.1 2 30 2) = true := by decide +kernel
set_option maxRecDepth 1000000 in
theorem ck_206_t2_10 : ab_smQ tb_X11_sentence (ab_ev2 ab_ME2 1000000 4) sm_206 2 (kk_sl tb_X11_sentence (ab_ev2 ab_ME2 1000000 4) 20000 (some .int) 0 0 sm_206.2.2.1 2 32 1) = true := by decide +kernel
set_option maxRecDepth 1000000 in
theorem ck_206_t2_11 : ab_smQ tb_X11_sentence (ab_ev2 ab_ME2 1000000 4) sm_206 2 (kk_sl tb_X11_sentence (ab_ev2 ab_ME2 1000000 4) 20000 (some .int) 0 0 sm_206.2.2.1 2 33 1) = true := by decide +kernel
set_option maxRecDepth 1000000 in
theorem ck_206_t2_12 : ab_smQ tb_X11_sentence (ab_ev2 ab_ME2 1000000 4) sm_206 2 (kk_sl tb_X11_sentence (ab_ev2 ab_ME2 1000000 4) 20000 (some .int) 0 0 sm_206.2.2.1 2 34 1) = true := by decide +kernel
set_option maxRecDepth 1000000 in
theorem ck_206_t2_13 : ab_smQ tb_X11_sentence (ab_ev2 ab_ME2 1000000 4) sm_206 2 (kk_sl tb_X11_sentence (ab_ev2 ab_ME2 1000000 4) 20000 (some .int) 0 0 sm_206.2.2.1 2 35 1) = true := by decide +kernel
set_option maxRecDepth 1000000 in
theorem ck_206_t2_14 : ab_smQ tb_X11_sentence (ab_ev2 ab_ME2 1000000 4) sm_206 2 (kk_sl tb_X11_sentence (ab_ev2 ab_ME2 1000000 4) 20000 (some .int) 0 0 sm_206.2.2.1 2 36 1) = true := by decide +kernel
set_option maxRecDepth 1000000 in
theorem ck_206_t2_15 : ab_smQ tb_X11_sentence (ab_ev2 ab_ME2 1000000 4) sm_206 2 (kk_sl tb_X11_sentence (ab_ev2 ab_ME2 1000000 4) 20000 (some .int) 0 0 sm_206.2.2.1 2 37 1) = true := by decide +kernel
