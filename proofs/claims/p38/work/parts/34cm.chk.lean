/-! The contexts are right. -/
set_option maxRecDepth 1000000 in
theorem ck_371 : ab_smC tb_X6_readOne (ab_ev2 ab_ME2 1000000 26) 1000000 (some .boolean) 0 0 0 sm_371 = true := by decide +kernel
set_option maxRecDepth 1000000 in
theorem ck_372 : ab_smC tb_X6_readOne (ab_ev2 ab_ME2 1000000 26) 1000000 (some .boolean) 0 0 0 sm_372 = true := by decide +kernel
set_option maxRecDepth 1000000 in
theorem ck_373 : ab_smC tb_X6_readOne (ab_ev2 ab_ME2 1000000 26) 1000000 (some .boolean) 0 0 0 sm_373 = true := by decide +kernel
set_option maxRecDepth 1000000 in
theorem ck_374 : ab_smC tb_X6_readAll (ab_ev2 ab_ME2 1000000 27) 1000000 (some .boolean) 0 0 0 sm_374 = true := by decide +kernel
set_option maxRecDepth 1000000 in
theorem ck_375 : ab_smC tb_X6_readAll (ab_ev2 ab_ME2 1000000 27) 1000000 (some .boolean) 0 0 0 sm_375 = true := by decide +kernel
set_option maxRecDepth 1000000 in
theorem ck_376 : ab_smC tb_X6_readAll (ab_ev2 ab_ME2 1000000 27) 1000000 (some .boolean) 0 0 0 sm_376 = true := by decide +kernel
set_option maxRecDepth 1000000 in
theorem ck_377 : ab_smC tb_X6_readAll (ab_ev2 ab_ME2 1000000 27) 1000000 (some .boolean) 0 0 0 sm_377 = true := by decide +kernel
set_option maxRecDepth 1000000 in
theorem ck_378 : ab_smC tb_X6_readCond (ab_ev2 ab_ME2 1000000 28) 1000000 (some .boolean) 0 0 0 sm_378 = true := by decide +kernel
set_option maxRecDepth 1000000 in
theorem ck_379 : ab_smC tb_X6_readCond (ab_ev2 ab_ME2 1000000 28) 1000000 (some .boolean) 0 0 0 sm_379 = true := by decide +kernel
set_option maxRecDepth 1000000 in
theorem ck_380 : ab_smC tb_X6_readCond (ab_ev2 ab_ME2 1000000 28) 1000000 (some .boolean) 0 0 0 sm_380 = true := by decide +kernel
set_option maxRecDepth 1000000 in
theorem ck_381 : ab_smC tb_X6_readCond (ab_ev2 ab_ME2 1000000 28) 1000000 (some .boolean) 0 0 0 sm_381 = true := by decide +kernel
set_option maxRecDepth 1000000 in
theorem ck_382 : ab_smC tb_X6_read (ab_ev2 ab_ME2 1000000 29) 1000000 (some .boolean) 0 0 0 sm_382 = true := by decide +kernel
set_option maxRecDepth 1000000 in
theorem ck_383 : ab_smC tb_X6_read (ab_ev2 ab_ME2 1000000 29) 1000000 (some .boolean) 0 0 0 sm_383 = true := by decide +kernel
set_option maxRecDepth 1000000 in
theorem ck_384 : ab_smC tb_X6_read (ab_ev2 ab_ME2 1000000 29) 1000000 (some .boolean) 0 0 0 sm_384 = true := by decide +kernel
set_option maxRecDepth 1000000 in
theorem ck_385 : ab_smC tb_X6_read (ab_ev2 ab_ME2 1000000 29) 1000000 (some .boolean) 0 0 0 sm_385 = true := by decide +kernel
set_option maxRecDepth 1000000 in
theorem ck_386 : ab_smC tb_X10_sentence (ab_ev2 ab_ME2 1000000 30) 1000000 (some .int) 0 0 0 sm_386 = true := by decide +kernel
